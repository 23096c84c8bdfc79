/-! operations, C -/
theorem n6_register_e (S : z_MI) (P : z_ML) (x1 : Int32) : e_X6_register S P x1 = (if (f_X1_isClaim S P x1) = true then (if (S 77921 x1.toNatClampNeg) = 0 then (if (f_X6_isVotedFor S P x1) = true then (if (f_X6_provedOf S P x1) = 0 then (0) else (if (f_X1_isBarred S P x1) = true then (0) else (0))) else (0)) else (3)) else (1)) := by
  have q0 : (nI 0 = (0 : Int32)) = True := eq_true nI_0
  have q1 : (nI 1 = (0 : Int32)) = False := eq_false (by decide)
  have q2 : (nI 2 = (0 : Int32)) = False := eq_false (by decide)
  have q3 : (nI 3 = (0 : Int32)) = False := eq_false (by decide)
  unfold e_X6_register f_X6_firstFailed
  by_cases v : f_X6_isVotedFor S P x1 = true <;> by_cases p : f_X6_provedOf S P x1 = 0 <;> by_cases b : f_X1_isBarred S P x1 = true <;> simp only [v, p, b, q0, q1, q2, q3, if_true, if_false, ite_self, Bool.false_eq_true]
theorem n6_register_u (S : z_MI) (P : z_ML) (x1 : Int32) : u_X6_register S P x1 = (if (f_X1_isClaim S P x1) = true then (if (S 77921 x1.toNatClampNeg) = 0 then (if (f_X6_isVotedFor S P x1) = true then (if (f_X6_provedOf S P x1) = 0 then (S) else (if (f_X1_isBarred S P x1) = true then (S) else (va_up (va_up S 77921 (upd (S 77921) x1.toNatClampNeg (nI 1))) 82017 (upd ((va_up S 77921 (upd (S 77921) x1.toNatClampNeg (nI 1))) 82017) x1.toNatClampNeg (S 2096 8))))) else (S)) else (S)) else (S)) := by
  have q0 : (nI 0 = (0 : Int32)) = True := eq_true nI_0
  have q1 : (nI 1 = (0 : Int32)) = False := eq_false (by decide)
  have q2 : (nI 2 = (0 : Int32)) = False := eq_false (by decide)
  have q3 : (nI 3 = (0 : Int32)) = False := eq_false (by decide)
  unfold u_X6_register f_X6_firstFailed
  by_cases v : f_X6_isVotedFor S P x1 = true <;> by_cases p : f_X6_provedOf S P x1 = 0 <;> by_cases b : f_X1_isBarred S P x1 = true <;> simp only [v, p, b, q0, q1, q2, q3, if_true, if_false, ite_self, Bool.false_eq_true]
theorem n6_register_f (S : z_MI) (P : z_ML) (x1 : Int32) : f_X6_register S P x1 = (if (f_X1_isClaim S P x1) = true then (if (S 77921 x1.toNatClampNeg) = 0 then (if (f_X6_isVotedFor S P x1) = true then (if (f_X6_provedOf S P x1) = 0 then (nI 2) else (if (f_X1_isBarred S P x1) = true then (nI 3) else (nI 0))) else (nI 1)) else (0)) else (0)) := by
  have q0 : (nI 0 = (0 : Int32)) = True := eq_true nI_0
  have q1 : (nI 1 = (0 : Int32)) = False := eq_false (by decide)
  have q2 : (nI 2 = (0 : Int32)) = False := eq_false (by decide)
  have q3 : (nI 3 = (0 : Int32)) = False := eq_false (by decide)
  unfold f_X6_register f_X6_firstFailed
  by_cases v : f_X6_isVotedFor S P x1 = true <;> by_cases p : f_X6_provedOf S P x1 = 0 <;> by_cases b : f_X1_isBarred S P x1 = true <;> simp only [v, p, b, q0, q1, q2, q3, if_true, if_false, ite_self, Bool.false_eq_true]
theorem k_voted {S T : z_MI} {P Q : z_ML} (h : i_2 S T P Q) {c : Int32} (hc : f_X1_isClaim S P c = true) : ((f_X7_bits (va_up T 110648 (upd (T 110648) 0 (nI 0))) Q ((T 178273 c.toNatClampNeg) &&& (f_X7_membersOf (va_up T 110648 (upd (T 110648) 0 (nI 0))) Q (T 165985 c.toNatClampNeg)))) < ((nI 2) * (f_X7_bits (va_up T 110648 (upd (T 110648) 0 (nI 0))) Q ((T 180321 c.toNatClampNeg) &&& (f_X7_membersOf (va_up T 110648 (upd (T 110648) 0 (nI 0))) Q (T 165985 c.toNatClampNeg)))))) ↔ f_X6_isVotedFor S P c = true := by
  obtain ⟨k, rfl, hk, hk2⟩ := k_idxC h hc
  have hp := k_clp h hk2 P
  have hT := i_thr (x := nI 0) h
  have nn := k_memNN P h (S 71777 k)
  rw [i_a_claimOf h, i_a_voted h, i_a_votedYes h, k_nI (by omega), k_membersOf (P' := P) (Q' := Q) hT hp, j_pop S _ P Q (j_nn_andr nn), j_pop S _ P Q (j_nn_andr nn), Int32.mul_comm (nI 2)]
  unfold f_X6_isVotedFor
  rw [k_nI (by omega)]
  by_cases e : f_J6_bitCount_0f7a4 S P (S 86113 k &&& f_X2_membersOf S P (S 71777 k)) * nI 2 ≤ f_J6_bitCount_0f7a4 S P (S 84065 k &&& f_X2_membersOf S P (S 71777 k))
  · rw [if_pos e]
    exact ⟨fun q => absurd e (fun z => k_nle.mpr z q), fun q => by cases q⟩
  · rw [if_neg e]
    exact ⟨fun _ => rfl, fun _ => Classical.byContradiction fun q => e (k_nle.mp q)⟩
theorem ok_register {S T : z_MI} {P Q : z_ML} (h : i_2 S T P Q) (x1 : Int32) : i_G 1 0 2 (e_X6_register S P x1) S (u_X6_register S P x1) P Q (u_X7_register T Q x1) ((f_X6_register S P x1).toInt64) ((f_X7_register T Q x1).toInt64) := by
  have m0 : ((f_X7_isClaim T Q x1) = true) ↔ (((f_X1_isClaim S P x1) = true)) := by rw [k_isClaim (P' := P) h]
  have m1 : ((T 172129 x1.toNatClampNeg) = 0) ↔ (((S 77921 x1.toNatClampNeg) = 0)) := by rw [i_a_claimState h]
  have m3 : ((f_X7_provedOf (va_up T 110648 (upd (T 110648) 0 (nI 0))) Q x1) = 0) ↔ (((f_X6_provedOf S P x1) = 0)) := by rw [k_provedOf (P' := P) (Q' := Q) (i_thr (x := nI 0) h)]
  have m4 : ((f_X7_hasOther (va_up T 110648 (upd (T 110648) 0 (nI 0))) Q x1) = true) ↔ (((f_X1_isBarred S P x1) = true)) := by rw [k_hasOther (P' := P) (Q' := Q) (i_thr (x := nI 0) h)]
  by_cases c0 : (f_X1_isClaim S P x1) = true
  · skip
    by_cases c1 : (S 77921 x1.toNatClampNeg) = 0
    · skip
      by_cases c2 : (f_X6_isVotedFor S P x1) = true
      · skip
        by_cases c3 : (f_X6_provedOf S P x1) = 0
        · skip
          have nm0 : (f_X7_isClaim T Q x1) = true := m0.mpr c0
          have nm1 : (T 172129 x1.toNatClampNeg) = 0 := m1.mpr c1
          have m2 : ((f_X7_bits (va_up T 110648 (upd (T 110648) 0 (nI 0))) Q ((T 178273 x1.toNatClampNeg) &&& (f_X7_membersOf (va_up T 110648 (upd (T 110648) 0 (nI 0))) Q (T 165985 x1.toNatClampNeg)))) < ((nI 2) * (f_X7_bits (va_up T 110648 (upd (T 110648) 0 (nI 0))) Q ((T 180321 x1.toNatClampNeg) &&& (f_X7_membersOf (va_up T 110648 (upd (T 110648) 0 (nI 0))) Q (T 165985 x1.toNatClampNeg)))))) ↔ (((f_X6_isVotedFor S P x1) = true)) := k_voted h c0
          have nm2 : (f_X7_bits (va_up T 110648 (upd (T 110648) 0 (nI 0))) Q ((T 178273 x1.toNatClampNeg) &&& (f_X7_membersOf (va_up T 110648 (upd (T 110648) 0 (nI 0))) Q (T 165985 x1.toNatClampNeg)))) < ((nI 2) * (f_X7_bits (va_up T 110648 (upd (T 110648) 0 (nI 0))) Q ((T 180321 x1.toNatClampNeg) &&& (f_X7_membersOf (va_up T 110648 (upd (T 110648) 0 (nI 0))) Q (T 165985 x1.toNatClampNeg))))) := m2.mpr c2
          have nm3 : (f_X7_provedOf (va_up T 110648 (upd (T 110648) 0 (nI 0))) Q x1) = 0 := m3.mpr c3
          have he : e_X6_register S P x1 = (0) := by
            rw [n6_register_e]
            rw [if_pos c0, if_pos c1, if_pos c2, if_pos c3]
          have hV : u_X7_register T Q x1 = (va_up T 110648 (upd (T 110648) 0 (nI 0))) := by
            unfold u_X7_register
            rw [if_pos nm0, if_pos nm1, if_pos nm2, if_pos nm3, if_pos nm3]
          have hU : u_X6_register S P x1 = (S) := by
            rw [n6_register_u]
            rw [if_pos c0, if_pos c1, if_pos c2, if_pos c3]
          have hf : f_X6_register S P x1 = (nI 2) := by
            rw [n6_register_f]
            rw [if_pos c0, if_pos c1, if_pos c2, if_pos c3]
          have hg : f_X7_register T Q x1 = (nI 2) := by
            unfold f_X7_register
            rw [if_pos nm0, if_pos nm1, if_pos nm2, if_pos nm3, if_pos nm3]
          refine i_Gok he hU hV rfl ?_ ?_
          · rw [hf, hg]
          · exact i_thr h
        · skip
          by_cases c4 : (f_X1_isBarred S P x1) = true
          · skip
            have nm0 : (f_X7_isClaim T Q x1) = true := m0.mpr c0
            have nm1 : (T 172129 x1.toNatClampNeg) = 0 := m1.mpr c1
            have m2 : ((f_X7_bits (va_up T 110648 (upd (T 110648) 0 (nI 0))) Q ((T 178273 x1.toNatClampNeg) &&& (f_X7_membersOf (va_up T 110648 (upd (T 110648) 0 (nI 0))) Q (T 165985 x1.toNatClampNeg)))) < ((nI 2) * (f_X7_bits (va_up T 110648 (upd (T 110648) 0 (nI 0))) Q ((T 180321 x1.toNatClampNeg) &&& (f_X7_membersOf (va_up T 110648 (upd (T 110648) 0 (nI 0))) Q (T 165985 x1.toNatClampNeg)))))) ↔ (((f_X6_isVotedFor S P x1) = true)) := k_voted h c0
            have nm2 : (f_X7_bits (va_up T 110648 (upd (T 110648) 0 (nI 0))) Q ((T 178273 x1.toNatClampNeg) &&& (f_X7_membersOf (va_up T 110648 (upd (T 110648) 0 (nI 0))) Q (T 165985 x1.toNatClampNeg)))) < ((nI 2) * (f_X7_bits (va_up T 110648 (upd (T 110648) 0 (nI 0))) Q ((T 180321 x1.toNatClampNeg) &&& (f_X7_membersOf (va_up T 110648 (upd (T 110648) 0 (nI 0))) Q (T 165985 x1.toNatClampNeg))))) := m2.mpr c2
            have nm3 : ¬ ((f_X7_provedOf (va_up T 110648 (upd (T 110648) 0 (nI 0))) Q x1) = 0) := fun q => c3 ((m3.mp q))
            have nm4 : (f_X7_hasOther (va_up T 110648 (upd (T 110648) 0 (nI 0))) Q x1) = true := m4.mpr c4
            have he : e_X6_register S P x1 = (0) := by
              rw [n6_register_e]
              rw [if_pos c0, if_pos c1, if_pos c2, if_neg c3, if_pos c4]
            have hV : u_X7_register T Q x1 = (va_up T 110648 (upd (T 110648) 0 (nI 0))) := by
              unfold u_X7_register
              rw [if_pos nm0, if_pos nm1, if_pos nm2, if_neg nm3, if_pos nm4, if_neg nm3]
            have hU : u_X6_register S P x1 = (S) := by
              rw [n6_register_u]
              rw [if_pos c0, if_pos c1, if_pos c2, if_neg c3, if_pos c4]
            have hf : f_X6_register S P x1 = (nI 3) := by
              rw [n6_register_f]
              rw [if_pos c0, if_pos c1, if_pos c2, if_neg c3, if_pos c4]
            have hg : f_X7_register T Q x1 = (nI 3) := by
              unfold f_X7_register
              rw [if_pos nm0, if_pos nm1, if_pos nm2, if_neg nm3, if_pos nm4, if_neg nm3]
            refine i_Gok he hU hV rfl ?_ ?_
            · rw [hf, hg]
            · exact i_thr h
          · skip
            have nm0 : (f_X7_isClaim T Q x1) = true := m0.mpr c0
            have nm1 : (T 172129 x1.toNatClampNeg) = 0 := m1.mpr c1
            have m2 : ((f_X7_bits (va_up T 110648 (upd (T 110648) 0 (nI 0))) Q ((T 178273 x1.toNatClampNeg) &&& (f_X7_membersOf (va_up T 110648 (upd (T 110648) 0 (nI 0))) Q (T 165985 x1.toNatClampNeg)))) < ((nI 2) * (f_X7_bits (va_up T 110648 (upd (T 110648) 0 (nI 0))) Q ((T 180321 x1.toNatClampNeg) &&& (f_X7_membersOf (va_up T 110648 (upd (T 110648) 0 (nI 0))) Q (T 165985 x1.toNatClampNeg)))))) ↔ (((f_X6_isVotedFor S P x1) = true)) := k_voted h c0
            have nm2 : (f_X7_bits (va_up T 110648 (upd (T 110648) 0 (nI 0))) Q ((T 178273 x1.toNatClampNeg) &&& (f_X7_membersOf (va_up T 110648 (upd (T 110648) 0 (nI 0))) Q (T 165985 x1.toNatClampNeg)))) < ((nI 2) * (f_X7_bits (va_up T 110648 (upd (T 110648) 0 (nI 0))) Q ((T 180321 x1.toNatClampNeg) &&& (f_X7_membersOf (va_up T 110648 (upd (T 110648) 0 (nI 0))) Q (T 165985 x1.toNatClampNeg))))) := m2.mpr c2
            have nm3 : ¬ ((f_X7_provedOf (va_up T 110648 (upd (T 110648) 0 (nI 0))) Q x1) = 0) := fun q => c3 ((m3.mp q))
            have nm4 : ¬ ((f_X7_hasOther (va_up T 110648 (upd (T 110648) 0 (nI 0))) Q x1) = true) := fun q => c4 ((m4.mp q))
            have he : e_X6_register S P x1 = (0) := by
              rw [n6_register_e]
              rw [if_pos c0, if_pos c1, if_pos c2, if_neg c3, if_neg c4]
            have hV : u_X7_register T Q x1 = (va_up (va_up (va_up T 110648 (upd (T 110648) 0 (nI 0))) 172129 (upd ((va_up T 110648 (upd (T 110648) 0 (nI 0))) 172129) x1.toNatClampNeg (nI 1))) 176225 (upd ((va_up (va_up T 110648 (upd (T 110648) 0 (nI 0))) 172129 (upd ((va_up T 110648 (upd (T 110648) 0 (nI 0))) 172129) x1.toNatClampNeg (nI 1))) 176225) x1.toNatClampNeg (T 110648 1))) := by
              unfold u_X7_register
              rw [if_pos nm0, if_pos nm1, if_pos nm2, if_neg nm3, if_neg nm4]
            have hU : u_X6_register S P x1 = (va_up (va_up S 77921 (upd (S 77921) x1.toNatClampNeg (nI 1))) 82017 (upd ((va_up S 77921 (upd (S 77921) x1.toNatClampNeg (nI 1))) 82017) x1.toNatClampNeg (S 2096 8))) := by
              rw [n6_register_u]
              rw [if_pos c0, if_pos c1, if_pos c2, if_neg c3, if_neg c4]
            have hf : f_X6_register S P x1 = (nI 0) := by
              rw [n6_register_f]
              rw [if_pos c0, if_pos c1, if_pos c2, if_neg c3, if_neg c4]
            have hg : f_X7_register T Q x1 = (nI 0) := by
              unfold f_X7_register
              rw [if_pos nm0, if_pos nm1, if_pos nm2, if_neg nm3, if_neg nm4]
            refine i_Gok he hU hV rfl ?_ ?_
            · rw [hf, hg]
            · obtain ⟨j, rfl, hj, hj2⟩ := k_idxC h c0
              have h1 := i_thr (x := nI 0) h
              have h2 := s_pair (a := 77921) (b := 172129) (k := (nI j).toNatClampNeg) (x := nI 1) (x' := nI 1) h1 (by decide) rfl rfl (i_bl_no (by decide)) (i_T_cls h.2.2.2.2.1 (by rw [k_nI (by omega)]; exact hj2))
              exact s_pair (a := 82017) (b := 176225) h2 (by decide) rfl (by rw [i_c_now h]) (i_bl_no (by decide)) (i_T_pair h2.2.2.2.2.1 (by decide))
      · skip
        have nm0 : (f_X7_isClaim T Q x1) = true := m0.mpr c0
        have nm1 : (T 172129 x1.toNatClampNeg) = 0 := m1.mpr c1
        have m2 : ((f_X7_bits (va_up T 110648 (upd (T 110648) 0 (nI 0))) Q ((T 178273 x1.toNatClampNeg) &&& (f_X7_membersOf (va_up T 110648 (upd (T 110648) 0 (nI 0))) Q (T 165985 x1.toNatClampNeg)))) < ((nI 2) * (f_X7_bits (va_up T 110648 (upd (T 110648) 0 (nI 0))) Q ((T 180321 x1.toNatClampNeg) &&& (f_X7_membersOf (va_up T 110648 (upd (T 110648) 0 (nI 0))) Q (T 165985 x1.toNatClampNeg)))))) ↔ (((f_X6_isVotedFor S P x1) = true)) := k_voted h c0
        have nm2 : ¬ ((f_X7_bits (va_up T 110648 (upd (T 110648) 0 (nI 0))) Q ((T 178273 x1.toNatClampNeg) &&& (f_X7_membersOf (va_up T 110648 (upd (T 110648) 0 (nI 0))) Q (T 165985 x1.toNatClampNeg)))) < ((nI 2) * (f_X7_bits (va_up T 110648 (upd (T 110648) 0 (nI 0))) Q ((T 180321 x1.toNatClampNeg) &&& (f_X7_membersOf (va_up T 110648 (upd (T 110648) 0 (nI 0))) Q (T 165985 x1.toNatClampNeg)))))) := fun q => c2 ((m2.mp q))
        have he : e_X6_register S P x1 = (0) := by
          rw [n6_register_e]
          rw [if_pos c0, if_pos c1, if_neg c2]
        have hV : u_X7_register T Q x1 = (va_up T 110648 (upd (T 110648) 0 (nI 0))) := by
          unfold u_X7_register
          rw [if_pos nm0, if_pos nm1, if_neg nm2]
        have hU : u_X6_register S P x1 = (S) := by
          rw [n6_register_u]
          rw [if_pos c0, if_pos c1, if_neg c2]
        have hf : f_X6_register S P x1 = (nI 1) := by
          rw [n6_register_f]
          rw [if_pos c0, if_pos c1, if_neg c2]
        have hg : f_X7_register T Q x1 = (nI 1) := by
          unfold f_X7_register
          rw [if_pos nm0, if_pos nm1, if_neg nm2]
        refine i_Gok he hU hV rfl ?_ ?_
        · rw [hf, hg]
        · exact i_thr h
    · skip
      have nm0 : (f_X7_isClaim T Q x1) = true := m0.mpr c0
      have nm1 : ¬ ((T 172129 x1.toNatClampNeg) = 0) := fun q => c1 ((m1.mp q))
      have he : e_X6_register S P x1 = (3) := by
        rw [n6_register_e]
        rw [if_pos c0, if_neg c1]
      have hV : u_X7_register T Q x1 = (va_up T 110648 (upd (T 110648) 0 (nI 2))) := by
        unfold u_X7_register
        rw [if_pos nm0, if_neg nm1]
      exact i_Gerr h he hV (by decide) (fun _ _ => rfl)
  · skip
    have nm0 : ¬ ((f_X7_isClaim T Q x1) = true) := fun q => c0 ((m0.mp q))
    have he : e_X6_register S P x1 = (1) := by
      rw [n6_register_e]
      rw [if_neg c0]
    have hV : u_X7_register T Q x1 = (va_up T 110648 (upd (T 110648) 0 (nI 1))) := by
      unfold u_X7_register
      rw [if_neg nm0]
    exact i_Gerr h he hV (by decide) (fun _ _ => rfl)
theorem w6_register (S : z_MI) (P : z_ML) (x1 : Int32) (q : Nat) (hq : 110648 ≤ q) : u_X6_register S P x1 q = S q := by
  unfold u_X6_register
  (repeat' split) <;> first | rfl | (simp (disch := omega) only [va_up_ne])
theorem w7_register (T : z_MI) (Q : z_ML) (x1 : Int32) (q : Nat) (hq : q < 110648) : u_X7_register T Q x1 q = T q := by
  unfold u_X7_register
  (repeat' split) <;> first | rfl | (simp (disch := omega) only [va_up_ne]; done)
theorem o_register {S : z_MI} {P : z_ML} (h0 : i_I S P) (x1 : Int32) : F_register S P x1 i_I :=
  i_FO h0 (w6_register S P x1) (fun T Q q hq => w7_register T Q x1 q hq) (fun T Q h => ok_register (T := T) (Q := Q) h x1) (by rcases w_L_register_e S P x1 with e | e | e <;> rw [e] <;> decide)
theorem k_grT (T : z_MI) (Q : z_ML) (x : Int32) : u_X7_grants (va_up T 110648 (upd (T 110648) 0 (nI 0))) Q x 110648 0 = nI 0 := by
  unfold u_X7_grants
  split <;> rfl
theorem s_grant {S T : z_MI} {P Q : z_ML} (h : i_2 S T P Q) {x : Int32} (hc : f_X1_isClaim S P x = true) : i_2 (u_X1_grant S P x (f_X6_provedOf S P x)) (u_X7_grants (va_up T 110648 (upd (T 110648) 0 (nI 0))) Q x) P Q := by
  obtain ⟨j, rfl, hj, hj2⟩ := k_idxC h hc
  have h1 := i_thr (x := nI 0) h
  have e1 : ∀ f : Nat → Int32, upd f (nI j).toNatClampNeg (f_X6_provedOf S P (nI j)) (nI j).toNatClampNeg = f_X6_provedOf S P (nI j) := fun f => pk_us
  unfold u_X1_grant u_X7_grants
  rw [k_provedOf (P' := P) (Q' := Q) h1, e1]
  have h2 := s_pair (a := 79969) (b := 174177) (k := (nI j).toNatClampNeg) (x := f_X6_provedOf S P (nI j)) (x' := f_X6_provedOf S P (nI j)) h1 (by decide) rfl rfl (i_bl_claims_granted (k_provedNN S P (nI j))) (i_T_pair h.2.2.2.2.1 (by decide))
  have hk : (((nI j).toNatClampNeg : Nat) : Int) < (S 12296 8).toInt := by rw [k_nI (by omega)]; exact hj2
  by_cases e : f_X6_provedOf S P (nI j) = 0
  · rw [if_pos e, if_pos e]
    exact s_pair (a := 77921) (b := 172129) h2 (by decide) rfl rfl (i_bl_no (by decide)) (i_T_cls h2.2.2.2.2.1 hk)
  · rw [if_neg e, if_neg e]
    exact s_pair (a := 77921) (b := 172129) h2 (by decide) rfl rfl (i_bl_no (by decide)) (i_T_cls h2.2.2.2.2.1 hk)
theorem ok_determine {S T : z_MI} {P Q : z_ML} (h : i_2 S T P Q) (x1 : Int32) : i_G 1 0 2 (e_X6_determine S P x1) S (u_X6_determine S P x1) P Q (u_X7_determine T Q x1) ((f_X6_determine S P x1).toInt64) ((f_X7_determine T Q x1).toInt64) := by
  have m0 : ((f_X7_isClaim T Q x1) = true) ↔ (((f_X1_isClaim S P x1) = true)) := by rw [k_isClaim (P' := P) h]
  have m1 : ((T 172129 x1.toNatClampNeg) = (nI 1)) ↔ (((S 77921 x1.toNatClampNeg) = (nI 1))) := by rw [i_a_claimState h]
  by_cases c0 : (f_X1_isClaim S P x1) = true
  · skip
    by_cases c1 : (S 77921 x1.toNatClampNeg) = (nI 1)
    · skip
      have nm0 : (f_X7_isClaim T Q x1) = true := m0.mpr c0
      have nm1 : (T 172129 x1.toNatClampNeg) = (nI 1) := m1.mpr c1
      have he : e_X6_determine S P x1 = (0) := by
        unfold e_X6_determine
        rw [if_pos c0, if_pos c1]
      have hV : u_X7_determine T Q x1 = (u_X7_grants (va_up T 110648 (upd (T 110648) 0 (nI 0))) Q x1) := by
        unfold u_X7_determine
        rw [if_pos nm0, if_pos nm1]
      have hU : u_X6_determine S P x1 = (u_X1_grant S P x1 (f_X6_provedOf S P x1)) := by
        unfold u_X6_determine
        rw [if_pos c0, if_pos c1]
      have hf : f_X6_determine S P x1 = ((u_X1_grant S P x1 (f_X6_provedOf S P x1)) 79969 x1.toNatClampNeg) := by
        unfold f_X6_determine
        rw [if_pos c0, if_pos c1]
      have hg : f_X7_determine T Q x1 = ((u_X7_grants (va_up T 110648 (upd (T 110648) 0 (nI 0))) Q x1) 174177 x1.toNatClampNeg) := by
        unfold f_X7_determine
        rw [if_pos nm0, if_pos nm1]
      refine i_Gok he hU hV (k_grT T Q x1) ?_ ?_
      · rw [hf, hg]
        rw [i_a_granted (s_grant h c0)]
      · exact s_grant h c0
    · skip
      have nm0 : (f_X7_isClaim T Q x1) = true := m0.mpr c0
      have nm1 : ¬ ((T 172129 x1.toNatClampNeg) = (nI 1)) := fun q => c1 ((m1.mp q))
      have he : e_X6_determine S P x1 = (3) := by
        unfold e_X6_determine
        rw [if_pos c0, if_neg c1]
      have hV : u_X7_determine T Q x1 = (va_up T 110648 (upd (T 110648) 0 (nI 2))) := by
        unfold u_X7_determine
        rw [if_pos nm0, if_neg nm1]
      exact i_Gerr h he hV (by decide) (fun _ _ => rfl)
  · skip
    have nm0 : ¬ ((f_X7_isClaim T Q x1) = true) := fun q => c0 ((m0.mp q))
    have he : e_X6_determine S P x1 = (1) := by
      unfold e_X6_determine
      rw [if_neg c0]
    have hV : u_X7_determine T Q x1 = (va_up T 110648 (upd (T 110648) 0 (nI 1))) := by
      unfold u_X7_determine
      rw [if_neg nm0]
    exact i_Gerr h he hV (by decide) (fun _ _ => rfl)
theorem w6_determine (S : z_MI) (P : z_ML) (x1 : Int32) (q : Nat) (hq : 110648 ≤ q) : u_X6_determine S P x1 q = S q := by
  unfold u_X6_determine
  (repeat' split) <;> first | rfl | (unfold u_X1_grant; split <;> simp (disch := omega) only [va_up_ne])
theorem w7_determine (T : z_MI) (Q : z_ML) (x1 : Int32) (q : Nat) (hq : q < 110648) : u_X7_determine T Q x1 q = T q := by
  unfold u_X7_determine
  (repeat' split) <;> first | rfl | (simp (disch := omega) only [va_up_ne]; done) | (unfold u_X7_grants; simp (disch := omega) only [va_up_ne]; done) | (unfold u_X7_grants; split <;> simp (disch := omega) only [va_up_ne])
theorem o_determine {S : z_MI} {P : z_ML} (h0 : i_I S P) (x1 : Int32) : F_determine S P x1 i_I :=
  i_FO h0 (w6_determine S P x1) (fun T Q q hq => w7_determine T Q x1 q hq) (fun T Q h => ok_determine (T := T) (Q := Q) h x1) (by rcases w_L_determine_e S P x1 with e | e | e <;> rw [e] <;> decide)
theorem ok_revise {S T : z_MI} {P Q : z_ML} (h : i_2 S T P Q) (x1 : Int32) : i_G 1 0 2 (e_X6_revise S P x1) S (u_X6_revise S P x1) P Q (u_X7_revise T Q x1) ((f_X6_revise S P x1).toInt64) ((f_X7_revise T Q x1).toInt64) := by
  have m0 : ((f_X7_isClaim T Q x1) = true) ↔ (((f_X1_isClaim S P x1) = true)) := by rw [k_isClaim (P' := P) h]
  have m1 : ((T 172129 x1.toNatClampNeg) = (nI 2)) ↔ (((S 77921 x1.toNatClampNeg) = (nI 2))) := by rw [i_a_claimState h]
  by_cases c0 : (f_X1_isClaim S P x1) = true
  · skip
    by_cases c1 : (S 77921 x1.toNatClampNeg) = (nI 2)
    · skip
      have nm0 : (f_X7_isClaim T Q x1) = true := m0.mpr c0
      have nm1 : (T 172129 x1.toNatClampNeg) = (nI 2) := m1.mpr c1
      have he : e_X6_revise S P x1 = (0) := by
        unfold e_X6_revise
        rw [if_pos c0, if_pos c1]
      have hV : u_X7_revise T Q x1 = (u_X7_grants (va_up T 110648 (upd (T 110648) 0 (nI 0))) Q x1) := by
        unfold u_X7_revise
        rw [if_pos nm0, if_pos nm1]
      have hU : u_X6_revise S P x1 = (u_X1_grant S P x1 (f_X6_provedOf S P x1)) := by
        unfold u_X6_revise
        rw [if_pos c0, if_pos c1]
      have hf : f_X6_revise S P x1 = (f_J6_bitCount_0f7a4 (u_X1_grant S P x1 (f_X6_provedOf S P x1)) P ((S 79969 x1.toNatClampNeg) ^^^ ((u_X1_grant S P x1 (f_X6_provedOf S P x1)) 79969 x1.toNatClampNeg))) := by
        unfold f_X6_revise
        rw [if_pos c0, if_pos c1]
      have hg : f_X7_revise T Q x1 = (f_X7_bits (u_X7_grants (va_up T 110648 (upd (T 110648) 0 (nI 0))) Q x1) Q ((T 174177 x1.toNatClampNeg) ^^^ ((u_X7_grants (va_up T 110648 (upd (T 110648) 0 (nI 0))) Q x1) 174177 x1.toNatClampNeg))) := by
        unfold f_X7_revise
        rw [if_pos nm0, if_pos nm1]
      refine i_Gok he hU hV (k_grT T Q x1) ?_ ?_
      · rw [hf, hg]
        have hs := s_grant h c0
        rw [i_a_granted hs, i_a_granted h]
        exact (congrArg Int32.toInt64 (j_pop _ _ P Q (j_nn_xor (i_b_claims_granted h _) (i_b_claims_granted hs _)))).symm
      · exact s_grant h c0
    · skip
      have nm0 : (f_X7_isClaim T Q x1) = true := m0.mpr c0
      have nm1 : ¬ ((T 172129 x1.toNatClampNeg) = (nI 2)) := fun q => c1 ((m1.mp q))
      have he : e_X6_revise S P x1 = (3) := by
        unfold e_X6_revise
        rw [if_pos c0, if_neg c1]
      have hV : u_X7_revise T Q x1 = (va_up T 110648 (upd (T 110648) 0 (nI 2))) := by
        unfold u_X7_revise
        rw [if_pos nm0, if_neg nm1]
      exact i_Gerr h he hV (by decide) (fun _ _ => rfl)
  · skip
    have nm0 : ¬ ((f_X7_isClaim T Q x1) = true) := fun q => c0 ((m0.mp q))
    have he : e_X6_revise S P x1 = (1) := by
      unfold e_X6_revise
      rw [if_neg c0]
    have hV : u_X7_revise T Q x1 = (va_up T 110648 (upd (T 110648) 0 (nI 1))) := by
      unfold u_X7_revise
      rw [if_neg nm0]
    exact i_Gerr h he hV (by decide) (fun _ _ => rfl)
theorem w6_revise (S : z_MI) (P : z_ML) (x1 : Int32) (q : Nat) (hq : 110648 ≤ q) : u_X6_revise S P x1 q = S q := by
  unfold u_X6_revise
  (repeat' split) <;> first | rfl | (unfold u_X1_grant; split <;> simp (disch := omega) only [va_up_ne])
theorem w7_revise (T : z_MI) (Q : z_ML) (x1 : Int32) (q : Nat) (hq : q < 110648) : u_X7_revise T Q x1 q = T q := by
  unfold u_X7_revise
  (repeat' split) <;> first | rfl | (simp (disch := omega) only [va_up_ne]; done) | (unfold u_X7_grants; simp (disch := omega) only [va_up_ne]; done) | (unfold u_X7_grants; split <;> simp (disch := omega) only [va_up_ne])
theorem o_revise {S : z_MI} {P : z_ML} (h0 : i_I S P) (x1 : Int32) : F_revise S P x1 i_I :=
  i_FO h0 (w6_revise S P x1) (fun T Q q hq => w7_revise T Q x1 q hq) (fun T Q h => ok_revise (T := T) (Q := Q) h x1) (by rcases w_L_revise_e S P x1 with e | e | e <;> rw [e] <;> decide)
theorem ok_ofClaim {S T : z_MI} {P Q : z_ML} (h : i_2 S T P Q) (x1 x2 : Int32) : i_G 1 2 0 (e_X6_ofClaim S P x1 x2) S (S) P Q (u_X7_ofClaim T Q x1 x2) ((f_X6_ofClaim S P x1 x2).toInt64) ((f_X7_ofClaim T Q x1 x2).toInt64) := by
  have m0 : ((f_X7_isClaim T Q x1) = true) ↔ (((f_X1_isClaim S P x1) = true)) := by rw [k_isClaim (P' := P) h]
  have m1 : ((f_X7_in T Q x2 (nI 0) (nI 3)) = true) ↔ ((¬ (x2 < 0)) ∧ (x2 ≤ (nI 3))) := by exact k_in1z
  have m2 : (x2 = 0) ↔ ((x2 = nI 0)) := by rw [nI_0]
  have m3 : (x2 = (nI 1)) ↔ ((x2 = nI 1)) := Iff.rfl
  have m4 : (x2 = (nI 2)) ↔ ((x2 = nI 2)) := Iff.rfl
  by_cases c0 : (f_X1_isClaim S P x1) = true
  · skip
    by_cases c1 : x2 < 0
    · skip
      have nm0 : (f_X7_isClaim T Q x1) = true := m0.mpr c0
      have nm1 : ¬ ((f_X7_in T Q x2 (nI 0) (nI 3)) = true) := fun q => ((m1.mp q).1) c1
      have he : e_X6_ofClaim S P x1 x2 = (2) := by
        unfold e_X6_ofClaim
        rw [if_pos c0, if_pos c1]
      have hV : u_X7_ofClaim T Q x1 x2 = (va_up T 110648 (upd (T 110648) 0 (nI 2))) := by
        unfold u_X7_ofClaim
        rw [if_pos nm0, if_neg nm1]
      exact i_Gerr h he hV (by decide) (fun _ _ => rfl)
    · skip
      by_cases c2 : x2 ≤ (nI 3)
      · skip
        by_cases c3 : x2 = nI 0
        · skip
          have nm0 : (f_X7_isClaim T Q x1) = true := m0.mpr c0
          have nm1 : (f_X7_in T Q x2 (nI 0) (nI 3)) = true := m1.mpr ⟨c1, c2⟩
          have nm2 : x2 = 0 := m2.mpr c3
          have he : e_X6_ofClaim S P x1 x2 = (0) := by
            unfold e_X6_ofClaim
            rw [if_pos c0, if_neg c1, if_pos c2, if_pos c3]
          have hV : u_X7_ofClaim T Q x1 x2 = (va_up T 110648 (upd (T 110648) 0 (nI 0))) := by
            unfold u_X7_ofClaim
            rw [if_pos nm0, if_pos nm1, if_pos nm2]
          have hf : f_X6_ofClaim S P x1 x2 = (S 77921 x1.toNatClampNeg) := by
            unfold f_X6_ofClaim
            rw [if_pos c0, if_neg c1, if_pos c2, if_pos c3]
          have hg : f_X7_ofClaim T Q x1 x2 = (T 172129 x1.toNatClampNeg) := by
            unfold f_X7_ofClaim
            rw [if_pos nm0, if_pos nm1, if_pos nm2]
          refine i_Gok he rfl hV rfl ?_ ?_
          · rw [hf, hg]
            rw [i_a_claimState h]
          · exact i_thr h
        · skip
          by_cases c4 : x2 = nI 1
          · skip
            have nm0 : (f_X7_isClaim T Q x1) = true := m0.mpr c0
            have nm1 : (f_X7_in T Q x2 (nI 0) (nI 3)) = true := m1.mpr ⟨c1, c2⟩
            have nm2 : ¬ (x2 = 0) := fun q => c3 ((m2.mp q))
            have nm3 : x2 = (nI 1) := m3.mpr c4
            have he : e_X6_ofClaim S P x1 x2 = (0) := by
              unfold e_X6_ofClaim
              rw [if_pos c0, if_neg c1, if_pos c2, if_neg c3, if_pos c4]
            have hV : u_X7_ofClaim T Q x1 x2 = (va_up T 110648 (upd (T 110648) 0 (nI 0))) := by
              unfold u_X7_ofClaim
              rw [if_pos nm0, if_pos nm1, if_neg nm2, if_pos nm3]
            have hf : f_X6_ofClaim S P x1 x2 = (S 79969 x1.toNatClampNeg) := by
              unfold f_X6_ofClaim
              rw [if_pos c0, if_neg c1, if_pos c2, if_neg c3, if_pos c4]
            have hg : f_X7_ofClaim T Q x1 x2 = (T 174177 x1.toNatClampNeg) := by
              unfold f_X7_ofClaim
              rw [if_pos nm0, if_pos nm1, if_neg nm2, if_pos nm3]
            refine i_Gok he rfl hV rfl ?_ ?_
            · rw [hf, hg]
              rw [i_a_granted h]
            · exact i_thr h
          · skip
            by_cases c5 : x2 = nI 2
            · skip
              have nm0 : (f_X7_isClaim T Q x1) = true := m0.mpr c0
              have nm1 : (f_X7_in T Q x2 (nI 0) (nI 3)) = true := m1.mpr ⟨c1, c2⟩
              have nm2 : ¬ (x2 = 0) := fun q => c3 ((m2.mp q))
              have nm3 : ¬ (x2 = (nI 1)) := fun q => c4 ((m3.mp q))
              have nm4 : x2 = (nI 2) := m4.mpr c5
              have he : e_X6_ofClaim S P x1 x2 = (0) := by
                unfold e_X6_ofClaim
                rw [if_pos c0, if_neg c1, if_pos c2, if_neg c3, if_neg c4, if_pos c5]
              have hV : u_X7_ofClaim T Q x1 x2 = (va_up T 110648 (upd (T 110648) 0 (nI 0))) := by
                unfold u_X7_ofClaim
                rw [if_pos nm0, if_pos nm1, if_neg nm2, if_neg nm3, if_pos nm4]
              have hf : f_X6_ofClaim S P x1 x2 = (f_X1_rivalsOf S P x1) := by
                unfold f_X6_ofClaim
                rw [if_pos c0, if_neg c1, if_pos c2, if_neg c3, if_neg c4, if_pos c5]
              have hg : f_X7_ofClaim T Q x1 x2 = (f_X7_rivals (va_up T 110648 (upd (T 110648) 0 (nI 0))) Q x1) := by
                unfold f_X7_ofClaim
                rw [if_pos nm0, if_pos nm1, if_neg nm2, if_neg nm3, if_pos nm4]
              refine i_Gok he rfl hV rfl ?_ ?_
              · rw [hf, hg]
                rw [k_rivals (P' := P) (Q' := Q) (i_thr (x := nI 0) h)]
              · exact i_thr h
            · skip
              have nm0 : (f_X7_isClaim T Q x1) = true := m0.mpr c0
              have nm1 : (f_X7_in T Q x2 (nI 0) (nI 3)) = true := m1.mpr ⟨c1, c2⟩
              have nm2 : ¬ (x2 = 0) := fun q => c3 ((m2.mp q))
              have nm3 : ¬ (x2 = (nI 1)) := fun q => c4 ((m3.mp q))
              have nm4 : ¬ (x2 = (nI 2)) := fun q => c5 ((m4.mp q))
              have he : e_X6_ofClaim S P x1 x2 = (0) := by
                unfold e_X6_ofClaim
                rw [if_pos c0, if_neg c1, if_pos c2, if_neg c3, if_neg c4, if_neg c5]
              have hV : u_X7_ofClaim T Q x1 x2 = (va_up T 110648 (upd (T 110648) 0 (nI 0))) := by
                unfold u_X7_ofClaim
                rw [if_pos nm0, if_pos nm1, if_neg nm2, if_neg nm3, if_neg nm4]
              have hf : f_X6_ofClaim S P x1 x2 = (S 82017 x1.toNatClampNeg) := by
                unfold f_X6_ofClaim
                rw [if_pos c0, if_neg c1, if_pos c2, if_neg c3, if_neg c4, if_neg c5]
              have hg : f_X7_ofClaim T Q x1 x2 = (T 176225 x1.toNatClampNeg) := by
                unfold f_X7_ofClaim
                rw [if_pos nm0, if_pos nm1, if_neg nm2, if_neg nm3, if_neg nm4]
              refine i_Gok he rfl hV rfl ?_ ?_
              · rw [hf, hg]
                rw [i_a_registeredIn h]
              · exact i_thr h
      · skip
        have nm0 : (f_X7_isClaim T Q x1) = true := m0.mpr c0
        have nm1 : ¬ ((f_X7_in T Q x2 (nI 0) (nI 3)) = true) := fun q => c2 ((m1.mp q).2)
        have he : e_X6_ofClaim S P x1 x2 = (2) := by
          unfold e_X6_ofClaim
          rw [if_pos c0, if_neg c1, if_neg c2]
        have hV : u_X7_ofClaim T Q x1 x2 = (va_up T 110648 (upd (T 110648) 0 (nI 2))) := by
          unfold u_X7_ofClaim
          rw [if_pos nm0, if_neg nm1]
        exact i_Gerr h he hV (by decide) (fun _ _ => rfl)
  · skip
    have nm0 : ¬ ((f_X7_isClaim T Q x1) = true) := fun q => c0 ((m0.mp q))
    have he : e_X6_ofClaim S P x1 x2 = (1) := by
      unfold e_X6_ofClaim
      rw [if_neg c0]
    have hV : u_X7_ofClaim T Q x1 x2 = (va_up T 110648 (upd (T 110648) 0 (nI 1))) := by
      unfold u_X7_ofClaim
      rw [if_neg nm0]
    exact i_Gerr h he hV (by decide) (fun _ _ => rfl)
theorem w7_ofClaim (T : z_MI) (Q : z_ML) (x1 x2 : Int32) (q : Nat) (hq : q < 110648) : u_X7_ofClaim T Q x1 x2 q = T q := by
  unfold u_X7_ofClaim
  (repeat' split) <;> first | rfl | (simp (disch := omega) only [va_up_ne]; done)
theorem o_ofClaim {S : z_MI} {P : z_ML} (h0 : i_I S P) (x1 x2 : Int32) : F_ofClaim S P x1 x2 i_I :=
  i_FO h0 (fun q hq => rfl) (fun T Q q hq => w7_ofClaim T Q x1 x2 q hq) (fun T Q h => ok_ofClaim (T := T) (Q := Q) h x1 x2) (by rcases w_L_ofClaim_e S P x1 x2 with e | e | e <;> rw [e] <;> decide)
theorem k_mayR {S T : z_MI} {P Q : z_ML} (h : i_2 S T P Q) {p w r : Int32} (hp : f_X2_isPeople S P p = true) (hw : f_X6_isPlace S P w = true) (hr : ¬ r < 0) : (f_X7_has (va_up T 110648 (upd (T 110648) 0 (nI 0))) Q (f_X7_rightsOf (va_up T 110648 (upd (T 110648) 0 (nI 0))) Q p w) r = true) ↔ (f_X6_isIn S P (f_X6_rightsOf S P p w) r = true) := by
  obtain ⟨j, rfl, hj⟩ := k_idxL hw
  rw [k_rightsOf (P' := P) (Q' := Q) (i_thr (x := nI 0) h) hp (nI_pos (by omega)), k_has S _ P Q _ hr]
theorem k_mayX {S T : z_MI} {P Q : z_ML} (h : i_2 S T P Q) {p w r : Int32} (hw : f_X6_isPlace S P w = true) (hr : ¬ r < 0) (hr2 : r ≤ nI 4) (hR : f_X6_isIn S P (f_X6_rightsOf S P p w) r = true) : (z_fo (fun k56 a56 => l_X7_may_56 T Q p w r k56 a56) (nI 0) (T 110648 24).toNatClampNeg = 0) ↔ ¬ f_X6_isIn S P (f_X0_yieldingAt S P w (S 2096 8)) r = true := by
  obtain ⟨j, rfl, hj⟩ := k_idxL hw
  obtain ⟨i, hi, rfl⟩ := k_zleR hr hr2 (by decide)
  exact k_mayY h (nI_pos (by omega)) (by omega) hR
theorem ok_may {S T : z_MI} {P Q : z_ML} (h : i_2 S T P Q) (x1 x2 x3 : Int32) : i_G 1 0 0 (e_X6_may S P x1 x2 x3) S (S) P Q (u_X7_may T Q x1 x2 x3) ((f_X6_may S P x1 x2 x3).toInt64) ((f_X7_may T Q x1 x2 x3).toInt64) := by
  have m0 : ((f_X7_isPeople T Q x1) = true) ↔ (((f_X2_isPeople S P x1) = true)) := by rw [k_isPeople (P' := P) h]
  have m1 : ((f_X7_isPlace T Q x2) = true) ↔ (((f_X6_isPlace S P x2) = true)) := by rw [k_isPlace S T P Q]
  have m2 : ((f_X7_in T Q x3 (nI 0) (nI 4)) = true) ↔ ((¬ (x3 < 0)) ∧ (x3 ≤ (nI 4))) := by exact k_in1z
  by_cases c0 : (f_X2_isPeople S P x1) = true
  · skip
    by_cases c1 : (f_X6_isPlace S P x2) = true
    · skip
      by_cases c2 : x3 < 0
      · skip
        have nm0 : (f_X7_isPeople T Q x1) = true := m0.mpr c0
        have nm1 : (f_X7_isPlace T Q x2) = true := m1.mpr c1
        have nm2 : ¬ ((f_X7_in T Q x3 (nI 0) (nI 4)) = true) := fun q => ((m2.mp q).1) c2
        have he : e_X6_may S P x1 x2 x3 = (1) := by
          unfold e_X6_may
          rw [if_pos c0, if_pos c1, if_pos c2]
        have hV : u_X7_may T Q x1 x2 x3 = (va_up T 110648 (upd (T 110648) 0 (nI 1))) := by
          unfold u_X7_may
          rw [if_pos nm0, if_pos nm1, if_neg nm2]
        exact i_Gerr h he hV (by decide) (fun _ _ => rfl)
      · skip
        by_cases c3 : x3 ≤ (nI 4)
        · skip
          by_cases c4 : (f_X6_isIn S P (f_X6_rightsOf S P x1 x2) x3) = true
          · skip
            by_cases c5 : (f_X6_isIn S P (f_X0_yieldingAt S P x2 (S 2096 8)) x3) = true
            · skip
              have nm0 : (f_X7_isPeople T Q x1) = true := m0.mpr c0
              have nm1 : (f_X7_isPlace T Q x2) = true := m1.mpr c1
              have nm2 : (f_X7_in T Q x3 (nI 0) (nI 4)) = true := m2.mpr ⟨c2, c3⟩
              have m3 : ((f_X7_has (va_up T 110648 (upd (T 110648) 0 (nI 0))) Q (f_X7_rightsOf (va_up T 110648 (upd (T 110648) 0 (nI 0))) Q x1 x2) x3) = true) ↔ (((f_X6_isIn S P (f_X6_rightsOf S P x1 x2) x3) = true)) := k_mayR h c0 c1 c2
              have nm3 : (f_X7_has (va_up T 110648 (upd (T 110648) 0 (nI 0))) Q (f_X7_rightsOf (va_up T 110648 (upd (T 110648) 0 (nI 0))) Q x1 x2) x3) = true := m3.mpr c4
              have m4 : ((z_fo (fun k56 a56 => l_X7_may_56 T Q x1 x2 x3 k56 a56) (nI 0) (T 110648 24).toNatClampNeg) = 0) ↔ ((¬ ((f_X6_isIn S P (f_X0_yieldingAt S P x2 (S 2096 8)) x3) = true))) := k_mayX h c1 c2 c3 c4
              have nm4 : ¬ ((z_fo (fun k56 a56 => l_X7_may_56 T Q x1 x2 x3 k56 a56) (nI 0) (T 110648 24).toNatClampNeg) = 0) := fun q => ((m4.mp q)) c5
              have he : e_X6_may S P x1 x2 x3 = (0) := by
                unfold e_X6_may
                rw [if_pos c0, if_pos c1, if_neg c2, if_pos c3, if_pos c4, if_pos c5]
              have hV : u_X7_may T Q x1 x2 x3 = (va_up T 110648 (upd (T 110648) 0 (nI 0))) := by
                unfold u_X7_may
                rw [if_pos nm0, if_pos nm1, if_pos nm2, if_pos nm3, if_neg nm4]
              have hf : f_X6_may S P x1 x2 x3 = (nI 1) := by
                unfold f_X6_may
                rw [if_pos c0, if_pos c1, if_neg c2, if_pos c3, if_pos c4, if_pos c5]
              have hg : f_X7_may T Q x1 x2 x3 = (nI 1) := by
                unfold f_X7_may
                rw [if_pos nm0, if_pos nm1, if_pos nm2, if_pos nm3, if_neg nm4]
              refine i_Gok he rfl hV rfl ?_ ?_
              · rw [hf, hg]
              · exact i_thr h
            · skip
              have nm0 : (f_X7_isPeople T Q x1) = true := m0.mpr c0
              have nm1 : (f_X7_isPlace T Q x2) = true := m1.mpr c1
              have nm2 : (f_X7_in T Q x3 (nI 0) (nI 4)) = true := m2.mpr ⟨c2, c3⟩
              have m3 : ((f_X7_has (va_up T 110648 (upd (T 110648) 0 (nI 0))) Q (f_X7_rightsOf (va_up T 110648 (upd (T 110648) 0 (nI 0))) Q x1 x2) x3) = true) ↔ (((f_X6_isIn S P (f_X6_rightsOf S P x1 x2) x3) = true)) := k_mayR h c0 c1 c2
              have nm3 : (f_X7_has (va_up T 110648 (upd (T 110648) 0 (nI 0))) Q (f_X7_rightsOf (va_up T 110648 (upd (T 110648) 0 (nI 0))) Q x1 x2) x3) = true := m3.mpr c4
              have m4 : ((z_fo (fun k56 a56 => l_X7_may_56 T Q x1 x2 x3 k56 a56) (nI 0) (T 110648 24).toNatClampNeg) = 0) ↔ ((¬ ((f_X6_isIn S P (f_X0_yieldingAt S P x2 (S 2096 8)) x3) = true))) := k_mayX h c1 c2 c3 c4
              have nm4 : (z_fo (fun k56 a56 => l_X7_may_56 T Q x1 x2 x3 k56 a56) (nI 0) (T 110648 24).toNatClampNeg) = 0 := m4.mpr c5
              have he : e_X6_may S P x1 x2 x3 = (0) := by
                unfold e_X6_may
                rw [if_pos c0, if_pos c1, if_neg c2, if_pos c3, if_pos c4, if_neg c5]
              have hV : u_X7_may T Q x1 x2 x3 = (va_up T 110648 (upd (T 110648) 0 (nI 0))) := by
                unfold u_X7_may
                rw [if_pos nm0, if_pos nm1, if_pos nm2, if_pos nm3, if_pos nm4]
              have hf : f_X6_may S P x1 x2 x3 = (nI 2) := by
                unfold f_X6_may
                rw [if_pos c0, if_pos c1, if_neg c2, if_pos c3, if_pos c4, if_neg c5]
              have hg : f_X7_may T Q x1 x2 x3 = (nI 2) := by
                unfold f_X7_may
                rw [if_pos nm0, if_pos nm1, if_pos nm2, if_pos nm3, if_pos nm4]
              refine i_Gok he rfl hV rfl ?_ ?_
              · rw [hf, hg]
              · exact i_thr h
          · skip
            have nm0 : (f_X7_isPeople T Q x1) = true := m0.mpr c0
            have nm1 : (f_X7_isPlace T Q x2) = true := m1.mpr c1
            have nm2 : (f_X7_in T Q x3 (nI 0) (nI 4)) = true := m2.mpr ⟨c2, c3⟩
            have m3 : ((f_X7_has (va_up T 110648 (upd (T 110648) 0 (nI 0))) Q (f_X7_rightsOf (va_up T 110648 (upd (T 110648) 0 (nI 0))) Q x1 x2) x3) = true) ↔ (((f_X6_isIn S P (f_X6_rightsOf S P x1 x2) x3) = true)) := k_mayR h c0 c1 c2
            have nm3 : ¬ ((f_X7_has (va_up T 110648 (upd (T 110648) 0 (nI 0))) Q (f_X7_rightsOf (va_up T 110648 (upd (T 110648) 0 (nI 0))) Q x1 x2) x3) = true) := fun q => c4 ((m3.mp q))
            have he : e_X6_may S P x1 x2 x3 = (0) := by
              unfold e_X6_may
              rw [if_pos c0, if_pos c1, if_neg c2, if_pos c3, if_neg c4]
            have hV : u_X7_may T Q x1 x2 x3 = (va_up T 110648 (upd (T 110648) 0 (nI 0))) := by
              unfold u_X7_may
              rw [if_pos nm0, if_pos nm1, if_pos nm2, if_neg nm3]
            have hf : f_X6_may S P x1 x2 x3 = (nI 0) := by
              unfold f_X6_may
              rw [if_pos c0, if_pos c1, if_neg c2, if_pos c3, if_neg c4]
            have hg : f_X7_may T Q x1 x2 x3 = (nI 0) := by
              unfold f_X7_may
              rw [if_pos nm0, if_pos nm1, if_pos nm2, if_neg nm3]
            refine i_Gok he rfl hV rfl ?_ ?_
            · rw [hf, hg]
            · exact i_thr h
        · skip
          have nm0 : (f_X7_isPeople T Q x1) = true := m0.mpr c0
          have nm1 : (f_X7_isPlace T Q x2) = true := m1.mpr c1
          have nm2 : ¬ ((f_X7_in T Q x3 (nI 0) (nI 4)) = true) := fun q => c3 ((m2.mp q).2)
          have he : e_X6_may S P x1 x2 x3 = (1) := by
            unfold e_X6_may
            rw [if_pos c0, if_pos c1, if_neg c2, if_neg c3]
          have hV : u_X7_may T Q x1 x2 x3 = (va_up T 110648 (upd (T 110648) 0 (nI 1))) := by
            unfold u_X7_may
            rw [if_pos nm0, if_pos nm1, if_neg nm2]
          exact i_Gerr h he hV (by decide) (fun _ _ => rfl)
    · skip
      have nm0 : (f_X7_isPeople T Q x1) = true := m0.mpr c0
      have nm1 : ¬ ((f_X7_isPlace T Q x2) = true) := fun q => c1 ((m1.mp q))
      have he : e_X6_may S P x1 x2 x3 = (1) := by
        unfold e_X6_may
        rw [if_pos c0, if_neg c1]
      have hV : u_X7_may T Q x1 x2 x3 = (va_up T 110648 (upd (T 110648) 0 (nI 1))) := by
        unfold u_X7_may
        rw [if_pos nm0, if_neg nm1]
      exact i_Gerr h he hV (by decide) (fun _ _ => rfl)
  · skip
    have nm0 : ¬ ((f_X7_isPeople T Q x1) = true) := fun q => c0 ((m0.mp q))
    have he : e_X6_may S P x1 x2 x3 = (1) := by
      unfold e_X6_may
      rw [if_neg c0]
    have hV : u_X7_may T Q x1 x2 x3 = (va_up T 110648 (upd (T 110648) 0 (nI 1))) := by
      unfold u_X7_may
      rw [if_neg nm0]
    exact i_Gerr h he hV (by decide) (fun _ _ => rfl)
theorem w7_may (T : z_MI) (Q : z_ML) (x1 x2 x3 : Int32) (q : Nat) (hq : q < 110648) : u_X7_may T Q x1 x2 x3 q = T q := by
  unfold u_X7_may
  (repeat' split) <;> first | rfl | (simp (disch := omega) only [va_up_ne]; done)
theorem o_may {S : z_MI} {P : z_ML} (h0 : i_I S P) (x1 x2 x3 : Int32) : F_may S P x1 x2 x3 i_I :=
  i_FO h0 (fun q hq => rfl) (fun T Q q hq => w7_may T Q x1 x2 x3 q hq) (fun T Q h => ok_may (T := T) (Q := Q) h x1 x2 x3) (by rcases w_L_may_e S P x1 x2 x3 with e | e <;> rw [e] <;> decide)
theorem ok_notice {S T : z_MI} {P Q : z_ML} (h : i_2 S T P Q) (x1 x2 x3 x4 x5 : Int32) : i_G 0 1 2 (e_X6_notice S P x1 x2 x3 x4 x5) S (u_X6_notice S P x1 x2 x3 x4 x5) P Q (u_X7_notice T Q x1 x2 x3 x4 x5) ((f_X6_notice S P x1 x2 x3 x4 x5).toInt64) ((f_X7_notice T Q x1 x2 x3 x4 x5).toInt64) := by
  have m0 : ((f_X7_isWhat T Q x1 x2 x3 x4 (T 110648 1)) = true) ↔ (((f_X6_isDeed S P x1 x2 x3) = true) ∧ ((f_X6_isLast S P x4 x3 (S 2096 8)) = true)) := by rw [i_c_now h, k_isWhat S T P Q, Bool.and_eq_true]
  have m1 : ((T 110648 42) = (nI 12)) ↔ ((¬ ((S 14368 11) < (nI 12)))) := by rw [i_c_notices h]; exact k_full (z_J_notices (i_J h)) (by decide)
  by_cases c0 : (f_X6_isDeed S P x1 x2 x3) = true
  · skip
    by_cases c1 : (f_X6_isLast S P x4 x3 (S 2096 8)) = true
    · skip
      by_cases c2 : (S 14368 11) < (nI 12)
      · skip
        have nm0 : (f_X7_isWhat T Q x1 x2 x3 x4 (T 110648 1)) = true := m0.mpr ⟨c0, c1⟩
        have nm1 : ¬ ((T 110648 42) = (nI 12)) := fun q => ((m1.mp q)) c2
        have he : e_X6_notice S P x1 x2 x3 x4 x5 = (0) := by
          unfold e_X6_notice
          rw [if_pos c0, if_pos c1, if_pos c2]
        have hV : u_X7_notice T Q x1 x2 x3 x4 x5 = (va_up (va_up (va_up (va_up (va_up (va_up (va_up (va_up (va_up T 110648 (upd (T 110648) 0 (nI 0))) 182369 (upd ((va_up T 110648 (upd (T 110648) 0 (nI 0))) 182369) ((T 110648 42).toNatClampNeg) (T 110648 1))) 184417 (upd ((va_up (va_up T 110648 (upd (T 110648) 0 (nI 0))) 182369 (upd ((va_up T 110648 (upd (T 110648) 0 (nI 0))) 182369) ((T 110648 42).toNatClampNeg) (T 110648 1))) 184417) ((T 110648 42).toNatClampNeg) x1)) 186465 (upd ((va_up (va_up (va_up T 110648 (upd (T 110648) 0 (nI 0))) 182369 (upd ((va_up T 110648 (upd (T 110648) 0 (nI 0))) 182369) ((T 110648 42).toNatClampNeg) (T 110648 1))) 184417 (upd ((va_up (va_up T 110648 (upd (T 110648) 0 (nI 0))) 182369 (upd ((va_up T 110648 (upd (T 110648) 0 (nI 0))) 182369) ((T 110648 42).toNatClampNeg) (T 110648 1))) 184417) ((T 110648 42).toNatClampNeg) x1)) 186465) ((T 110648 42).toNatClampNeg) x2)) 188513 (upd ((va_up (va_up (va_up (va_up T 110648 (upd (T 110648) 0 (nI 0))) 182369 (upd ((va_up T 110648 (upd (T 110648) 0 (nI 0))) 182369) ((T 110648 42).toNatClampNeg) (T 110648 1))) 184417 (upd ((va_up (va_up T 110648 (upd (T 110648) 0 (nI 0))) 182369 (upd ((va_up T 110648 (upd (T 110648) 0 (nI 0))) 182369) ((T 110648 42).toNatClampNeg) (T 110648 1))) 184417) ((T 110648 42).toNatClampNeg) x1)) 186465 (upd ((va_up (va_up (va_up T 110648 (upd (T 110648) 0 (nI 0))) 182369 (upd ((va_up T 110648 (upd (T 110648) 0 (nI 0))) 182369) ((T 110648 42).toNatClampNeg) (T 110648 1))) 184417 (upd ((va_up (va_up T 110648 (upd (T 110648) 0 (nI 0))) 182369 (upd ((va_up T 110648 (upd (T 110648) 0 (nI 0))) 182369) ((T 110648 42).toNatClampNeg) (T 110648 1))) 184417) ((T 110648 42).toNatClampNeg) x1)) 186465) ((T 110648 42).toNatClampNeg) x2)) 188513) ((T 110648 42).toNatClampNeg) x3)) 190561 (upd ((va_up (va_up (va_up (va_up (va_up T 110648 (upd (T 110648) 0 (nI 0))) 182369 (upd ((va_up T 110648 (upd (T 110648) 0 (nI 0))) 182369) ((T 110648 42).toNatClampNeg) (T 110648 1))) 184417 (upd ((va_up (va_up T 110648 (upd (T 110648) 0 (nI 0))) 182369 (upd ((va_up T 110648 (upd (T 110648) 0 (nI 0))) 182369) ((T 110648 42).toNatClampNeg) (T 110648 1))) 184417) ((T 110648 42).toNatClampNeg) x1)) 186465 (upd ((va_up (va_up (va_up T 110648 (upd (T 110648) 0 (nI 0))) 182369 (upd ((va_up T 110648 (upd (T 110648) 0 (nI 0))) 182369) ((T 110648 42).toNatClampNeg) (T 110648 1))) 184417 (upd ((va_up (va_up T 110648 (upd (T 110648) 0 (nI 0))) 182369 (upd ((va_up T 110648 (upd (T 110648) 0 (nI 0))) 182369) ((T 110648 42).toNatClampNeg) (T 110648 1))) 184417) ((T 110648 42).toNatClampNeg) x1)) 186465) ((T 110648 42).toNatClampNeg) x2)) 188513 (upd ((va_up (va_up (va_up (va_up T 110648 (upd (T 110648) 0 (nI 0))) 182369 (upd ((va_up T 110648 (upd (T 110648) 0 (nI 0))) 182369) ((T 110648 42).toNatClampNeg) (T 110648 1))) 184417 (upd ((va_up (va_up T 110648 (upd (T 110648) 0 (nI 0))) 182369 (upd ((va_up T 110648 (upd (T 110648) 0 (nI 0))) 182369) ((T 110648 42).toNatClampNeg) (T 110648 1))) 184417) ((T 110648 42).toNatClampNeg) x1)) 186465 (upd ((va_up (va_up (va_up T 110648 (upd (T 110648) 0 (nI 0))) 182369 (upd ((va_up T 110648 (upd (T 110648) 0 (nI 0))) 182369) ((T 110648 42).toNatClampNeg) (T 110648 1))) 184417 (upd ((va_up (va_up T 110648 (upd (T 110648) 0 (nI 0))) 182369 (upd ((va_up T 110648 (upd (T 110648) 0 (nI 0))) 182369) ((T 110648 42).toNatClampNeg) (T 110648 1))) 184417) ((T 110648 42).toNatClampNeg) x1)) 186465) ((T 110648 42).toNatClampNeg) x2)) 188513) ((T 110648 42).toNatClampNeg) x3)) 190561) ((T 110648 42).toNatClampNeg) x4)) 192610 (upd ((va_up (va_up (va_up (va_up (va_up (va_up T 110648 (upd (T 110648) 0 (nI 0))) 182369 (upd ((va_up T 110648 (upd (T 110648) 0 (nI 0))) 182369) ((T 110648 42).toNatClampNeg) (T 110648 1))) 184417 (upd ((va_up (va_up T 110648 (upd (T 110648) 0 (nI 0))) 182369 (upd ((va_up T 110648 (upd (T 110648) 0 (nI 0))) 182369) ((T 110648 42).toNatClampNeg) (T 110648 1))) 184417) ((T 110648 42).toNatClampNeg) x1)) 186465 (upd ((va_up (va_up (va_up T 110648 (upd (T 110648) 0 (nI 0))) 182369 (upd ((va_up T 110648 (upd (T 110648) 0 (nI 0))) 182369) ((T 110648 42).toNatClampNeg) (T 110648 1))) 184417 (upd ((va_up (va_up T 110648 (upd (T 110648) 0 (nI 0))) 182369 (upd ((va_up T 110648 (upd (T 110648) 0 (nI 0))) 182369) ((T 110648 42).toNatClampNeg) (T 110648 1))) 184417) ((T 110648 42).toNatClampNeg) x1)) 186465) ((T 110648 42).toNatClampNeg) x2)) 188513 (upd ((va_up (va_up (va_up (va_up T 110648 (upd (T 110648) 0 (nI 0))) 182369 (upd ((va_up T 110648 (upd (T 110648) 0 (nI 0))) 182369) ((T 110648 42).toNatClampNeg) (T 110648 1))) 184417 (upd ((va_up (va_up T 110648 (upd (T 110648) 0 (nI 0))) 182369 (upd ((va_up T 110648 (upd (T 110648) 0 (nI 0))) 182369) ((T 110648 42).toNatClampNeg) (T 110648 1))) 184417) ((T 110648 42).toNatClampNeg) x1)) 186465 (upd ((va_up (va_up (va_up T 110648 (upd (T 110648) 0 (nI 0))) 182369 (upd ((va_up T 110648 (upd (T 110648) 0 (nI 0))) 182369) ((T 110648 42).toNatClampNeg) (T 110648 1))) 184417 (upd ((va_up (va_up T 110648 (upd (T 110648) 0 (nI 0))) 182369 (upd ((va_up T 110648 (upd (T 110648) 0 (nI 0))) 182369) ((T 110648 42).toNatClampNeg) (T 110648 1))) 184417) ((T 110648 42).toNatClampNeg) x1)) 186465) ((T 110648 42).toNatClampNeg) x2)) 188513) ((T 110648 42).toNatClampNeg) x3)) 190561 (upd ((va_up (va_up (va_up (va_up (va_up T 110648 (upd (T 110648) 0 (nI 0))) 182369 (upd ((va_up T 110648 (upd (T 110648) 0 (nI 0))) 182369) ((T 110648 42).toNatClampNeg) (T 110648 1))) 184417 (upd ((va_up (va_up T 110648 (upd (T 110648) 0 (nI 0))) 182369 (upd ((va_up T 110648 (upd (T 110648) 0 (nI 0))) 182369) ((T 110648 42).toNatClampNeg) (T 110648 1))) 184417) ((T 110648 42).toNatClampNeg) x1)) 186465 (upd ((va_up (va_up (va_up T 110648 (upd (T 110648) 0 (nI 0))) 182369 (upd ((va_up T 110648 (upd (T 110648) 0 (nI 0))) 182369) ((T 110648 42).toNatClampNeg) (T 110648 1))) 184417 (upd ((va_up (va_up T 110648 (upd (T 110648) 0 (nI 0))) 182369 (upd ((va_up T 110648 (upd (T 110648) 0 (nI 0))) 182369) ((T 110648 42).toNatClampNeg) (T 110648 1))) 184417) ((T 110648 42).toNatClampNeg) x1)) 186465) ((T 110648 42).toNatClampNeg) x2)) 188513 (upd ((va_up (va_up (va_up (va_up T 110648 (upd (T 110648) 0 (nI 0))) 182369 (upd ((va_up T 110648 (upd (T 110648) 0 (nI 0))) 182369) ((T 110648 42).toNatClampNeg) (T 110648 1))) 184417 (upd ((va_up (va_up T 110648 (upd (T 110648) 0 (nI 0))) 182369 (upd ((va_up T 110648 (upd (T 110648) 0 (nI 0))) 182369) ((T 110648 42).toNatClampNeg) (T 110648 1))) 184417) ((T 110648 42).toNatClampNeg) x1)) 186465 (upd ((va_up (va_up (va_up T 110648 (upd (T 110648) 0 (nI 0))) 182369 (upd ((va_up T 110648 (upd (T 110648) 0 (nI 0))) 182369) ((T 110648 42).toNatClampNeg) (T 110648 1))) 184417 (upd ((va_up (va_up T 110648 (upd (T 110648) 0 (nI 0))) 182369 (upd ((va_up T 110648 (upd (T 110648) 0 (nI 0))) 182369) ((T 110648 42).toNatClampNeg) (T 110648 1))) 184417) ((T 110648 42).toNatClampNeg) x1)) 186465) ((T 110648 42).toNatClampNeg) x2)) 188513) ((T 110648 42).toNatClampNeg) x3)) 190561) ((T 110648 42).toNatClampNeg) x4)) 192610) ((T 110648 42).toNatClampNeg) (vp_nar .boolean x5))) 202849 (upd ((va_up (va_up (va_up (va_up (va_up (va_up (va_up T 110648 (upd (T 110648) 0 (nI 0))) 182369 (upd ((va_up T 110648 (upd (T 110648) 0 (nI 0))) 182369) ((T 110648 42).toNatClampNeg) (T 110648 1))) 184417 (upd ((va_up (va_up T 110648 (upd (T 110648) 0 (nI 0))) 182369 (upd ((va_up T 110648 (upd (T 110648) 0 (nI 0))) 182369) ((T 110648 42).toNatClampNeg) (T 110648 1))) 184417) ((T 110648 42).toNatClampNeg) x1)) 186465 (upd ((va_up (va_up (va_up T 110648 (upd (T 110648) 0 (nI 0))) 182369 (upd ((va_up T 110648 (upd (T 110648) 0 (nI 0))) 182369) ((T 110648 42).toNatClampNeg) (T 110648 1))) 184417 (upd ((va_up (va_up T 110648 (upd (T 110648) 0 (nI 0))) 182369 (upd ((va_up T 110648 (upd (T 110648) 0 (nI 0))) 182369) ((T 110648 42).toNatClampNeg) (T 110648 1))) 184417) ((T 110648 42).toNatClampNeg) x1)) 186465) ((T 110648 42).toNatClampNeg) x2)) 188513 (upd ((va_up (va_up (va_up (va_up T 110648 (upd (T 110648) 0 (nI 0))) 182369 (upd ((va_up T 110648 (upd (T 110648) 0 (nI 0))) 182369) ((T 110648 42).toNatClampNeg) (T 110648 1))) 184417 (upd ((va_up (va_up T 110648 (upd (T 110648) 0 (nI 0))) 182369 (upd ((va_up T 110648 (upd (T 110648) 0 (nI 0))) 182369) ((T 110648 42).toNatClampNeg) (T 110648 1))) 184417) ((T 110648 42).toNatClampNeg) x1)) 186465 (upd ((va_up (va_up (va_up T 110648 (upd (T 110648) 0 (nI 0))) 182369 (upd ((va_up T 110648 (upd (T 110648) 0 (nI 0))) 182369) ((T 110648 42).toNatClampNeg) (T 110648 1))) 184417 (upd ((va_up (va_up T 110648 (upd (T 110648) 0 (nI 0))) 182369 (upd ((va_up T 110648 (upd (T 110648) 0 (nI 0))) 182369) ((T 110648 42).toNatClampNeg) (T 110648 1))) 184417) ((T 110648 42).toNatClampNeg) x1)) 186465) ((T 110648 42).toNatClampNeg) x2)) 188513) ((T 110648 42).toNatClampNeg) x3)) 190561 (upd ((va_up (va_up (va_up (va_up (va_up T 110648 (upd (T 110648) 0 (nI 0))) 182369 (upd ((va_up T 110648 (upd (T 110648) 0 (nI 0))) 182369) ((T 110648 42).toNatClampNeg) (T 110648 1))) 184417 (upd ((va_up (va_up T 110648 (upd (T 110648) 0 (nI 0))) 182369 (upd ((va_up T 110648 (upd (T 110648) 0 (nI 0))) 182369) ((T 110648 42).toNatClampNeg) (T 110648 1))) 184417) ((T 110648 42).toNatClampNeg) x1)) 186465 (upd ((va_up (va_up (va_up T 110648 (upd (T 110648) 0 (nI 0))) 182369 (upd ((va_up T 110648 (upd (T 110648) 0 (nI 0))) 182369) ((T 110648 42).toNatClampNeg) (T 110648 1))) 184417 (upd ((va_up (va_up T 110648 (upd (T 110648) 0 (nI 0))) 182369 (upd ((va_up T 110648 (upd (T 110648) 0 (nI 0))) 182369) ((T 110648 42).toNatClampNeg) (T 110648 1))) 184417) ((T 110648 42).toNatClampNeg) x1)) 186465) ((T 110648 42).toNatClampNeg) x2)) 188513 (upd ((va_up (va_up (va_up (va_up T 110648 (upd (T 110648) 0 (nI 0))) 182369 (upd ((va_up T 110648 (upd (T 110648) 0 (nI 0))) 182369) ((T 110648 42).toNatClampNeg) (T 110648 1))) 184417 (upd ((va_up (va_up T 110648 (upd (T 110648) 0 (nI 0))) 182369 (upd ((va_up T 110648 (upd (T 110648) 0 (nI 0))) 182369) ((T 110648 42).toNatClampNeg) (T 110648 1))) 184417) ((T 110648 42).toNatClampNeg) x1)) 186465 (upd ((va_up (va_up (va_up T 110648 (upd (T 110648) 0 (nI 0))) 182369 (upd ((va_up T 110648 (upd (T 110648) 0 (nI 0))) 182369) ((T 110648 42).toNatClampNeg) (T 110648 1))) 184417 (upd ((va_up (va_up T 110648 (upd (T 110648) 0 (nI 0))) 182369 (upd ((va_up T 110648 (upd (T 110648) 0 (nI 0))) 182369) ((T 110648 42).toNatClampNeg) (T 110648 1))) 184417) ((T 110648 42).toNatClampNeg) x1)) 186465) ((T 110648 42).toNatClampNeg) x2)) 188513) ((T 110648 42).toNatClampNeg) x3)) 190561) ((T 110648 42).toNatClampNeg) x4)) 192610 (upd ((va_up (va_up (va_up (va_up (va_up (va_up T 110648 (upd (T 110648) 0 (nI 0))) 182369 (upd ((va_up T 110648 (upd (T 110648) 0 (nI 0))) 182369) ((T 110648 42).toNatClampNeg) (T 110648 1))) 184417 (upd ((va_up (va_up T 110648 (upd (T 110648) 0 (nI 0))) 182369 (upd ((va_up T 110648 (upd (T 110648) 0 (nI 0))) 182369) ((T 110648 42).toNatClampNeg) (T 110648 1))) 184417) ((T 110648 42).toNatClampNeg) x1)) 186465 (upd ((va_up (va_up (va_up T 110648 (upd (T 110648) 0 (nI 0))) 182369 (upd ((va_up T 110648 (upd (T 110648) 0 (nI 0))) 182369) ((T 110648 42).toNatClampNeg) (T 110648 1))) 184417 (upd ((va_up (va_up T 110648 (upd (T 110648) 0 (nI 0))) 182369 (upd ((va_up T 110648 (upd (T 110648) 0 (nI 0))) 182369) ((T 110648 42).toNatClampNeg) (T 110648 1))) 184417) ((T 110648 42).toNatClampNeg) x1)) 186465) ((T 110648 42).toNatClampNeg) x2)) 188513 (upd ((va_up (va_up (va_up (va_up T 110648 (upd (T 110648) 0 (nI 0))) 182369 (upd ((va_up T 110648 (upd (T 110648) 0 (nI 0))) 182369) ((T 110648 42).toNatClampNeg) (T 110648 1))) 184417 (upd ((va_up (va_up T 110648 (upd (T 110648) 0 (nI 0))) 182369 (upd ((va_up T 110648 (upd (T 110648) 0 (nI 0))) 182369) ((T 110648 42).toNatClampNeg) (T 110648 1))) 184417) ((T 110648 42).toNatClampNeg) x1)) 186465 (upd ((va_up (va_up (va_up T 110648 (upd (T 110648) 0 (nI 0))) 182369 (upd ((va_up T 110648 (upd (T 110648) 0 (nI 0))) 182369) ((T 110648 42).toNatClampNeg) (T 110648 1))) 184417 (upd ((va_up (va_up T 110648 (upd (T 110648) 0 (nI 0))) 182369 (upd ((va_up T 110648 (upd (T 110648) 0 (nI 0))) 182369) ((T 110648 42).toNatClampNeg) (T 110648 1))) 184417) ((T 110648 42).toNatClampNeg) x1)) 186465) ((T 110648 42).toNatClampNeg) x2)) 188513) ((T 110648 42).toNatClampNeg) x3)) 190561 (upd ((va_up (va_up (va_up (va_up (va_up T 110648 (upd (T 110648) 0 (nI 0))) 182369 (upd ((va_up T 110648 (upd (T 110648) 0 (nI 0))) 182369) ((T 110648 42).toNatClampNeg) (T 110648 1))) 184417 (upd ((va_up (va_up T 110648 (upd (T 110648) 0 (nI 0))) 182369 (upd ((va_up T 110648 (upd (T 110648) 0 (nI 0))) 182369) ((T 110648 42).toNatClampNeg) (T 110648 1))) 184417) ((T 110648 42).toNatClampNeg) x1)) 186465 (upd ((va_up (va_up (va_up T 110648 (upd (T 110648) 0 (nI 0))) 182369 (upd ((va_up T 110648 (upd (T 110648) 0 (nI 0))) 182369) ((T 110648 42).toNatClampNeg) (T 110648 1))) 184417 (upd ((va_up (va_up T 110648 (upd (T 110648) 0 (nI 0))) 182369 (upd ((va_up T 110648 (upd (T 110648) 0 (nI 0))) 182369) ((T 110648 42).toNatClampNeg) (T 110648 1))) 184417) ((T 110648 42).toNatClampNeg) x1)) 186465) ((T 110648 42).toNatClampNeg) x2)) 188513 (upd ((va_up (va_up (va_up (va_up T 110648 (upd (T 110648) 0 (nI 0))) 182369 (upd ((va_up T 110648 (upd (T 110648) 0 (nI 0))) 182369) ((T 110648 42).toNatClampNeg) (T 110648 1))) 184417 (upd ((va_up (va_up T 110648 (upd (T 110648) 0 (nI 0))) 182369 (upd ((va_up T 110648 (upd (T 110648) 0 (nI 0))) 182369) ((T 110648 42).toNatClampNeg) (T 110648 1))) 184417) ((T 110648 42).toNatClampNeg) x1)) 186465 (upd ((va_up (va_up (va_up T 110648 (upd (T 110648) 0 (nI 0))) 182369 (upd ((va_up T 110648 (upd (T 110648) 0 (nI 0))) 182369) ((T 110648 42).toNatClampNeg) (T 110648 1))) 184417 (upd ((va_up (va_up T 110648 (upd (T 110648) 0 (nI 0))) 182369 (upd ((va_up T 110648 (upd (T 110648) 0 (nI 0))) 182369) ((T 110648 42).toNatClampNeg) (T 110648 1))) 184417) ((T 110648 42).toNatClampNeg) x1)) 186465) ((T 110648 42).toNatClampNeg) x2)) 188513) ((T 110648 42).toNatClampNeg) x3)) 190561) ((T 110648 42).toNatClampNeg) x4)) 192610) ((T 110648 42).toNatClampNeg) (vp_nar .boolean x5))) 202849) ((T 110648 42).toNatClampNeg) (-1))) 110648 (upd ((va_up (va_up (va_up (va_up (va_up (va_up (va_up (va_up T 110648 (upd (T 110648) 0 (nI 0))) 182369 (upd ((va_up T 110648 (upd (T 110648) 0 (nI 0))) 182369) ((T 110648 42).toNatClampNeg) (T 110648 1))) 184417 (upd ((va_up (va_up T 110648 (upd (T 110648) 0 (nI 0))) 182369 (upd ((va_up T 110648 (upd (T 110648) 0 (nI 0))) 182369) ((T 110648 42).toNatClampNeg) (T 110648 1))) 184417) ((T 110648 42).toNatClampNeg) x1)) 186465 (upd ((va_up (va_up (va_up T 110648 (upd (T 110648) 0 (nI 0))) 182369 (upd ((va_up T 110648 (upd (T 110648) 0 (nI 0))) 182369) ((T 110648 42).toNatClampNeg) (T 110648 1))) 184417 (upd ((va_up (va_up T 110648 (upd (T 110648) 0 (nI 0))) 182369 (upd ((va_up T 110648 (upd (T 110648) 0 (nI 0))) 182369) ((T 110648 42).toNatClampNeg) (T 110648 1))) 184417) ((T 110648 42).toNatClampNeg) x1)) 186465) ((T 110648 42).toNatClampNeg) x2)) 188513 (upd ((va_up (va_up (va_up (va_up T 110648 (upd (T 110648) 0 (nI 0))) 182369 (upd ((va_up T 110648 (upd (T 110648) 0 (nI 0))) 182369) ((T 110648 42).toNatClampNeg) (T 110648 1))) 184417 (upd ((va_up (va_up T 110648 (upd (T 110648) 0 (nI 0))) 182369 (upd ((va_up T 110648 (upd (T 110648) 0 (nI 0))) 182369) ((T 110648 42).toNatClampNeg) (T 110648 1))) 184417) ((T 110648 42).toNatClampNeg) x1)) 186465 (upd ((va_up (va_up (va_up T 110648 (upd (T 110648) 0 (nI 0))) 182369 (upd ((va_up T 110648 (upd (T 110648) 0 (nI 0))) 182369) ((T 110648 42).toNatClampNeg) (T 110648 1))) 184417 (upd ((va_up (va_up T 110648 (upd (T 110648) 0 (nI 0))) 182369 (upd ((va_up T 110648 (upd (T 110648) 0 (nI 0))) 182369) ((T 110648 42).toNatClampNeg) (T 110648 1))) 184417) ((T 110648 42).toNatClampNeg) x1)) 186465) ((T 110648 42).toNatClampNeg) x2)) 188513) ((T 110648 42).toNatClampNeg) x3)) 190561 (upd ((va_up (va_up (va_up (va_up (va_up T 110648 (upd (T 110648) 0 (nI 0))) 182369 (upd ((va_up T 110648 (upd (T 110648) 0 (nI 0))) 182369) ((T 110648 42).toNatClampNeg) (T 110648 1))) 184417 (upd ((va_up (va_up T 110648 (upd (T 110648) 0 (nI 0))) 182369 (upd ((va_up T 110648 (upd (T 110648) 0 (nI 0))) 182369) ((T 110648 42).toNatClampNeg) (T 110648 1))) 184417) ((T 110648 42).toNatClampNeg) x1)) 186465 (upd ((va_up (va_up (va_up T 110648 (upd (T 110648) 0 (nI 0))) 182369 (upd ((va_up T 110648 (upd (T 110648) 0 (nI 0))) 182369) ((T 110648 42).toNatClampNeg) (T 110648 1))) 184417 (upd ((va_up (va_up T 110648 (upd (T 110648) 0 (nI 0))) 182369 (upd ((va_up T 110648 (upd (T 110648) 0 (nI 0))) 182369) ((T 110648 42).toNatClampNeg) (T 110648 1))) 184417) ((T 110648 42).toNatClampNeg) x1)) 186465) ((T 110648 42).toNatClampNeg) x2)) 188513 (upd ((va_up (va_up (va_up (va_up T 110648 (upd (T 110648) 0 (nI 0))) 182369 (upd ((va_up T 110648 (upd (T 110648) 0 (nI 0))) 182369) ((T 110648 42).toNatClampNeg) (T 110648 1))) 184417 (upd ((va_up (va_up T 110648 (upd (T 110648) 0 (nI 0))) 182369 (upd ((va_up T 110648 (upd (T 110648) 0 (nI 0))) 182369) ((T 110648 42).toNatClampNeg) (T 110648 1))) 184417) ((T 110648 42).toNatClampNeg) x1)) 186465 (upd ((va_up (va_up (va_up T 110648 (upd (T 110648) 0 (nI 0))) 182369 (upd ((va_up T 110648 (upd (T 110648) 0 (nI 0))) 182369) ((T 110648 42).toNatClampNeg) (T 110648 1))) 184417 (upd ((va_up (va_up T 110648 (upd (T 110648) 0 (nI 0))) 182369 (upd ((va_up T 110648 (upd (T 110648) 0 (nI 0))) 182369) ((T 110648 42).toNatClampNeg) (T 110648 1))) 184417) ((T 110648 42).toNatClampNeg) x1)) 186465) ((T 110648 42).toNatClampNeg) x2)) 188513) ((T 110648 42).toNatClampNeg) x3)) 190561) ((T 110648 42).toNatClampNeg) x4)) 192610 (upd ((va_up (va_up (va_up (va_up (va_up (va_up T 110648 (upd (T 110648) 0 (nI 0))) 182369 (upd ((va_up T 110648 (upd (T 110648) 0 (nI 0))) 182369) ((T 110648 42).toNatClampNeg) (T 110648 1))) 184417 (upd ((va_up (va_up T 110648 (upd (T 110648) 0 (nI 0))) 182369 (upd ((va_up T 110648 (upd (T 110648) 0 (nI 0))) 182369) ((T 110648 42).toNatClampNeg) (T 110648 1))) 184417) ((T 110648 42).toNatClampNeg) x1)) 186465 (upd ((va_up (va_up (va_up T 110648 (upd (T 110648) 0 (nI 0))) 182369 (upd ((va_up T 110648 (upd (T 110648) 0 (nI 0))) 182369) ((T 110648 42).toNatClampNeg) (T 110648 1))) 184417 (upd ((va_up (va_up T 110648 (upd (T 110648) 0 (nI 0))) 182369 (upd ((va_up T 110648 (upd (T 110648) 0 (nI 0))) 182369) ((T 110648 42).toNatClampNeg) (T 110648 1))) 184417) ((T 110648 42).toNatClampNeg) x1)) 186465) ((T 110648 42).toNatClampNeg) x2)) 188513 (upd ((va_up (va_up (va_up (va_up T 110648 (upd (T 110648) 0 (nI 0))) 182369 (upd ((va_up T 110648 (upd (T 110648) 0 (nI 0))) 182369) ((T 110648 42).toNatClampNeg) (T 110648 1))) 184417 (upd ((va_up (va_up T 110648 (upd (T 110648) 0 (nI 0))) 182369 (upd ((va_up T 110648 (upd (T 110648) 0 (nI 0))) 182369) ((T 110648 42).toNatClampNeg) (T 110648 1))) 184417) ((T 110648 42).toNatClampNeg) x1)) 186465 (upd ((va_up (va_up (va_up T 110648 (upd (T 110648) 0 (nI 0))) 182369 (upd ((va_up T 110648 (upd (T 110648) 0 (nI 0))) 182369) ((T 110648 42).toNatClampNeg) (T 110648 1))) 184417 (upd ((va_up (va_up T 110648 (upd (T 110648) 0 (nI 0))) 182369 (upd ((va_up T 110648 (upd (T 110648) 0 (nI 0))) 182369) ((T 110648 42).toNatClampNeg) (T 110648 1))) 184417) ((T 110648 42).toNatClampNeg) x1)) 186465) ((T 110648 42).toNatClampNeg) x2)) 188513) ((T 110648 42).toNatClampNeg) x3)) 190561 (upd ((va_up (va_up (va_up (va_up (va_up T 110648 (upd (T 110648) 0 (nI 0))) 182369 (upd ((va_up T 110648 (upd (T 110648) 0 (nI 0))) 182369) ((T 110648 42).toNatClampNeg) (T 110648 1))) 184417 (upd ((va_up (va_up T 110648 (upd (T 110648) 0 (nI 0))) 182369 (upd ((va_up T 110648 (upd (T 110648) 0 (nI 0))) 182369) ((T 110648 42).toNatClampNeg) (T 110648 1))) 184417) ((T 110648 42).toNatClampNeg) x1)) 186465 (upd ((va_up (va_up (va_up T 110648 (upd (T 110648) 0 (nI 0))) 182369 (upd ((va_up T 110648 (upd (T 110648) 0 (nI 0))) 182369) ((T 110648 42).toNatClampNeg) (T 110648 1))) 184417 (upd ((va_up (va_up T 110648 (upd (T 110648) 0 (nI 0))) 182369 (upd ((va_up T 110648 (upd (T 110648) 0 (nI 0))) 182369) ((T 110648 42).toNatClampNeg) (T 110648 1))) 184417) ((T 110648 42).toNatClampNeg) x1)) 186465) ((T 110648 42).toNatClampNeg) x2)) 188513 (upd ((va_up (va_up (va_up (va_up T 110648 (upd (T 110648) 0 (nI 0))) 182369 (upd ((va_up T 110648 (upd (T 110648) 0 (nI 0))) 182369) ((T 110648 42).toNatClampNeg) (T 110648 1))) 184417 (upd ((va_up (va_up T 110648 (upd (T 110648) 0 (nI 0))) 182369 (upd ((va_up T 110648 (upd (T 110648) 0 (nI 0))) 182369) ((T 110648 42).toNatClampNeg) (T 110648 1))) 184417) ((T 110648 42).toNatClampNeg) x1)) 186465 (upd ((va_up (va_up (va_up T 110648 (upd (T 110648) 0 (nI 0))) 182369 (upd ((va_up T 110648 (upd (T 110648) 0 (nI 0))) 182369) ((T 110648 42).toNatClampNeg) (T 110648 1))) 184417 (upd ((va_up (va_up T 110648 (upd (T 110648) 0 (nI 0))) 182369 (upd ((va_up T 110648 (upd (T 110648) 0 (nI 0))) 182369) ((T 110648 42).toNatClampNeg) (T 110648 1))) 184417) ((T 110648 42).toNatClampNeg) x1)) 186465) ((T 110648 42).toNatClampNeg) x2)) 188513) ((T 110648 42).toNatClampNeg) x3)) 190561) ((T 110648 42).toNatClampNeg) x4)) 192610) ((T 110648 42).toNatClampNeg) (vp_nar .boolean x5))) 202849 (upd ((va_up (va_up (va_up (va_up (va_up (va_up (va_up T 110648 (upd (T 110648) 0 (nI 0))) 182369 (upd ((va_up T 110648 (upd (T 110648) 0 (nI 0))) 182369) ((T 110648 42).toNatClampNeg) (T 110648 1))) 184417 (upd ((va_up (va_up T 110648 (upd (T 110648) 0 (nI 0))) 182369 (upd ((va_up T 110648 (upd (T 110648) 0 (nI 0))) 182369) ((T 110648 42).toNatClampNeg) (T 110648 1))) 184417) ((T 110648 42).toNatClampNeg) x1)) 186465 (upd ((va_up (va_up (va_up T 110648 (upd (T 110648) 0 (nI 0))) 182369 (upd ((va_up T 110648 (upd (T 110648) 0 (nI 0))) 182369) ((T 110648 42).toNatClampNeg) (T 110648 1))) 184417 (upd ((va_up (va_up T 110648 (upd (T 110648) 0 (nI 0))) 182369 (upd ((va_up T 110648 (upd (T 110648) 0 (nI 0))) 182369) ((T 110648 42).toNatClampNeg) (T 110648 1))) 184417) ((T 110648 42).toNatClampNeg) x1)) 186465) ((T 110648 42).toNatClampNeg) x2)) 188513 (upd ((va_up (va_up (va_up (va_up T 110648 (upd (T 110648) 0 (nI 0))) 182369 (upd ((va_up T 110648 (upd (T 110648) 0 (nI 0))) 182369) ((T 110648 42).toNatClampNeg) (T 110648 1))) 184417 (upd ((va_up (va_up T 110648 (upd (T 110648) 0 (nI 0))) 182369 (upd ((va_up T 110648 (upd (T 110648) 0 (nI 0))) 182369) ((T 110648 42).toNatClampNeg) (T 110648 1))) 184417) ((T 110648 42).toNatClampNeg) x1)) 186465 (upd ((va_up (va_up (va_up T 110648 (upd (T 110648) 0 (nI 0))) 182369 (upd ((va_up T 110648 (upd (T 110648) 0 (nI 0))) 182369) ((T 110648 42).toNatClampNeg) (T 110648 1))) 184417 (upd ((va_up (va_up T 110648 (upd (T 110648) 0 (nI 0))) 182369 (upd ((va_up T 110648 (upd (T 110648) 0 (nI 0))) 182369) ((T 110648 42).toNatClampNeg) (T 110648 1))) 184417) ((T 110648 42).toNatClampNeg) x1)) 186465) ((T 110648 42).toNatClampNeg) x2)) 188513) ((T 110648 42).toNatClampNeg) x3)) 190561 (upd ((va_up (va_up (va_up (va_up (va_up T 110648 (upd (T 110648) 0 (nI 0))) 182369 (upd ((va_up T 110648 (upd (T 110648) 0 (nI 0))) 182369) ((T 110648 42).toNatClampNeg) (T 110648 1))) 184417 (upd ((va_up (va_up T 110648 (upd (T 110648) 0 (nI 0))) 182369 (upd ((va_up T 110648 (upd (T 110648) 0 (nI 0))) 182369) ((T 110648 42).toNatClampNeg) (T 110648 1))) 184417) ((T 110648 42).toNatClampNeg) x1)) 186465 (upd ((va_up (va_up (va_up T 110648 (upd (T 110648) 0 (nI 0))) 182369 (upd ((va_up T 110648 (upd (T 110648) 0 (nI 0))) 182369) ((T 110648 42).toNatClampNeg) (T 110648 1))) 184417 (upd ((va_up (va_up T 110648 (upd (T 110648) 0 (nI 0))) 182369 (upd ((va_up T 110648 (upd (T 110648) 0 (nI 0))) 182369) ((T 110648 42).toNatClampNeg) (T 110648 1))) 184417) ((T 110648 42).toNatClampNeg) x1)) 186465) ((T 110648 42).toNatClampNeg) x2)) 188513 (upd ((va_up (va_up (va_up (va_up T 110648 (upd (T 110648) 0 (nI 0))) 182369 (upd ((va_up T 110648 (upd (T 110648) 0 (nI 0))) 182369) ((T 110648 42).toNatClampNeg) (T 110648 1))) 184417 (upd ((va_up (va_up T 110648 (upd (T 110648) 0 (nI 0))) 182369 (upd ((va_up T 110648 (upd (T 110648) 0 (nI 0))) 182369) ((T 110648 42).toNatClampNeg) (T 110648 1))) 184417) ((T 110648 42).toNatClampNeg) x1)) 186465 (upd ((va_up (va_up (va_up T 110648 (upd (T 110648) 0 (nI 0))) 182369 (upd ((va_up T 110648 (upd (T 110648) 0 (nI 0))) 182369) ((T 110648 42).toNatClampNeg) (T 110648 1))) 184417 (upd ((va_up (va_up T 110648 (upd (T 110648) 0 (nI 0))) 182369 (upd ((va_up T 110648 (upd (T 110648) 0 (nI 0))) 182369) ((T 110648 42).toNatClampNeg) (T 110648 1))) 184417) ((T 110648 42).toNatClampNeg) x1)) 186465) ((T 110648 42).toNatClampNeg) x2)) 188513) ((T 110648 42).toNatClampNeg) x3)) 190561) ((T 110648 42).toNatClampNeg) x4)) 192610 (upd ((va_up (va_up (va_up (va_up (va_up (va_up T 110648 (upd (T 110648) 0 (nI 0))) 182369 (upd ((va_up T 110648 (upd (T 110648) 0 (nI 0))) 182369) ((T 110648 42).toNatClampNeg) (T 110648 1))) 184417 (upd ((va_up (va_up T 110648 (upd (T 110648) 0 (nI 0))) 182369 (upd ((va_up T 110648 (upd (T 110648) 0 (nI 0))) 182369) ((T 110648 42).toNatClampNeg) (T 110648 1))) 184417) ((T 110648 42).toNatClampNeg) x1)) 186465 (upd ((va_up (va_up (va_up T 110648 (upd (T 110648) 0 (nI 0))) 182369 (upd ((va_up T 110648 (upd (T 110648) 0 (nI 0))) 182369) ((T 110648 42).toNatClampNeg) (T 110648 1))) 184417 (upd ((va_up (va_up T 110648 (upd (T 110648) 0 (nI 0))) 182369 (upd ((va_up T 110648 (upd (T 110648) 0 (nI 0))) 182369) ((T 110648 42).toNatClampNeg) (T 110648 1))) 184417) ((T 110648 42).toNatClampNeg) x1)) 186465) ((T 110648 42).toNatClampNeg) x2)) 188513 (upd ((va_up (va_up (va_up (va_up T 110648 (upd (T 110648) 0 (nI 0))) 182369 (upd ((va_up T 110648 (upd (T 110648) 0 (nI 0))) 182369) ((T 110648 42).toNatClampNeg) (T 110648 1))) 184417 (upd ((va_up (va_up T 110648 (upd (T 110648) 0 (nI 0))) 182369 (upd ((va_up T 110648 (upd (T 110648) 0 (nI 0))) 182369) ((T 110648 42).toNatClampNeg) (T 110648 1))) 184417) ((T 110648 42).toNatClampNeg) x1)) 186465 (upd ((va_up (va_up (va_up T 110648 (upd (T 110648) 0 (nI 0))) 182369 (upd ((va_up T 110648 (upd (T 110648) 0 (nI 0))) 182369) ((T 110648 42).toNatClampNeg) (T 110648 1))) 184417 (upd ((va_up (va_up T 110648 (upd (T 110648) 0 (nI 0))) 182369 (upd ((va_up T 110648 (upd (T 110648) 0 (nI 0))) 182369) ((T 110648 42).toNatClampNeg) (T 110648 1))) 184417) ((T 110648 42).toNatClampNeg) x1)) 186465) ((T 110648 42).toNatClampNeg) x2)) 188513) ((T 110648 42).toNatClampNeg) x3)) 190561 (upd ((va_up (va_up (va_up (va_up (va_up T 110648 (upd (T 110648) 0 (nI 0))) 182369 (upd ((va_up T 110648 (upd (T 110648) 0 (nI 0))) 182369) ((T 110648 42).toNatClampNeg) (T 110648 1))) 184417 (upd ((va_up (va_up T 110648 (upd (T 110648) 0 (nI 0))) 182369 (upd ((va_up T 110648 (upd (T 110648) 0 (nI 0))) 182369) ((T 110648 42).toNatClampNeg) (T 110648 1))) 184417) ((T 110648 42).toNatClampNeg) x1)) 186465 (upd ((va_up (va_up (va_up T 110648 (upd (T 110648) 0 (nI 0))) 182369 (upd ((va_up T 110648 (upd (T 110648) 0 (nI 0))) 182369) ((T 110648 42).toNatClampNeg) (T 110648 1))) 184417 (upd ((va_up (va_up T 110648 (upd (T 110648) 0 (nI 0))) 182369 (upd ((va_up T 110648 (upd (T 110648) 0 (nI 0))) 182369) ((T 110648 42).toNatClampNeg) (T 110648 1))) 184417) ((T 110648 42).toNatClampNeg) x1)) 186465) ((T 110648 42).toNatClampNeg) x2)) 188513 (upd ((va_up (va_up (va_up (va_up T 110648 (upd (T 110648) 0 (nI 0))) 182369 (upd ((va_up T 110648 (upd (T 110648) 0 (nI 0))) 182369) ((T 110648 42).toNatClampNeg) (T 110648 1))) 184417 (upd ((va_up (va_up T 110648 (upd (T 110648) 0 (nI 0))) 182369 (upd ((va_up T 110648 (upd (T 110648) 0 (nI 0))) 182369) ((T 110648 42).toNatClampNeg) (T 110648 1))) 184417) ((T 110648 42).toNatClampNeg) x1)) 186465 (upd ((va_up (va_up (va_up T 110648 (upd (T 110648) 0 (nI 0))) 182369 (upd ((va_up T 110648 (upd (T 110648) 0 (nI 0))) 182369) ((T 110648 42).toNatClampNeg) (T 110648 1))) 184417 (upd ((va_up (va_up T 110648 (upd (T 110648) 0 (nI 0))) 182369 (upd ((va_up T 110648 (upd (T 110648) 0 (nI 0))) 182369) ((T 110648 42).toNatClampNeg) (T 110648 1))) 184417) ((T 110648 42).toNatClampNeg) x1)) 186465) ((T 110648 42).toNatClampNeg) x2)) 188513) ((T 110648 42).toNatClampNeg) x3)) 190561) ((T 110648 42).toNatClampNeg) x4)) 192610) ((T 110648 42).toNatClampNeg) (vp_nar .boolean x5))) 202849) ((T 110648 42).toNatClampNeg) (-1))) 110648) 42 ((T 110648 42) + (nI 1)))) := by
          unfold u_X7_notice
          rw [if_pos nm0, if_neg nm1]
        have hU : u_X6_notice S P x1 x2 x3 x4 x5 = (u_X4_tell (u_X4_add S P (S 2096 8) x5) P (f_X4_add S P (S 2096 8) x5) x1 x2 x3 x4) := by
          unfold u_X6_notice
          rw [if_pos c0, if_pos c1, if_pos c2]
        have hf : f_X6_notice S P x1 x2 x3 x4 x5 = (f_X4_add S P (S 2096 8) x5) := by
          unfold f_X6_notice
          rw [if_pos c0, if_pos c1, if_pos c2]
        have hg : f_X7_notice T Q x1 x2 x3 x4 x5 = (((T 110648 42) + (nI 1)) - (nI 1)) := by
          unfold f_X7_notice
          rw [if_pos nm0, if_neg nm1]
        refine i_Gok he hU hV rfl ?_ ?_
        · rw [hf, hg]
          show (S 14368 11).toInt64 = _
          rw [i_c_notices h, Int32.add_sub_cancel]
        · unfold u_X4_tell u_X4_add f_X4_add
          have hz : z_le (S 14368 11) 12 := z_J_notices (i_J h)
          have hk : (S 14368 11).toNatClampNeg = (T 110648 42).toNatClampNeg := by rw [i_c_notices h]
          have hi := k_clI hz (by decide)
          have g0 := i_thr (x := nI 0) h
          have g1 := s_pair (a := 88161) (b := 182369) (x := S 2096 8) (x' := T 110648 1) g0 (by decide) hk (by rw [i_c_now h]) (i_bl_no (by decide)) (i_T_pair h.2.2.2.2.1 (by decide))
          have g2 := s_pair (a := 90209) (b := 184417) (x := x1) (x' := x1) g1 (by decide) hk rfl (i_bl_no (by decide)) (i_T_pair g1.2.2.2.2.1 (by decide))
          have g3 := s_pair (a := 92257) (b := 186465) (x := x2) (x' := x2) g2 (by decide) hk rfl (i_bl_notices_rights (k_deedR c0)) (i_T_pair g2.2.2.2.2.1 (by decide))
          have g4 := s_pair (a := 94305) (b := 188513) (x := x3) (x' := x3) g3 (by decide) hk rfl (i_bl_no (by decide)) (i_T_pair g3.2.2.2.2.1 (by decide))
          have g5 := s_pair (a := 96353) (b := 190561) (x := x4) (x' := x4) g4 (by decide) hk rfl (i_bl_no (by decide)) (i_T_pair g4.2.2.2.2.1 (by decide))
          have g6 := s_pair (a := 106594) (b := 192610) (x := vp_nar .boolean x5) (x' := vp_nar .boolean x5) g5 (by decide) hk rfl (i_bl_no (by decide)) (i_T_pair g5.2.2.2.2.1 (by decide))
          have hst : S 98401 (S 14368 11).toNatClampNeg = nI 0 := by
            rw [nI_0]
            exact h.2.2.2.2.1.2.2.1 _ (by omega)
          have g7 := s_same (a := 98401) (k := (S 14368 11).toNatClampNeg) (x := nI 0) g6 hst
          have g8 := s_pair (a := 104545) (b := 202849) (x := -1) (x' := -1) g7 (by decide) hk rfl (i_bl_no (by decide)) (i_T_pair g7.2.2.2.2.1 (by decide))
          have g9 := s_cnt (a := 14368) (k := 11) (b := 110648) (k' := 42) (x := S 14368 11 + nI 1) (x' := T 110648 42 + nI 1) g8 (by decide) (by decide) (by decide) (by rw [i_c_notices h]) (i_nl_notices_count (k_zle hz (by decide) c2)) (i_T_noc g8.2.2.2.2.1 rfl hz c2)
          refine i_fr g9 (fun c _ => congrFun ?_ c) (fun _ _ => rfl) (fun _ _ => rfl) rfl rfl
          simp (disch := decide) only [va_up_ne]
          rw [va_up_comm (a := 14368) (b := 90209) (by decide), va_up_comm (a := 14368) (b := 92257) (by decide), va_up_comm (a := 14368) (b := 94305) (by decide), va_up_comm (a := 14368) (b := 96353) (by decide), va_up_comm (a := 104545) (b := 90209) (by decide), va_up_comm (a := 104545) (b := 92257) (by decide), va_up_comm (a := 104545) (b := 94305) (by decide), va_up_comm (a := 104545) (b := 96353) (by decide), va_up_comm (a := 98401) (b := 90209) (by decide), va_up_comm (a := 98401) (b := 92257) (by decide), va_up_comm (a := 98401) (b := 94305) (by decide), va_up_comm (a := 98401) (b := 96353) (by decide), va_up_comm (a := 106594) (b := 90209) (by decide), va_up_comm (a := 106594) (b := 92257) (by decide), va_up_comm (a := 106594) (b := 94305) (by decide), va_up_comm (a := 106594) (b := 96353) (by decide)]
      · skip
        have nm0 : (f_X7_isWhat T Q x1 x2 x3 x4 (T 110648 1)) = true := m0.mpr ⟨c0, c1⟩
        have nm1 : (T 110648 42) = (nI 12) := m1.mpr c2
        have he : e_X6_notice S P x1 x2 x3 x4 x5 = (3) := by
          unfold e_X6_notice
          rw [if_pos c0, if_pos c1, if_neg c2]
        have hV : u_X7_notice T Q x1 x2 x3 x4 x5 = (va_up T 110648 (upd (T 110648) 0 (nI 2))) := by
          unfold u_X7_notice
          rw [if_pos nm0, if_pos nm1]
        exact i_Gerr h he hV (by decide) (fun _ _ => rfl)
    · skip
      have nm0 : ¬ ((f_X7_isWhat T Q x1 x2 x3 x4 (T 110648 1)) = true) := fun q => c1 ((m0.mp q).2)
      have he : e_X6_notice S P x1 x2 x3 x4 x5 = (2) := by
        unfold e_X6_notice
        rw [if_pos c0, if_neg c1]
      have hV : u_X7_notice T Q x1 x2 x3 x4 x5 = (va_up T 110648 (upd (T 110648) 0 (nI 1))) := by
        unfold u_X7_notice
        rw [if_neg nm0]
      exact i_Gerr h he hV (by decide) (fun _ _ => rfl)
  · skip
    have nm0 : ¬ ((f_X7_isWhat T Q x1 x2 x3 x4 (T 110648 1)) = true) := fun q => c0 ((m0.mp q).1)
    have he : e_X6_notice S P x1 x2 x3 x4 x5 = (2) := by
      unfold e_X6_notice
      rw [if_neg c0]
    have hV : u_X7_notice T Q x1 x2 x3 x4 x5 = (va_up T 110648 (upd (T 110648) 0 (nI 1))) := by
      unfold u_X7_notice
      rw [if_neg nm0]
    exact i_Gerr h he hV (by decide) (fun _ _ => rfl)
theorem w6_notice (S : z_MI) (P : z_ML) (x1 x2 x3 x4 x5 : Int32) (q : Nat) (hq : 110648 ≤ q) : u_X6_notice S P x1 x2 x3 x4 x5 q = S q := by
  unfold u_X6_notice
  (repeat' split) <;> first | rfl | (unfold u_X4_tell u_X4_add; simp (disch := omega) only [va_up_ne])
theorem w7_notice (T : z_MI) (Q : z_ML) (x1 x2 x3 x4 x5 : Int32) (q : Nat) (hq : q < 110648) : u_X7_notice T Q x1 x2 x3 x4 x5 q = T q := by
  unfold u_X7_notice
  (repeat' split) <;> first | rfl | (simp (disch := omega) only [va_up_ne]; done)
theorem o_notice {S : z_MI} {P : z_ML} (h0 : i_I S P) (x1 x2 x3 x4 x5 : Int32) : F_notice S P x1 x2 x3 x4 x5 i_I :=
  i_FO h0 (w6_notice S P x1 x2 x3 x4 x5) (fun T Q q hq => w7_notice T Q x1 x2 x3 x4 x5 q hq) (fun T Q h => ok_notice (T := T) (Q := Q) h x1 x2 x3 x4 x5) (by rcases w_L_notice_e S P x1 x2 x3 x4 x5 with e | e | e <;> rw [e] <;> decide)
theorem k_partF {S S' : z_MI} {P : z_ML} {n : Int32} (h1 : S' 12296 = S 12296) (h2 : S' 77921 = S 77921) (h3 : S' 82017 = S 82017) (h4 : S' 73825 = S 73825) (h5 : S' 71777 = S 71777) (h6 : S' 90209 = S 90209) (h7 : S' 88161 = S 88161) : f_X6_partiesOf S' P n = f_X6_partiesOf S P n := by
  unfold f_X6_partiesOf f_X1_partiesAt l_X1_partiesAt_5 f_X1_stands f_X6_with
  rw [h1, h2, h3, h4, h5, h6, h7]
theorem k_canSp {S T : z_MI} {P Q : z_ML} (h : i_2 S T P Q) {p n : Int32} (hp : f_X2_isPeople S P p = true) : (f_X7_canSpeak T Q p n = true) ↔ (S 98401 n.toNatClampNeg = 0 ∧ f_X6_isIn S P (f_X6_partiesOf S P n) p = true) := by
  obtain ⟨j, rfl, hj, -⟩ := k_idxP h hp
  unfold f_X7_canSpeak
  rw [i_a_noticeState h, k_partiesOf (P' := P) (Q' := Q) h, k_has S T P Q _ (nI_pos (by omega))]
  by_cases e : S 98401 n.toNatClampNeg = 0 <;> simp [e]
theorem k_hasP {S T : z_MI} {P Q : z_ML} (h : i_2 S T P Q) {p : Int32} (hp : f_X2_isPeople S P p = true) (a : Int32) : (f_X7_has T Q a p = true) ↔ (f_X6_isIn S P a p = true) := by
  obtain ⟨j, rfl, hj, -⟩ := k_idxP h hp
  rw [k_has S T P Q _ (nI_pos (by omega))]
theorem s_agree {S T : z_MI} {P Q : z_ML} (h : i_2 S T P Q) (x1 x2 : Int32) : i_2 (va_up S 100449 (upd (S 100449) x2.toNatClampNeg (f_X6_with S P (S 100449 x2.toNatClampNeg) x1 (nI 1)))) (va_up (va_up T 110648 (upd (T 110648) 0 (nI 0))) 198753 (upd ((va_up T 110648 (upd (T 110648) 0 (nI 0))) 198753) x2.toNatClampNeg ((T 198753 x2.toNatClampNeg) ||| ((nI 1) <<< (x1 &&& 31))))) P Q := by
  have h1 := i_thr (x := nI 0) h
  exact s_pair (a := 100449) (b := 198753) h1 (by decide) rfl (by rw [i_a_agreed h, j_w1]) (i_bl_no (by decide)) (i_T_pair h.2.2.2.2.1 (by decide))
theorem ok_agree {S T : z_MI} {P Q : z_ML} (h : i_2 S T P Q) (x1 x2 : Int32) : i_G 1 0 2 (e_X6_agree S P x1 x2) S (u_X6_agree S P x1 x2) P Q (u_X7_agree T Q x1 x2) ((f_X6_agree S P x1 x2).toInt64) ((f_X7_agree T Q x1 x2).toInt64) := by
  have m0 : ((f_X7_isPeople T Q x1) = true) ↔ (((f_X2_isPeople S P x1) = true)) := by rw [k_isPeople (P' := P) h]
  have m1 : ((f_X7_isNotice T Q x2) = true) ↔ (((f_X4_isNotice S P x2) = true)) := by rw [k_isNotice (P' := P) h]
  by_cases c0 : (f_X2_isPeople S P x1) = true
  · skip
    by_cases c1 : (f_X4_isNotice S P x2) = true
    · skip
      by_cases c2 : (S 98401 x2.toNatClampNeg) = 0
      · skip
        by_cases c3 : (f_X6_isIn S P (f_X6_partiesOf S P x2) x1) = true
        · skip
          by_cases c4 : (f_X6_isIn S P (S 100449 x2.toNatClampNeg) x1) = true
          · skip
            have nm0 : (f_X7_isPeople T Q x1) = true := m0.mpr c0
            have nm1 : (f_X7_isNotice T Q x2) = true := m1.mpr c1
            have m2 : ((f_X7_canSpeak T Q x1 x2) = true) ↔ (((S 98401 x2.toNatClampNeg) = 0) ∧ ((f_X6_isIn S P (f_X6_partiesOf S P x2) x1) = true)) := k_canSp h c0
            have nm2 : (f_X7_canSpeak T Q x1 x2) = true := m2.mpr ⟨c2, c3⟩
            have m3 : ((f_X7_has T Q (T 198753 x2.toNatClampNeg) x1) = true) ↔ (((f_X6_isIn S P (S 100449 x2.toNatClampNeg) x1) = true)) := by rw [i_a_agreed h]; exact k_hasP h c0 _
            have nm3 : (f_X7_has T Q (T 198753 x2.toNatClampNeg) x1) = true := m3.mpr c4
            have he : e_X6_agree S P x1 x2 = (3) := by
              unfold e_X6_agree
              rw [if_pos c0, if_pos c1, if_pos c2, if_pos c3, if_pos c4]
            have hV : u_X7_agree T Q x1 x2 = (va_up T 110648 (upd (T 110648) 0 (nI 2))) := by
              unfold u_X7_agree
              rw [if_pos nm0, if_pos nm1, if_pos nm2, if_pos nm3]
            exact i_Gerr h he hV (by decide) (fun _ _ => rfl)
          · skip
            have nm0 : (f_X7_isPeople T Q x1) = true := m0.mpr c0
            have nm1 : (f_X7_isNotice T Q x2) = true := m1.mpr c1
            have m2 : ((f_X7_canSpeak T Q x1 x2) = true) ↔ (((S 98401 x2.toNatClampNeg) = 0) ∧ ((f_X6_isIn S P (f_X6_partiesOf S P x2) x1) = true)) := k_canSp h c0
            have nm2 : (f_X7_canSpeak T Q x1 x2) = true := m2.mpr ⟨c2, c3⟩
            have m3 : ((f_X7_has T Q (T 198753 x2.toNatClampNeg) x1) = true) ↔ (((f_X6_isIn S P (S 100449 x2.toNatClampNeg) x1) = true)) := by rw [i_a_agreed h]; exact k_hasP h c0 _
            have nm3 : ¬ ((f_X7_has T Q (T 198753 x2.toNatClampNeg) x1) = true) := fun q => c4 ((m3.mp q))
            have he : e_X6_agree S P x1 x2 = (0) := by
              unfold e_X6_agree
              rw [if_pos c0, if_pos c1, if_pos c2, if_pos c3, if_neg c4]
            have hV : u_X7_agree T Q x1 x2 = (va_up (va_up T 110648 (upd (T 110648) 0 (nI 0))) 198753 (upd ((va_up T 110648 (upd (T 110648) 0 (nI 0))) 198753) x2.toNatClampNeg ((T 198753 x2.toNatClampNeg) ||| ((nI 1) <<< (x1 &&& 31))))) := by
              unfold u_X7_agree
              rw [if_pos nm0, if_pos nm1, if_pos nm2, if_neg nm3]
            have hU : u_X6_agree S P x1 x2 = (va_up S 100449 (upd (S 100449) x2.toNatClampNeg (f_X6_with S P (S 100449 x2.toNatClampNeg) x1 (nI 1)))) := by
              unfold u_X6_agree
              rw [if_pos c0, if_pos c1, if_pos c2, if_pos c3, if_neg c4]
            have hf : f_X6_agree S P x1 x2 = (f_J6_bitCount_0f7a4 (va_up S 100449 (upd (S 100449) x2.toNatClampNeg (f_X6_with S P (S 100449 x2.toNatClampNeg) x1 (nI 1)))) P ((f_X6_partiesOf S P x2) &&& (((upd (S 100449) x2.toNatClampNeg (f_X6_with S P (S 100449 x2.toNatClampNeg) x1 (nI 1))) x2.toNatClampNeg) ^^^ (-1)))) := by
              unfold f_X6_agree
              rw [if_pos c0, if_pos c1, if_pos c2, if_pos c3, if_neg c4]
            have hg : f_X7_agree T Q x1 x2 = (f_X7_bits (va_up (va_up T 110648 (upd (T 110648) 0 (nI 0))) 198753 (upd ((va_up T 110648 (upd (T 110648) 0 (nI 0))) 198753) x2.toNatClampNeg ((T 198753 x2.toNatClampNeg) ||| ((nI 1) <<< (x1 &&& 31))))) Q ((f_X7_partiesOf (va_up (va_up T 110648 (upd (T 110648) 0 (nI 0))) 198753 (upd ((va_up T 110648 (upd (T 110648) 0 (nI 0))) 198753) x2.toNatClampNeg ((T 198753 x2.toNatClampNeg) ||| ((nI 1) <<< (x1 &&& 31))))) Q x2) &&& (((upd (T 198753) x2.toNatClampNeg ((T 198753 x2.toNatClampNeg) ||| ((nI 1) <<< (x1 &&& 31)))) x2.toNatClampNeg) ^^^ (-1)))) := by
              unfold f_X7_agree
              rw [if_pos nm0, if_pos nm1, if_pos nm2, if_neg nm3]
            refine i_Gok he hU hV rfl ?_ ?_
            · rw [hf, hg]
              have hs := s_agree h x1 x2
              rw [show f_X7_partiesOf _ Q x2 = f_X6_partiesOf S P x2 from (k_partiesOf (P' := P) (Q' := Q) hs x2).trans (k_partF rfl rfl rfl rfl rfl rfl rfl), pk_us, pk_us, i_a_agreed h, ← j_w1 S P]
              exact (congrArg Int32.toInt64 (j_pop _ _ P Q (j_nn_andl (k_nn6 h (k_partP h P x2))))).symm
            · exact s_agree h x1 x2
        · skip
          have nm0 : (f_X7_isPeople T Q x1) = true := m0.mpr c0
          have nm1 : (f_X7_isNotice T Q x2) = true := m1.mpr c1
          have m2 : ((f_X7_canSpeak T Q x1 x2) = true) ↔ (((S 98401 x2.toNatClampNeg) = 0) ∧ ((f_X6_isIn S P (f_X6_partiesOf S P x2) x1) = true)) := k_canSp h c0
          have nm2 : ¬ ((f_X7_canSpeak T Q x1 x2) = true) := fun q => c3 ((m2.mp q).2)
          have he : e_X6_agree S P x1 x2 = (3) := by
            unfold e_X6_agree
            rw [if_pos c0, if_pos c1, if_pos c2, if_neg c3]
          have hV : u_X7_agree T Q x1 x2 = (va_up T 110648 (upd (T 110648) 0 (nI 2))) := by
            unfold u_X7_agree
            rw [if_pos nm0, if_pos nm1, if_neg nm2]
          exact i_Gerr h he hV (by decide) (fun _ _ => rfl)
      · skip
        have nm0 : (f_X7_isPeople T Q x1) = true := m0.mpr c0
        have nm1 : (f_X7_isNotice T Q x2) = true := m1.mpr c1
        have m2 : ((f_X7_canSpeak T Q x1 x2) = true) ↔ (((S 98401 x2.toNatClampNeg) = 0) ∧ ((f_X6_isIn S P (f_X6_partiesOf S P x2) x1) = true)) := k_canSp h c0
        have nm2 : ¬ ((f_X7_canSpeak T Q x1 x2) = true) := fun q => c2 ((m2.mp q).1)
        have he : e_X6_agree S P x1 x2 = (3) := by
          unfold e_X6_agree
          rw [if_pos c0, if_pos c1, if_neg c2]
        have hV : u_X7_agree T Q x1 x2 = (va_up T 110648 (upd (T 110648) 0 (nI 2))) := by
          unfold u_X7_agree
          rw [if_pos nm0, if_pos nm1, if_neg nm2]
        exact i_Gerr h he hV (by decide) (fun _ _ => rfl)
    · skip
      have nm0 : (f_X7_isPeople T Q x1) = true := m0.mpr c0
      have nm1 : ¬ ((f_X7_isNotice T Q x2) = true) := fun q => c1 ((m1.mp q))
      have he : e_X6_agree S P x1 x2 = (1) := by
        unfold e_X6_agree
        rw [if_pos c0, if_neg c1]
      have hV : u_X7_agree T Q x1 x2 = (va_up T 110648 (upd (T 110648) 0 (nI 1))) := by
        unfold u_X7_agree
        rw [if_pos nm0, if_neg nm1]
      exact i_Gerr h he hV (by decide) (fun _ _ => rfl)
  · skip
    have nm0 : ¬ ((f_X7_isPeople T Q x1) = true) := fun q => c0 ((m0.mp q))
    have he : e_X6_agree S P x1 x2 = (1) := by
      unfold e_X6_agree
      rw [if_neg c0]
    have hV : u_X7_agree T Q x1 x2 = (va_up T 110648 (upd (T 110648) 0 (nI 1))) := by
      unfold u_X7_agree
      rw [if_neg nm0]
    exact i_Gerr h he hV (by decide) (fun _ _ => rfl)
theorem w6_agree (S : z_MI) (P : z_ML) (x1 x2 : Int32) (q : Nat) (hq : 110648 ≤ q) : u_X6_agree S P x1 x2 q = S q := by
  unfold u_X6_agree
  (repeat' split) <;> first | rfl | (simp (disch := omega) only [va_up_ne])
theorem w7_agree (T : z_MI) (Q : z_ML) (x1 x2 : Int32) (q : Nat) (hq : q < 110648) : u_X7_agree T Q x1 x2 q = T q := by
  unfold u_X7_agree
  (repeat' split) <;> first | rfl | (simp (disch := omega) only [va_up_ne]; done)
theorem o_agree {S : z_MI} {P : z_ML} (h0 : i_I S P) (x1 x2 : Int32) : F_agree S P x1 x2 i_I :=
  i_FO h0 (w6_agree S P x1 x2) (fun T Q q hq => w7_agree T Q x1 x2 q hq) (fun T Q h => ok_agree (T := T) (Q := Q) h x1 x2) (by rcases w_L_agree_e S P x1 x2 with e | e | e <;> rw [e] <;> decide)
theorem k_ite3 {A B C : Prop} [Decidable A] [Decidable B] [Decidable C] {α : Type} {X Y : α} : (if (if A then if B then false else if C then false else true else false) = true then X else Y) = if A then if B then Y else if C then Y else X else Y := by
  by_cases a : A <;> by_cases b : B <;> by_cases c : C <;> simp only [a, b, c, if_true, if_false, Bool.false_eq_true]
theorem k_ite4 {A B C : Prop} [Decidable A] [Decidable B] [Decidable C] {α : Type} {X Y : α} : (if (if A then if B then if C then false else true else false else false) = true then X else Y) = if A then if B then if C then Y else X else Y else Y := by
  by_cases a : A <;> by_cases b : B <;> by_cases c : C <;> simp only [a, b, c, if_true, if_false, Bool.false_eq_true]
theorem n6_object_e (S : z_MI) (P : z_ML) (x1 x2 : Int32) : e_X6_object S P x1 x2 = (if (f_X2_isPeople S P x1) = true then (if (f_X4_isNotice S P x2) = true then (if (S 98401 x2.toNatClampNeg) = 0 then (if (S 106594 x2.toNatClampNeg) = 0 then (3) else (if (nI 4) < ((S 2096 8) - (S 88161 x2.toNatClampNeg)) then (3) else (if (f_X6_isIn S P (f_X6_partiesOf S P x2) x1) = true then (if (f_X6_isIn S P (S 102497 x2.toNatClampNeg) x1) = true then (3) else (0)) else (3)))) else (3)) else (1)) else (1)) := by
  unfold e_X6_object f_X4_isOpenToObject
  rw [k_ite3]
theorem n6_object_u (S : z_MI) (P : z_ML) (x1 x2 : Int32) : u_X6_object S P x1 x2 = (if (f_X2_isPeople S P x1) = true then (if (f_X4_isNotice S P x2) = true then (if (S 98401 x2.toNatClampNeg) = 0 then (if (S 106594 x2.toNatClampNeg) = 0 then (S) else (if (nI 4) < ((S 2096 8) - (S 88161 x2.toNatClampNeg)) then (S) else (if (f_X6_isIn S P (f_X6_partiesOf S P x2) x1) = true then (if (f_X6_isIn S P (S 102497 x2.toNatClampNeg) x1) = true then (S) else (va_up S 102497 (upd (S 102497) x2.toNatClampNeg (f_X6_with S P (S 102497 x2.toNatClampNeg) x1 (nI 1))))) else (S)))) else (S)) else (S)) else (S)) := by
  unfold u_X6_object f_X4_isOpenToObject
  rw [k_ite3]
theorem ok_object {S T : z_MI} {P Q : z_ML} (h : i_2 S T P Q) (x1 x2 : Int32) : i_G 1 0 2 (e_X6_object S P x1 x2) S (u_X6_object S P x1 x2) P Q (u_X7_object T Q x1 x2) (lN 0) (lN 0) := by
  have m0 : ((f_X7_isPeople T Q x1) = true) ↔ (((f_X2_isPeople S P x1) = true)) := by rw [k_isPeople (P' := P) h]
  have m1 : ((f_X7_isNotice T Q x2) = true) ↔ (((f_X4_isNotice S P x2) = true)) := by rw [k_isNotice (P' := P) h]
  have m3 : ((T 192610 x2.toNatClampNeg) = 0) ↔ (((S 106594 x2.toNatClampNeg) = 0)) := by rw [i_a_areQuick h]
  have m4 : ((nI 4) < (f_X7_age T Q x2)) ↔ (((nI 4) < ((S 2096 8) - (S 88161 x2.toNatClampNeg)))) := by unfold f_X7_age; rw [i_c_now h, i_a_noticeMonth h]
  by_cases c0 : (f_X2_isPeople S P x1) = true
  · skip
    by_cases c1 : (f_X4_isNotice S P x2) = true
    · skip
      by_cases c2 : (S 98401 x2.toNatClampNeg) = 0
      · skip
        by_cases c3 : (S 106594 x2.toNatClampNeg) = 0
        · skip
          by_cases d0 : (f_X7_canSpeak T Q x1 x2) = true
          · skip
            have nm0 : (f_X7_isPeople T Q x1) = true := m0.mpr c0
            have nm1 : (f_X7_isNotice T Q x2) = true := m1.mpr c1
            have nm3 : (T 192610 x2.toNatClampNeg) = 0 := m3.mpr c3
            have he : e_X6_object S P x1 x2 = (3) := by
              rw [n6_object_e]
              rw [if_pos c0, if_pos c1, if_pos c2, if_pos c3]
            have hV : u_X7_object T Q x1 x2 = (va_up T 110648 (upd (T 110648) 0 (nI 2))) := by
              unfold u_X7_object
              rw [if_pos nm0, if_pos nm1, if_pos d0, if_pos nm3]
            exact i_Gerr h he hV (by decide) (fun _ _ => rfl)
          · skip
            have nm0 : (f_X7_isPeople T Q x1) = true := m0.mpr c0
            have nm1 : (f_X7_isNotice T Q x2) = true := m1.mpr c1
            have he : e_X6_object S P x1 x2 = (3) := by
              rw [n6_object_e]
              rw [if_pos c0, if_pos c1, if_pos c2, if_pos c3]
            have hV : u_X7_object T Q x1 x2 = (va_up T 110648 (upd (T 110648) 0 (nI 2))) := by
              unfold u_X7_object
              rw [if_pos nm0, if_pos nm1, if_neg d0]
            exact i_Gerr h he hV (by decide) (fun _ _ => rfl)
        · skip
          by_cases c4 : (nI 4) < ((S 2096 8) - (S 88161 x2.toNatClampNeg))
          · skip
            by_cases d0 : (f_X7_canSpeak T Q x1 x2) = true
            · skip
              have nm0 : (f_X7_isPeople T Q x1) = true := m0.mpr c0
              have nm1 : (f_X7_isNotice T Q x2) = true := m1.mpr c1
              have nm3 : ¬ ((T 192610 x2.toNatClampNeg) = 0) := fun q => c3 ((m3.mp q))
              have nm4 : (nI 4) < (f_X7_age T Q x2) := m4.mpr c4
              have he : e_X6_object S P x1 x2 = (3) := by
                rw [n6_object_e]
                rw [if_pos c0, if_pos c1, if_pos c2, if_neg c3, if_pos c4]
              have hV : u_X7_object T Q x1 x2 = (va_up T 110648 (upd (T 110648) 0 (nI 2))) := by
                unfold u_X7_object
                rw [if_pos nm0, if_pos nm1, if_pos d0, if_neg nm3, if_pos nm4]
              exact i_Gerr h he hV (by decide) (fun _ _ => rfl)
            · skip
              have nm0 : (f_X7_isPeople T Q x1) = true := m0.mpr c0
              have nm1 : (f_X7_isNotice T Q x2) = true := m1.mpr c1
              have he : e_X6_object S P x1 x2 = (3) := by
                rw [n6_object_e]
                rw [if_pos c0, if_pos c1, if_pos c2, if_neg c3, if_pos c4]
              have hV : u_X7_object T Q x1 x2 = (va_up T 110648 (upd (T 110648) 0 (nI 2))) := by
                unfold u_X7_object
                rw [if_pos nm0, if_pos nm1, if_neg d0]
              exact i_Gerr h he hV (by decide) (fun _ _ => rfl)
          · skip
            by_cases c5 : (f_X6_isIn S P (f_X6_partiesOf S P x2) x1) = true
            · skip
              by_cases c6 : (f_X6_isIn S P (S 102497 x2.toNatClampNeg) x1) = true
              · skip
                have nm0 : (f_X7_isPeople T Q x1) = true := m0.mpr c0
                have nm1 : (f_X7_isNotice T Q x2) = true := m1.mpr c1
                have m2 : ((f_X7_canSpeak T Q x1 x2) = true) ↔ (((S 98401 x2.toNatClampNeg) = 0) ∧ ((f_X6_isIn S P (f_X6_partiesOf S P x2) x1) = true)) := k_canSp h c0
                have nm2 : (f_X7_canSpeak T Q x1 x2) = true := m2.mpr ⟨c2, c5⟩
                have nm3 : ¬ ((T 192610 x2.toNatClampNeg) = 0) := fun q => c3 ((m3.mp q))
                have nm4 : ¬ ((nI 4) < (f_X7_age T Q x2)) := fun q => c4 ((m4.mp q))
                have m5 : ((f_X7_has T Q (T 200801 x2.toNatClampNeg) x1) = true) ↔ (((f_X6_isIn S P (S 102497 x2.toNatClampNeg) x1) = true)) := by rw [i_a_objected h]; exact k_hasP h c0 _
                have nm5 : (f_X7_has T Q (T 200801 x2.toNatClampNeg) x1) = true := m5.mpr c6
                have he : e_X6_object S P x1 x2 = (3) := by
                  rw [n6_object_e]
                  rw [if_pos c0, if_pos c1, if_pos c2, if_neg c3, if_neg c4, if_pos c5, if_pos c6]
                have hV : u_X7_object T Q x1 x2 = (va_up T 110648 (upd (T 110648) 0 (nI 2))) := by
                  unfold u_X7_object
                  rw [if_pos nm0, if_pos nm1, if_pos nm2, if_neg nm3, if_neg nm4, if_pos nm5]
                exact i_Gerr h he hV (by decide) (fun _ _ => rfl)
              · skip
                have nm0 : (f_X7_isPeople T Q x1) = true := m0.mpr c0
                have nm1 : (f_X7_isNotice T Q x2) = true := m1.mpr c1
                have m2 : ((f_X7_canSpeak T Q x1 x2) = true) ↔ (((S 98401 x2.toNatClampNeg) = 0) ∧ ((f_X6_isIn S P (f_X6_partiesOf S P x2) x1) = true)) := k_canSp h c0
                have nm2 : (f_X7_canSpeak T Q x1 x2) = true := m2.mpr ⟨c2, c5⟩
                have nm3 : ¬ ((T 192610 x2.toNatClampNeg) = 0) := fun q => c3 ((m3.mp q))
                have nm4 : ¬ ((nI 4) < (f_X7_age T Q x2)) := fun q => c4 ((m4.mp q))
                have m5 : ((f_X7_has T Q (T 200801 x2.toNatClampNeg) x1) = true) ↔ (((f_X6_isIn S P (S 102497 x2.toNatClampNeg) x1) = true)) := by rw [i_a_objected h]; exact k_hasP h c0 _
                have nm5 : ¬ ((f_X7_has T Q (T 200801 x2.toNatClampNeg) x1) = true) := fun q => c6 ((m5.mp q))
                have he : e_X6_object S P x1 x2 = (0) := by
                  rw [n6_object_e]
                  rw [if_pos c0, if_pos c1, if_pos c2, if_neg c3, if_neg c4, if_pos c5, if_neg c6]
                have hV : u_X7_object T Q x1 x2 = (va_up (va_up T 110648 (upd (T 110648) 0 (nI 0))) 200801 (upd ((va_up T 110648 (upd (T 110648) 0 (nI 0))) 200801) x2.toNatClampNeg ((T 200801 x2.toNatClampNeg) ||| ((nI 1) <<< (x1 &&& 31))))) := by
                  unfold u_X7_object
                  rw [if_pos nm0, if_pos nm1, if_pos nm2, if_neg nm3, if_neg nm4, if_neg nm5]
                have hU : u_X6_object S P x1 x2 = (va_up S 102497 (upd (S 102497) x2.toNatClampNeg (f_X6_with S P (S 102497 x2.toNatClampNeg) x1 (nI 1)))) := by
                  rw [n6_object_u]
                  rw [if_pos c0, if_pos c1, if_pos c2, if_neg c3, if_neg c4, if_pos c5, if_neg c6]
                refine i_Gok he hU hV rfl ?_ ?_
                · rfl
                · have h1 := i_thr (x := nI 0) h
                  exact s_pair (a := 102497) (b := 200801) h1 (by decide) rfl (by rw [i_a_objected h, j_w1]) (i_bl_no (by decide)) (i_T_pair h.2.2.2.2.1 (by decide))
            · skip
              have nm0 : (f_X7_isPeople T Q x1) = true := m0.mpr c0
              have nm1 : (f_X7_isNotice T Q x2) = true := m1.mpr c1
              have m2 : ((f_X7_canSpeak T Q x1 x2) = true) ↔ (((S 98401 x2.toNatClampNeg) = 0) ∧ ((f_X6_isIn S P (f_X6_partiesOf S P x2) x1) = true)) := k_canSp h c0
              have nm2 : ¬ ((f_X7_canSpeak T Q x1 x2) = true) := fun q => c5 ((m2.mp q).2)
              have he : e_X6_object S P x1 x2 = (3) := by
                rw [n6_object_e]
                rw [if_pos c0, if_pos c1, if_pos c2, if_neg c3, if_neg c4, if_neg c5]
              have hV : u_X7_object T Q x1 x2 = (va_up T 110648 (upd (T 110648) 0 (nI 2))) := by
                unfold u_X7_object
                rw [if_pos nm0, if_pos nm1, if_neg nm2]
              exact i_Gerr h he hV (by decide) (fun _ _ => rfl)
      · skip
        have nm0 : (f_X7_isPeople T Q x1) = true := m0.mpr c0
        have nm1 : (f_X7_isNotice T Q x2) = true := m1.mpr c1
        have m2 : ((f_X7_canSpeak T Q x1 x2) = true) ↔ (((S 98401 x2.toNatClampNeg) = 0) ∧ ((f_X6_isIn S P (f_X6_partiesOf S P x2) x1) = true)) := k_canSp h c0
        have nm2 : ¬ ((f_X7_canSpeak T Q x1 x2) = true) := fun q => c2 ((m2.mp q).1)
        have he : e_X6_object S P x1 x2 = (3) := by
          rw [n6_object_e]
          rw [if_pos c0, if_pos c1, if_neg c2]
        have hV : u_X7_object T Q x1 x2 = (va_up T 110648 (upd (T 110648) 0 (nI 2))) := by
          unfold u_X7_object
          rw [if_pos nm0, if_pos nm1, if_neg nm2]
        exact i_Gerr h he hV (by decide) (fun _ _ => rfl)
    · skip
      have nm0 : (f_X7_isPeople T Q x1) = true := m0.mpr c0
      have nm1 : ¬ ((f_X7_isNotice T Q x2) = true) := fun q => c1 ((m1.mp q))
      have he : e_X6_object S P x1 x2 = (1) := by
        rw [n6_object_e]
        rw [if_pos c0, if_neg c1]
      have hV : u_X7_object T Q x1 x2 = (va_up T 110648 (upd (T 110648) 0 (nI 1))) := by
        unfold u_X7_object
        rw [if_pos nm0, if_neg nm1]
      exact i_Gerr h he hV (by decide) (fun _ _ => rfl)
  · skip
    have nm0 : ¬ ((f_X7_isPeople T Q x1) = true) := fun q => c0 ((m0.mp q))
    have he : e_X6_object S P x1 x2 = (1) := by
      rw [n6_object_e]
      rw [if_neg c0]
    have hV : u_X7_object T Q x1 x2 = (va_up T 110648 (upd (T 110648) 0 (nI 1))) := by
      unfold u_X7_object
      rw [if_neg nm0]
    exact i_Gerr h he hV (by decide) (fun _ _ => rfl)
theorem w6_object (S : z_MI) (P : z_ML) (x1 x2 : Int32) (q : Nat) (hq : 110648 ≤ q) : u_X6_object S P x1 x2 q = S q := by
  unfold u_X6_object
  (repeat' split) <;> first | rfl | (simp (disch := omega) only [va_up_ne])
theorem w7_object (T : z_MI) (Q : z_ML) (x1 x2 : Int32) (q : Nat) (hq : q < 110648) : u_X7_object T Q x1 x2 q = T q := by
  unfold u_X7_object
  (repeat' split) <;> first | rfl | (simp (disch := omega) only [va_up_ne]; done)
theorem o_object {S : z_MI} {P : z_ML} (h0 : i_I S P) (x1 x2 : Int32) : F_object S P x1 x2 i_I :=
  i_FV h0 (w6_object S P x1 x2) (fun T Q q hq => w7_object T Q x1 x2 q hq) (fun T Q h => ok_object (T := T) (Q := Q) h x1 x2)
theorem n6_decide_e (S : z_MI) (P : z_ML) (x1 x2 : Int32) : e_X6_decide S P x1 x2 = (if (f_X4_isNotice S P x1) = true then (if (S 98401 x1.toNatClampNeg) = 0 then (if (S 108642 x1.toNatClampNeg) = 0 then (if ((S 2096 8) - (S 88161 x1.toNatClampNeg)) < (nI 6) then (3) else (if x2 = 0 then (0) else (0))) else (3)) else (3)) else (1)) := by
  unfold e_X6_decide f_X4_isOpenToDecide
  rw [k_ite4]
theorem n6_decide_u (S : z_MI) (P : z_ML) (x1 x2 : Int32) : u_X6_decide S P x1 x2 = (if (f_X4_isNotice S P x1) = true then (if (S 98401 x1.toNatClampNeg) = 0 then (if (S 108642 x1.toNatClampNeg) = 0 then (if ((S 2096 8) - (S 88161 x1.toNatClampNeg)) < (nI 6) then (S) else (if x2 = 0 then (va_up (va_up S 108642 (upd (S 108642) x1.toNatClampNeg (vp_nar .boolean x2))) 98401 (upd ((va_up S 108642 (upd (S 108642) x1.toNatClampNeg (vp_nar .boolean x2))) 98401) x1.toNatClampNeg (nI 2))) else (va_up (va_up S 108642 (upd (S 108642) x1.toNatClampNeg (vp_nar .boolean x2))) 98401 (upd ((va_up S 108642 (upd (S 108642) x1.toNatClampNeg (vp_nar .boolean x2))) 98401) x1.toNatClampNeg (nI 0))))) else (S)) else (S)) else (S)) := by
  unfold u_X6_decide f_X4_isOpenToDecide
  rw [k_ite4]
theorem n6_decide_f (S : z_MI) (P : z_ML) (x1 x2 : Int32) : f_X6_decide S P x1 x2 = (if (f_X4_isNotice S P x1) = true then (if (S 98401 x1.toNatClampNeg) = 0 then (if (S 108642 x1.toNatClampNeg) = 0 then (if ((S 2096 8) - (S 88161 x1.toNatClampNeg)) < (nI 6) then (0) else (if x2 = 0 then ((upd (S 98401) x1.toNatClampNeg (nI 2)) x1.toNatClampNeg) else ((upd (S 98401) x1.toNatClampNeg (nI 0)) x1.toNatClampNeg))) else (0)) else (0)) else (0)) := by
  unfold f_X6_decide f_X4_isOpenToDecide
  rw [k_ite4]
theorem ok_decide {S T : z_MI} {P Q : z_ML} (h : i_2 S T P Q) (x1 x2 : Int32) : i_G 1 0 2 (e_X6_decide S P x1 x2) S (u_X6_decide S P x1 x2) P Q (u_X7_decide T Q x1 x2) ((f_X6_decide S P x1 x2).toInt64) ((f_X7_decide T Q x1 x2).toInt64) := by
  have m0 : ((f_X7_isNotice T Q x1) = true) ↔ (((f_X4_isNotice S P x1) = true)) := by rw [k_isNotice (P' := P) h]
  have m1 : ((T 194657 x1.toNatClampNeg) = 0) ↔ (((S 98401 x1.toNatClampNeg) = 0)) := by rw [i_a_noticeState h]
  have m2 : ((f_X7_age T Q x1) < (nI 6)) ↔ ((((S 2096 8) - (S 88161 x1.toNatClampNeg)) < (nI 6))) := by unfold f_X7_age; rw [i_c_now h, i_a_noticeMonth h]
  have m3 : ((T 196706 x1.toNatClampNeg) = 0) ↔ (((S 108642 x1.toNatClampNeg) = 0)) := by rw [i_a_areAllowed h]
  have m4 : (x2 = 0) ↔ ((x2 = 0)) := Iff.rfl
  by_cases c0 : (f_X4_isNotice S P x1) = true
  · skip
    by_cases c1 : (S 98401 x1.toNatClampNeg) = 0
    · skip
      by_cases c2 : (S 108642 x1.toNatClampNeg) = 0
      · skip
        by_cases c3 : ((S 2096 8) - (S 88161 x1.toNatClampNeg)) < (nI 6)
        · skip
          have nm0 : (f_X7_isNotice T Q x1) = true := m0.mpr c0
          have nm1 : (T 194657 x1.toNatClampNeg) = 0 := m1.mpr c1
          have nm2 : (f_X7_age T Q x1) < (nI 6) := m2.mpr c3
          have he : e_X6_decide S P x1 x2 = (3) := by
            rw [n6_decide_e]
            rw [if_pos c0, if_pos c1, if_pos c2, if_pos c3]
          have hV : u_X7_decide T Q x1 x2 = (va_up T 110648 (upd (T 110648) 0 (nI 2))) := by
            unfold u_X7_decide
            rw [if_pos nm0, if_pos nm1, if_pos nm2]
          exact i_Gerr h he hV (by decide) (fun _ _ => rfl)
        · skip
          by_cases c4 : x2 = 0
          · skip
            have nm0 : (f_X7_isNotice T Q x1) = true := m0.mpr c0
            have nm1 : (T 194657 x1.toNatClampNeg) = 0 := m1.mpr c1
            have nm2 : ¬ ((f_X7_age T Q x1) < (nI 6)) := fun q => c3 ((m2.mp q))
            have nm3 : (T 196706 x1.toNatClampNeg) = 0 := m3.mpr c2
            have nm4 : x2 = 0 := m4.mpr c4
            have he : e_X6_decide S P x1 x2 = (0) := by
              rw [n6_decide_e]
              rw [if_pos c0, if_pos c1, if_pos c2, if_neg c3, if_pos c4]
            have hV : u_X7_decide T Q x1 x2 = (va_up (va_up (va_up T 110648 (upd (T 110648) 0 (nI 0))) 196706 (upd ((va_up T 110648 (upd (T 110648) 0 (nI 0))) 196706) x1.toNatClampNeg (vp_nar .boolean x2))) 194657 (upd ((va_up (va_up T 110648 (upd (T 110648) 0 (nI 0))) 196706 (upd ((va_up T 110648 (upd (T 110648) 0 (nI 0))) 196706) x1.toNatClampNeg (vp_nar .boolean x2))) 194657) x1.toNatClampNeg (nI 2))) := by
              unfold u_X7_decide
              rw [if_pos nm0, if_pos nm1, if_neg nm2, if_pos nm3, if_pos nm4]
            have hU : u_X6_decide S P x1 x2 = (va_up (va_up S 108642 (upd (S 108642) x1.toNatClampNeg (vp_nar .boolean x2))) 98401 (upd ((va_up S 108642 (upd (S 108642) x1.toNatClampNeg (vp_nar .boolean x2))) 98401) x1.toNatClampNeg (nI 2))) := by
              rw [n6_decide_u]
              rw [if_pos c0, if_pos c1, if_pos c2, if_neg c3, if_pos c4]
            have hf : f_X6_decide S P x1 x2 = ((upd (S 98401) x1.toNatClampNeg (nI 2)) x1.toNatClampNeg) := by
              rw [n6_decide_f]
              rw [if_pos c0, if_pos c1, if_pos c2, if_neg c3, if_pos c4]
            have hg : f_X7_decide T Q x1 x2 = ((upd (T 194657) x1.toNatClampNeg (nI 2)) x1.toNatClampNeg) := by
              unfold f_X7_decide
              rw [if_pos nm0, if_pos nm1, if_neg nm2, if_pos nm3, if_pos nm4]
            refine i_Gok he hU hV rfl ?_ ?_
            · rw [hf, hg]
              rw [pk_us, pk_us]
            · obtain ⟨j, rfl, hj, hj2⟩ := k_idxN h c0
              have h1 := i_thr (x := nI 0) h
              have h2 := s_pair (a := 108642) (b := 196706) (k := (nI j).toNatClampNeg) (x := vp_nar .boolean x2) (x' := vp_nar .boolean x2) h1 (by decide) rfl rfl (i_bl_no (by decide)) (i_T_pair h.2.2.2.2.1 (by decide))
              exact s_pair (a := 98401) (b := 194657) h2 (by decide) rfl rfl (i_bl_no (by decide)) (i_T_nos h2.2.2.2.2.1 (by rw [k_nI (by omega)]; exact hj2))
          · skip
            have nm0 : (f_X7_isNotice T Q x1) = true := m0.mpr c0
            have nm1 : (T 194657 x1.toNatClampNeg) = 0 := m1.mpr c1
            have nm2 : ¬ ((f_X7_age T Q x1) < (nI 6)) := fun q => c3 ((m2.mp q))
            have nm3 : (T 196706 x1.toNatClampNeg) = 0 := m3.mpr c2
            have nm4 : ¬ (x2 = 0) := fun q => c4 ((m4.mp q))
            have he : e_X6_decide S P x1 x2 = (0) := by
              rw [n6_decide_e]
              rw [if_pos c0, if_pos c1, if_pos c2, if_neg c3, if_neg c4]
            have hV : u_X7_decide T Q x1 x2 = (va_up (va_up (va_up T 110648 (upd (T 110648) 0 (nI 0))) 196706 (upd ((va_up T 110648 (upd (T 110648) 0 (nI 0))) 196706) x1.toNatClampNeg (vp_nar .boolean x2))) 194657 (upd ((va_up (va_up T 110648 (upd (T 110648) 0 (nI 0))) 196706 (upd ((va_up T 110648 (upd (T 110648) 0 (nI 0))) 196706) x1.toNatClampNeg (vp_nar .boolean x2))) 194657) x1.toNatClampNeg (nI 0))) := by
              unfold u_X7_decide
              rw [if_pos nm0, if_pos nm1, if_neg nm2, if_pos nm3, if_neg nm4]
            have hU : u_X6_decide S P x1 x2 = (va_up (va_up S 108642 (upd (S 108642) x1.toNatClampNeg (vp_nar .boolean x2))) 98401 (upd ((va_up S 108642 (upd (S 108642) x1.toNatClampNeg (vp_nar .boolean x2))) 98401) x1.toNatClampNeg (nI 0))) := by
              rw [n6_decide_u]
              rw [if_pos c0, if_pos c1, if_pos c2, if_neg c3, if_neg c4]
            have hf : f_X6_decide S P x1 x2 = ((upd (S 98401) x1.toNatClampNeg (nI 0)) x1.toNatClampNeg) := by
              rw [n6_decide_f]
              rw [if_pos c0, if_pos c1, if_pos c2, if_neg c3, if_neg c4]
            have hg : f_X7_decide T Q x1 x2 = ((upd (T 194657) x1.toNatClampNeg (nI 0)) x1.toNatClampNeg) := by
              unfold f_X7_decide
              rw [if_pos nm0, if_pos nm1, if_neg nm2, if_pos nm3, if_neg nm4]
            refine i_Gok he hU hV rfl ?_ ?_
            · rw [hf, hg]
              rw [pk_us, pk_us]
            · obtain ⟨j, rfl, hj, hj2⟩ := k_idxN h c0
              have h1 := i_thr (x := nI 0) h
              have h2 := s_pair (a := 108642) (b := 196706) (k := (nI j).toNatClampNeg) (x := vp_nar .boolean x2) (x' := vp_nar .boolean x2) h1 (by decide) rfl rfl (i_bl_no (by decide)) (i_T_pair h.2.2.2.2.1 (by decide))
              exact s_pair (a := 98401) (b := 194657) h2 (by decide) rfl rfl (i_bl_no (by decide)) (i_T_nos h2.2.2.2.2.1 (by rw [k_nI (by omega)]; exact hj2))
      · skip
        by_cases d0 : (f_X7_age T Q x1) < (nI 6)
        · skip
          have nm0 : (f_X7_isNotice T Q x1) = true := m0.mpr c0
          have nm1 : (T 194657 x1.toNatClampNeg) = 0 := m1.mpr c1
          have he : e_X6_decide S P x1 x2 = (3) := by
            rw [n6_decide_e]
            rw [if_pos c0, if_pos c1, if_neg c2]
          have hV : u_X7_decide T Q x1 x2 = (va_up T 110648 (upd (T 110648) 0 (nI 2))) := by
            unfold u_X7_decide
            rw [if_pos nm0, if_pos nm1, if_pos d0]
          exact i_Gerr h he hV (by decide) (fun _ _ => rfl)
        · skip
          have nm0 : (f_X7_isNotice T Q x1) = true := m0.mpr c0
          have nm1 : (T 194657 x1.toNatClampNeg) = 0 := m1.mpr c1
          have nm3 : ¬ ((T 196706 x1.toNatClampNeg) = 0) := fun q => c2 ((m3.mp q))
          have he : e_X6_decide S P x1 x2 = (3) := by
            rw [n6_decide_e]
            rw [if_pos c0, if_pos c1, if_neg c2]
          have hV : u_X7_decide T Q x1 x2 = (va_up T 110648 (upd (T 110648) 0 (nI 2))) := by
            unfold u_X7_decide
            rw [if_pos nm0, if_pos nm1, if_neg d0, if_neg nm3]
          exact i_Gerr h he hV (by decide) (fun _ _ => rfl)
    · skip
      have nm0 : (f_X7_isNotice T Q x1) = true := m0.mpr c0
      have nm1 : ¬ ((T 194657 x1.toNatClampNeg) = 0) := fun q => c1 ((m1.mp q))
      have he : e_X6_decide S P x1 x2 = (3) := by
        rw [n6_decide_e]
        rw [if_pos c0, if_neg c1]
      have hV : u_X7_decide T Q x1 x2 = (va_up T 110648 (upd (T 110648) 0 (nI 2))) := by
        unfold u_X7_decide
        rw [if_pos nm0, if_neg nm1]
      exact i_Gerr h he hV (by decide) (fun _ _ => rfl)
  · skip
    have nm0 : ¬ ((f_X7_isNotice T Q x1) = true) := fun q => c0 ((m0.mp q))
    have he : e_X6_decide S P x1 x2 = (1) := by
      rw [n6_decide_e]
      rw [if_neg c0]
    have hV : u_X7_decide T Q x1 x2 = (va_up T 110648 (upd (T 110648) 0 (nI 1))) := by
      unfold u_X7_decide
      rw [if_neg nm0]
    exact i_Gerr h he hV (by decide) (fun _ _ => rfl)
theorem w6_decide (S : z_MI) (P : z_ML) (x1 x2 : Int32) (q : Nat) (hq : 110648 ≤ q) : u_X6_decide S P x1 x2 q = S q := by
  unfold u_X6_decide
  (repeat' split) <;> first | rfl | (simp (disch := omega) only [va_up_ne])
theorem w7_decide (T : z_MI) (Q : z_ML) (x1 x2 : Int32) (q : Nat) (hq : q < 110648) : u_X7_decide T Q x1 x2 q = T q := by
  unfold u_X7_decide
  (repeat' split) <;> first | rfl | (simp (disch := omega) only [va_up_ne]; done)
theorem o_decide {S : z_MI} {P : z_ML} (h0 : i_I S P) (x1 x2 : Int32) : F_decide S P x1 x2 i_I :=
  i_FO h0 (w6_decide S P x1 x2) (fun T Q q hq => w7_decide T Q x1 x2 q hq) (fun T Q h => ok_decide (T := T) (Q := Q) h x1 x2) (by rcases w_L_decide_e S P x1 x2 with e | e | e <;> rw [e] <;> decide)
set_option maxHeartbeats 4000000 in
theorem key_ripe (A3 A4 QK SU LA ST AL OB PA : Prop) [Decidable A3] [Decidable A4] [Decidable QK] [Decidable SU] [Decidable LA] [Decidable ST] [Decidable AL] [Decidable OB] [Decidable PA] : ((if A3 then (if QK then (if SU then (if LA then (if ST then (if AL then false else true) else false) else (if ST then (if AL then false else false) else false)) else (if ST then (if AL then false else true) else false)) else (if OB then (if A4 then (if SU then (if LA then (if ST then (if AL then false else true) else false) else (if ST then (if AL then false else false) else false)) else (if ST then (if AL then false else true) else false)) else (if SU then (if LA then (if ST then true else false) else (if ST then false else false)) else (if ST then true else false))) else (if SU then (if LA then (if ST then (if AL then false else true) else false) else (if ST then (if AL then false else false) else false)) else (if ST then (if AL then false else true) else false)))) else (if PA then (if QK then (if SU then (if LA then (if ST then true else false) else (if ST then false else false)) else (if ST then true else false)) else (if OB then (if A4 then (if SU then (if LA then (if ST then true else false) else (if ST then false else false)) else (if ST then true else false)) else (if SU then (if LA then (if ST then true else false) else (if ST then false else false)) else (if ST then true else false))) else (if SU then (if LA then (if ST then true else false) else (if ST then false else false)) else (if ST then true else false)))) else (if QK then (if SU then (if LA then (if ST then (if AL then false else true) else false) else (if ST then (if AL then false else false) else false)) else (if ST then (if AL then false else true) else false)) else (if OB then (if A4 then (if SU then (if LA then (if ST then (if AL then false else true) else false) else (if ST then (if AL then false else false) else false)) else (if ST then (if AL then false else true) else false)) else (if SU then (if LA then (if ST then true else false) else (if ST then false else false)) else (if ST then true else false))) else (if SU then (if LA then (if ST then (if AL then false else true) else false) else (if ST then (if AL then false else false) else false)) else (if ST then (if AL then false else true) else false)))))) = true) ↔ ((if A3 then (if QK then (if ST then (if AL then false else true) else false) else (if A4 then (if ST then (if AL then false else true) else false) else (if OB then (if ST then true else false) else (if ST then (if AL then false else true) else false)))) else (if PA then (if QK then (if ST then true else false) else (if A4 then (if ST then true else false) else (if OB then (if ST then true else false) else (if ST then true else false)))) else (if QK then (if ST then (if AL then false else true) else false) else (if A4 then (if ST then (if AL then false else true) else false) else (if OB then (if ST then true else false) else (if ST then (if AL then false else true) else false)))))) = true ∧ ¬ ((if SU then if LA then false else true else false) = true)) := by
  by_cases h1 : A3 <;> by_cases h2 : QK <;> by_cases h3 : SU <;> by_cases h4 : ST <;> simp only [h1, h2, h3, h4, if_true, if_false, Bool.false_eq_true, and_true, and_false, false_and, true_and, not_true_eq_false, not_false_eq_true] <;> by_cases h5 : LA <;> by_cases h6 : AL <;> by_cases h7 : OB <;> by_cases h8 : A4 <;> by_cases h9 : PA <;> simp only [h5, h6, h7, h8, h9, if_true, if_false, Bool.false_eq_true, and_true, and_false, false_and, true_and, not_true_eq_false, not_false_eq_true]
theorem k_canBeDone {S T : z_MI} {P Q : z_ML} (h : i_2 S T P Q) (x1 : Int32) : (f_X7_canBeDone T Q x1 = true) ↔ (f_X4_isRipe S P x1 (S 2096 8) (f_X6_partiesOf S P x1) = true ∧ ¬ f_X4_isPast S P x1 (S 2096 8) = true) := by
  unfold f_X7_canBeDone f_X4_isRipe f_X4_isPast f_X7_age
  rw [i_c_now h, i_a_noticeMonth h, i_a_areQuick h, i_a_noticeDoes h, i_a_noticeLast h, i_a_noticeState h, i_a_areAllowed h, i_a_objected h, i_a_agreed h, k_partiesOf (P' := P) (Q' := Q) h]
  exact key_ripe _ _ _ _ _ _ _ _ _
theorem s_addC (S : z_MI) (P : z_ML) (m p r d l : Int32) (f : Nat → Int32) : va_up (u_X0_add S P m p r d l) 98401 f = u_X0_add (va_up S 98401 f) P m p r d l := by
  unfold u_X0_add
  simp (disch := decide) only [va_up_ne]
  rw [va_up_comm (a := 98401) (b := 55617) (by decide), va_up_comm (a := 98401) (b := 57665) (by decide), va_up_comm (a := 98401) (b := 59713) (by decide), va_up_comm (a := 98401) (b := 61761) (by decide), va_up_comm (a := 98401) (b := 63809) (by decide), va_up_comm (a := 98401) (b := 65857) (by decide), va_up_comm (a := 98401) (b := 10240) (by decide)]
theorem s_proceed {S T : z_MI} {P Q : z_ML} (h : i_2 S T P Q) {x1 : Int32} (c0 : f_X4_isNotice S P x1 = true) (c3 : S 10240 8 < nI 40) : i_2 (va_up (va_up (u_X0_add S P (S 2096 8) (S 90209 x1.toNatClampNeg) (S 92257 x1.toNatClampNeg) (S 94305 x1.toNatClampNeg) (S 96353 x1.toNatClampNeg)) 98401 (upd ((u_X0_add S P (S 2096 8) (S 90209 x1.toNatClampNeg) (S 92257 x1.toNatClampNeg) (S 94305 x1.toNatClampNeg) (S 96353 x1.toNatClampNeg)) 98401) x1.toNatClampNeg (nI 1))) 104545 (upd ((va_up (u_X0_add S P (S 2096 8) (S 90209 x1.toNatClampNeg) (S 92257 x1.toNatClampNeg) (S 94305 x1.toNatClampNeg) (S 96353 x1.toNatClampNeg)) 98401 (upd ((u_X0_add S P (S 2096 8) (S 90209 x1.toNatClampNeg) (S 92257 x1.toNatClampNeg) (S 94305 x1.toNatClampNeg) (S 96353 x1.toNatClampNeg)) 98401) x1.toNatClampNeg (nI 1))) 104545) x1.toNatClampNeg (f_X0_add S P (S 2096 8) (S 90209 x1.toNatClampNeg) (S 92257 x1.toNatClampNeg) (S 94305 x1.toNatClampNeg) (S 96353 x1.toNatClampNeg)))) (va_up (u_X7_adds (va_up (va_up T 110648 (upd (T 110648) 0 (nI 0))) 194657 (upd ((va_up T 110648 (upd (T 110648) 0 (nI 0))) 194657) x1.toNatClampNeg (nI 1))) Q (T 110648 1) (T 184417 x1.toNatClampNeg) (T 186465 x1.toNatClampNeg) (T 188513 x1.toNatClampNeg) (T 190561 x1.toNatClampNeg)) 202849 (upd ((u_X7_adds (va_up (va_up T 110648 (upd (T 110648) 0 (nI 0))) 194657 (upd ((va_up T 110648 (upd (T 110648) 0 (nI 0))) 194657) x1.toNatClampNeg (nI 1))) Q (T 110648 1) (T 184417 x1.toNatClampNeg) (T 186465 x1.toNatClampNeg) (T 188513 x1.toNatClampNeg) (T 190561 x1.toNatClampNeg)) 202849) x1.toNatClampNeg (f_X7_adds (va_up (va_up T 110648 (upd (T 110648) 0 (nI 0))) 194657 (upd ((va_up T 110648 (upd (T 110648) 0 (nI 0))) 194657) x1.toNatClampNeg (nI 1))) Q (T 110648 1) (T 184417 x1.toNatClampNeg) (T 186465 x1.toNatClampNeg) (T 188513 x1.toNatClampNeg) (T 190561 x1.toNatClampNeg)))) P Q := by
  obtain ⟨j, rfl, hj, hj2⟩ := k_idxN h c0
  have h1 := i_thr (x := nI 0) h
  have h2 := s_pair (a := 98401) (b := 194657) (k := (nI j).toNatClampNeg) (k' := (nI j).toNatClampNeg) (x := nI 1) (x' := nI 1) h1 (by decide) rfl rfl (i_bl_no (by decide)) (i_T_nos h.2.2.2.2.1 (by rw [k_nI (by omega)]; exact hj2))
  obtain ⟨n, hn, hn2⟩ : z_le (S 2096 8) 5000 := z_J_now (i_J h)
  have h3 := s_add (m := S 2096 8) (p := S 90209 (nI j).toNatClampNeg) (r := S 92257 (nI j).toNatClampNeg) (d := S 94305 (nI j).toNatClampNeg) (l := S 96353 (nI j).toNatClampNeg) P Q h2 (by rw [hn2, nI_toInt (by omega)]; omega) (Int.le_refl _) (i_b_notices_rights h _) c3
  have e : upd ((u_X0_add S P (S 2096 8) (S 90209 (nI j).toNatClampNeg) (S 92257 (nI j).toNatClampNeg) (S 94305 (nI j).toNatClampNeg) (S 96353 (nI j).toNatClampNeg)) 98401) (nI j).toNatClampNeg (nI 1) = upd (S 98401) (nI j).toNatClampNeg (nI 1) := rfl
  rw [e, s_addC, i_c_now h, i_a_noticePlaces h, i_a_noticeRights h, i_a_noticeDoes h, i_a_noticeLast h]
  exact s_pair (a := 104545) (b := 202849) (k := (nI j).toNatClampNeg) (k' := (nI j).toNatClampNeg) h3 (by decide) rfl (by
    show S 10240 8 = (T 110648 24 + nI 1) - nI 1
    rw [i_c_acts h, Int32.add_sub_cancel]) (i_bl_no (by decide)) (i_T_pair h3.2.2.2.2.1 (by decide))
theorem ok_proceed {S T : z_MI} {P Q : z_ML} (h : i_2 S T P Q) (x1 : Int32) : i_G 1 0 2 (e_X6_proceed S P x1) S (u_X6_proceed S P x1) P Q (u_X7_proceed T Q x1) ((f_X6_proceed S P x1).toInt64) ((f_X7_proceed T Q x1).toInt64) := by
  have m0 : ((f_X7_isNotice T Q x1) = true) ↔ (((f_X4_isNotice S P x1) = true)) := by rw [k_isNotice (P' := P) h]
  have m1 : ((f_X7_canBeDone T Q x1) = true) ↔ (((f_X4_isRipe S P x1 (S 2096 8) (f_X6_partiesOf S P x1)) = true) ∧ (¬ ((f_X4_isPast S P x1 (S 2096 8)) = true))) := k_canBeDone h x1
  have m2 : ((T 110648 24) = (nI 40)) ↔ ((¬ ((S 10240 8) < (nI 40)))) := by rw [i_c_acts h]; exact k_full (z_J_acts (i_J h)) (by decide)
  by_cases c0 : (f_X4_isNotice S P x1) = true
  · skip
    by_cases c1 : (f_X4_isRipe S P x1 (S 2096 8) (f_X6_partiesOf S P x1)) = true
    · skip
      by_cases c2 : (f_X4_isPast S P x1 (S 2096 8)) = true
      · skip
        have nm0 : (f_X7_isNotice T Q x1) = true := m0.mpr c0
        have nm1 : ¬ ((f_X7_canBeDone T Q x1) = true) := fun q => ((m1.mp q).2) c2
        have he : e_X6_proceed S P x1 = (3) := by
          unfold e_X6_proceed
          rw [if_pos c0, if_pos c1, if_pos c2]
        have hV : u_X7_proceed T Q x1 = (va_up T 110648 (upd (T 110648) 0 (nI 2))) := by
          unfold u_X7_proceed
          rw [if_pos nm0, if_neg nm1]
        exact i_Gerr h he hV (by decide) (fun _ _ => rfl)
      · skip
        by_cases c3 : (S 10240 8) < (nI 40)
        · skip
          have nm0 : (f_X7_isNotice T Q x1) = true := m0.mpr c0
          have nm1 : (f_X7_canBeDone T Q x1) = true := m1.mpr ⟨c1, c2⟩
          have nm2 : ¬ ((T 110648 24) = (nI 40)) := fun q => ((m2.mp q)) c3
          have he : e_X6_proceed S P x1 = (0) := by
            unfold e_X6_proceed
            rw [if_pos c0, if_pos c1, if_neg c2, if_pos c3]
          have hV : u_X7_proceed T Q x1 = (va_up (u_X7_adds (va_up (va_up T 110648 (upd (T 110648) 0 (nI 0))) 194657 (upd ((va_up T 110648 (upd (T 110648) 0 (nI 0))) 194657) x1.toNatClampNeg (nI 1))) Q (T 110648 1) (T 184417 x1.toNatClampNeg) (T 186465 x1.toNatClampNeg) (T 188513 x1.toNatClampNeg) (T 190561 x1.toNatClampNeg)) 202849 (upd ((u_X7_adds (va_up (va_up T 110648 (upd (T 110648) 0 (nI 0))) 194657 (upd ((va_up T 110648 (upd (T 110648) 0 (nI 0))) 194657) x1.toNatClampNeg (nI 1))) Q (T 110648 1) (T 184417 x1.toNatClampNeg) (T 186465 x1.toNatClampNeg) (T 188513 x1.toNatClampNeg) (T 190561 x1.toNatClampNeg)) 202849) x1.toNatClampNeg (f_X7_adds (va_up (va_up T 110648 (upd (T 110648) 0 (nI 0))) 194657 (upd ((va_up T 110648 (upd (T 110648) 0 (nI 0))) 194657) x1.toNatClampNeg (nI 1))) Q (T 110648 1) (T 184417 x1.toNatClampNeg) (T 186465 x1.toNatClampNeg) (T 188513 x1.toNatClampNeg) (T 190561 x1.toNatClampNeg)))) := by
            unfold u_X7_proceed
            rw [if_pos nm0, if_pos nm1, if_neg nm2]
          have hU : u_X6_proceed S P x1 = (va_up (va_up (u_X0_add S P (S 2096 8) (S 90209 x1.toNatClampNeg) (S 92257 x1.toNatClampNeg) (S 94305 x1.toNatClampNeg) (S 96353 x1.toNatClampNeg)) 98401 (upd ((u_X0_add S P (S 2096 8) (S 90209 x1.toNatClampNeg) (S 92257 x1.toNatClampNeg) (S 94305 x1.toNatClampNeg) (S 96353 x1.toNatClampNeg)) 98401) x1.toNatClampNeg (nI 1))) 104545 (upd ((va_up (u_X0_add S P (S 2096 8) (S 90209 x1.toNatClampNeg) (S 92257 x1.toNatClampNeg) (S 94305 x1.toNatClampNeg) (S 96353 x1.toNatClampNeg)) 98401 (upd ((u_X0_add S P (S 2096 8) (S 90209 x1.toNatClampNeg) (S 92257 x1.toNatClampNeg) (S 94305 x1.toNatClampNeg) (S 96353 x1.toNatClampNeg)) 98401) x1.toNatClampNeg (nI 1))) 104545) x1.toNatClampNeg (f_X0_add S P (S 2096 8) (S 90209 x1.toNatClampNeg) (S 92257 x1.toNatClampNeg) (S 94305 x1.toNatClampNeg) (S 96353 x1.toNatClampNeg)))) := by
            unfold u_X6_proceed
            rw [if_pos c0, if_pos c1, if_neg c2, if_pos c3]
          have hf : f_X6_proceed S P x1 = (f_X0_add S P (S 2096 8) (S 90209 x1.toNatClampNeg) (S 92257 x1.toNatClampNeg) (S 94305 x1.toNatClampNeg) (S 96353 x1.toNatClampNeg)) := by
            unfold f_X6_proceed
            rw [if_pos c0, if_pos c1, if_neg c2, if_pos c3]
          have hg : f_X7_proceed T Q x1 = ((upd ((u_X7_adds (va_up (va_up T 110648 (upd (T 110648) 0 (nI 0))) 194657 (upd ((va_up T 110648 (upd (T 110648) 0 (nI 0))) 194657) x1.toNatClampNeg (nI 1))) Q (T 110648 1) (T 184417 x1.toNatClampNeg) (T 186465 x1.toNatClampNeg) (T 188513 x1.toNatClampNeg) (T 190561 x1.toNatClampNeg)) 202849) x1.toNatClampNeg (f_X7_adds (va_up (va_up T 110648 (upd (T 110648) 0 (nI 0))) 194657 (upd ((va_up T 110648 (upd (T 110648) 0 (nI 0))) 194657) x1.toNatClampNeg (nI 1))) Q (T 110648 1) (T 184417 x1.toNatClampNeg) (T 186465 x1.toNatClampNeg) (T 188513 x1.toNatClampNeg) (T 190561 x1.toNatClampNeg))) x1.toNatClampNeg) := by
            unfold f_X7_proceed
            rw [if_pos nm0, if_pos nm1, if_neg nm2]
          refine i_Gok he hU hV rfl ?_ ?_
          · rw [hf, hg]
            rw [pk_us]
            show (S 10240 8).toInt64 = ((T 110648 24 + nI 1) - nI 1).toInt64
            rw [i_c_acts h, Int32.add_sub_cancel]
          · exact s_proceed h c0 c3
        · skip
          have nm0 : (f_X7_isNotice T Q x1) = true := m0.mpr c0
          have nm1 : (f_X7_canBeDone T Q x1) = true := m1.mpr ⟨c1, c2⟩
          have nm2 : (T 110648 24) = (nI 40) := m2.mpr c3
          have he : e_X6_proceed S P x1 = (3) := by
            unfold e_X6_proceed
            rw [if_pos c0, if_pos c1, if_neg c2, if_neg c3]
          have hV : u_X7_proceed T Q x1 = (va_up T 110648 (upd (T 110648) 0 (nI 2))) := by
            unfold u_X7_proceed
            rw [if_pos nm0, if_pos nm1, if_pos nm2]
          exact i_Gerr h he hV (by decide) (fun _ _ => rfl)
    · skip
      have nm0 : (f_X7_isNotice T Q x1) = true := m0.mpr c0
      have nm1 : ¬ ((f_X7_canBeDone T Q x1) = true) := fun q => c1 ((m1.mp q).1)
      have he : e_X6_proceed S P x1 = (3) := by
        unfold e_X6_proceed
        rw [if_pos c0, if_neg c1]
      have hV : u_X7_proceed T Q x1 = (va_up T 110648 (upd (T 110648) 0 (nI 2))) := by
        unfold u_X7_proceed
        rw [if_pos nm0, if_neg nm1]
      exact i_Gerr h he hV (by decide) (fun _ _ => rfl)
  · skip
    have nm0 : ¬ ((f_X7_isNotice T Q x1) = true) := fun q => c0 ((m0.mp q))
    have he : e_X6_proceed S P x1 = (1) := by
      unfold e_X6_proceed
      rw [if_neg c0]
    have hV : u_X7_proceed T Q x1 = (va_up T 110648 (upd (T 110648) 0 (nI 1))) := by
      unfold u_X7_proceed
      rw [if_neg nm0]
    exact i_Gerr h he hV (by decide) (fun _ _ => rfl)
theorem w6_proceed (S : z_MI) (P : z_ML) (x1 : Int32) (q : Nat) (hq : 110648 ≤ q) : u_X6_proceed S P x1 q = S q := by
  unfold u_X6_proceed
  (repeat' split) <;> first | rfl | (try unfold u_X0_add; simp (disch := omega) only [va_up_ne])
theorem w7_proceed (T : z_MI) (Q : z_ML) (x1 : Int32) (q : Nat) (hq : q < 110648) : u_X7_proceed T Q x1 q = T q := by
  unfold u_X7_proceed
  (repeat' split) <;> first | rfl | (simp (disch := omega) only [va_up_ne]; done) | (unfold u_X7_adds; simp (disch := omega) only [va_up_ne]; done) | (unfold u_X7_adds; split <;> simp (disch := omega) only [va_up_ne])
theorem o_proceed {S : z_MI} {P : z_ML} (h0 : i_I S P) (x1 : Int32) : F_proceed S P x1 i_I :=
  i_FO h0 (w6_proceed S P x1) (fun T Q q hq => w7_proceed T Q x1 q hq) (fun T Q h => ok_proceed (T := T) (Q := Q) h x1) (by rcases w_L_proceed_e S P x1 with e | e | e <;> rw [e] <;> decide)
theorem k_of6 {α : Type} (a0 a1 a2 a3 a4 a5 : α) {x : Int32} (h1 : ¬ x < 0) (h2 : x ≤ nI 5) : (if nI 3 ≤ x then if x = nI 3 then a3 else if x = nI 4 then a4 else a5 else if x = 0 then a0 else if x = nI 1 then a1 else a2) = if x = nI 0 then a0 else if x = nI 1 then a1 else if x = nI 2 then a2 else if x = nI 3 then a3 else if x = nI 4 then a4 else a5 := by
  obtain ⟨j, hj, rfl⟩ := k_zleR h1 h2 (by decide)
  have e : ∀ m, m < 6 → (nI j = nI m ↔ j = m) := fun m hm => nI_eq (by omega) (by omega)
  have e0 : nI j = 0 ↔ j = 0 := by rw [← nI_0]; exact e 0 (by decide)
  have l : nI 3 ≤ nI j ↔ 3 ≤ j := nI_leI (by decide) (by omega)
  simp only [e0, e 0 (by decide), e 1 (by decide), e 2 (by decide), e 3 (by decide), e 4 (by decide), l]
  by_cases q0 : j = 0
  · simp [q0]
  · by_cases q1 : j = 1
    · simp [q1]
    · by_cases q2 : j = 2
      · simp [q2]
      · have : 3 ≤ j := by omega
        simp [q0, q1, q2, this]
theorem n7_ofNotice_u (T : z_MI) (Q : z_ML) (x1 x2 : Int32) : u_X7_ofNotice T Q x1 x2 = (if (f_X7_isNotice T Q x1) = true then (if (f_X7_in T Q x2 (nI 0) (nI 5)) = true then (va_up T 110648 (upd (T 110648) 0 (nI 0))) else (va_up T 110648 (upd (T 110648) 0 (nI 2)))) else (va_up T 110648 (upd (T 110648) 0 (nI 1)))) := by
  unfold u_X7_ofNotice
  simp only [ite_self]
theorem n7_ofNotice_f (T : z_MI) (Q : z_ML) (x1 x2 : Int32) : f_X7_ofNotice T Q x1 x2 = (if (f_X7_isNotice T Q x1) = true then (if (f_X7_in T Q x2 (nI 0) (nI 5)) = true then (if x2 = nI 0 then (T 194657 x1.toNatClampNeg) else (if x2 = nI 1 then (f_X7_partiesOf (va_up T 110648 (upd (T 110648) 0 (nI 0))) Q x1) else (if x2 = nI 2 then (T 198753 x1.toNatClampNeg) else (if x2 = nI 3 then (T 200801 x1.toNatClampNeg) else (if x2 = nI 4 then (T 182369 x1.toNatClampNeg) else (T 202849 x1.toNatClampNeg)))))) else (nI 0)) else (nI 0)) := by
  unfold f_X7_ofNotice
  by_cases e : f_X7_in T Q x2 (nI 0) (nI 5) = true
  · obtain ⟨e1, e2⟩ := k_in1z.mp e
    rw [k_of6 _ _ _ _ _ _ e1 e2]
  · rw [if_neg e, if_neg e]
theorem ok_ofNotice {S T : z_MI} {P Q : z_ML} (h : i_2 S T P Q) (x1 x2 : Int32) : i_G 1 2 0 (e_X6_ofNotice S P x1 x2) S (S) P Q (u_X7_ofNotice T Q x1 x2) ((f_X6_ofNotice S P x1 x2).toInt64) ((f_X7_ofNotice T Q x1 x2).toInt64) := by
  have m0 : ((f_X7_isNotice T Q x1) = true) ↔ (((f_X4_isNotice S P x1) = true)) := by rw [k_isNotice (P' := P) h]
  have m1 : ((f_X7_in T Q x2 (nI 0) (nI 5)) = true) ↔ ((¬ (x2 < 0)) ∧ (x2 ≤ (nI 5))) := by exact k_in1z
  have m2 : (x2 = nI 0) ↔ ((x2 = nI 0)) := Iff.rfl
  have m3 : (x2 = nI 1) ↔ ((x2 = nI 1)) := Iff.rfl
  have m4 : (x2 = nI 2) ↔ ((x2 = nI 2)) := Iff.rfl
  have m5 : (x2 = nI 3) ↔ ((x2 = nI 3)) := Iff.rfl
  have m6 : (x2 = nI 4) ↔ ((x2 = nI 4)) := Iff.rfl
  by_cases c0 : (f_X4_isNotice S P x1) = true
  · skip
    by_cases c1 : x2 < 0
    · skip
      have nm0 : (f_X7_isNotice T Q x1) = true := m0.mpr c0
      have nm1 : ¬ ((f_X7_in T Q x2 (nI 0) (nI 5)) = true) := fun q => ((m1.mp q).1) c1
      have he : e_X6_ofNotice S P x1 x2 = (2) := by
        unfold e_X6_ofNotice
        rw [if_pos c0, if_pos c1]
      have hV : u_X7_ofNotice T Q x1 x2 = (va_up T 110648 (upd (T 110648) 0 (nI 2))) := by
        rw [n7_ofNotice_u]
        rw [if_pos nm0, if_neg nm1]
      exact i_Gerr h he hV (by decide) (fun _ _ => rfl)
    · skip
      by_cases c2 : x2 ≤ (nI 5)
      · skip
        by_cases c3 : x2 = nI 0
        · skip
          have nm0 : (f_X7_isNotice T Q x1) = true := m0.mpr c0
          have nm1 : (f_X7_in T Q x2 (nI 0) (nI 5)) = true := m1.mpr ⟨c1, c2⟩
          have nm2 : x2 = nI 0 := m2.mpr c3
          have he : e_X6_ofNotice S P x1 x2 = (0) := by
            unfold e_X6_ofNotice
            rw [if_pos c0, if_neg c1, if_pos c2, if_pos c3]
          have hV : u_X7_ofNotice T Q x1 x2 = (va_up T 110648 (upd (T 110648) 0 (nI 0))) := by
            rw [n7_ofNotice_u]
            rw [if_pos nm0, if_pos nm1]
          have hf : f_X6_ofNotice S P x1 x2 = (S 98401 x1.toNatClampNeg) := by
            unfold f_X6_ofNotice
            rw [if_pos c0, if_neg c1, if_pos c2, if_pos c3]
          have hg : f_X7_ofNotice T Q x1 x2 = (T 194657 x1.toNatClampNeg) := by
            rw [n7_ofNotice_f]
            rw [if_pos nm0, if_pos nm1, if_pos nm2]
          refine i_Gok he rfl hV rfl ?_ ?_
          · rw [hf, hg]
            rw [i_a_noticeState h]
          · exact i_thr h
        · skip
          by_cases c4 : x2 = nI 1
          · skip
            have nm0 : (f_X7_isNotice T Q x1) = true := m0.mpr c0
            have nm1 : (f_X7_in T Q x2 (nI 0) (nI 5)) = true := m1.mpr ⟨c1, c2⟩
            have nm2 : ¬ (x2 = nI 0) := fun q => c3 ((m2.mp q))
            have nm3 : x2 = nI 1 := m3.mpr c4
            have he : e_X6_ofNotice S P x1 x2 = (0) := by
              unfold e_X6_ofNotice
              rw [if_pos c0, if_neg c1, if_pos c2, if_neg c3, if_pos c4]
            have hV : u_X7_ofNotice T Q x1 x2 = (va_up T 110648 (upd (T 110648) 0 (nI 0))) := by
              rw [n7_ofNotice_u]
              rw [if_pos nm0, if_pos nm1]
            have hf : f_X6_ofNotice S P x1 x2 = (f_X6_partiesOf S P x1) := by
              unfold f_X6_ofNotice
              rw [if_pos c0, if_neg c1, if_pos c2, if_neg c3, if_pos c4]
            have hg : f_X7_ofNotice T Q x1 x2 = (f_X7_partiesOf (va_up T 110648 (upd (T 110648) 0 (nI 0))) Q x1) := by
              rw [n7_ofNotice_f]
              rw [if_pos nm0, if_pos nm1, if_neg nm2, if_pos nm3]
            refine i_Gok he rfl hV rfl ?_ ?_
            · rw [hf, hg]
              rw [k_partiesOf (P' := P) (Q' := Q) (i_thr (x := nI 0) h)]
            · exact i_thr h
          · skip
            by_cases c5 : x2 = nI 2
            · skip
              have nm0 : (f_X7_isNotice T Q x1) = true := m0.mpr c0
              have nm1 : (f_X7_in T Q x2 (nI 0) (nI 5)) = true := m1.mpr ⟨c1, c2⟩
              have nm2 : ¬ (x2 = nI 0) := fun q => c3 ((m2.mp q))
              have nm3 : ¬ (x2 = nI 1) := fun q => c4 ((m3.mp q))
              have nm4 : x2 = nI 2 := m4.mpr c5
              have he : e_X6_ofNotice S P x1 x2 = (0) := by
                unfold e_X6_ofNotice
                rw [if_pos c0, if_neg c1, if_pos c2, if_neg c3, if_neg c4, if_pos c5]
              have hV : u_X7_ofNotice T Q x1 x2 = (va_up T 110648 (upd (T 110648) 0 (nI 0))) := by
                rw [n7_ofNotice_u]
                rw [if_pos nm0, if_pos nm1]
              have hf : f_X6_ofNotice S P x1 x2 = (S 100449 x1.toNatClampNeg) := by
                unfold f_X6_ofNotice
                rw [if_pos c0, if_neg c1, if_pos c2, if_neg c3, if_neg c4, if_pos c5]
              have hg : f_X7_ofNotice T Q x1 x2 = (T 198753 x1.toNatClampNeg) := by
                rw [n7_ofNotice_f]
                rw [if_pos nm0, if_pos nm1, if_neg nm2, if_neg nm3, if_pos nm4]
              refine i_Gok he rfl hV rfl ?_ ?_
              · rw [hf, hg]
                rw [i_a_agreed h]
              · exact i_thr h
            · skip
              by_cases c6 : x2 = nI 3
              · skip
                have nm0 : (f_X7_isNotice T Q x1) = true := m0.mpr c0
                have nm1 : (f_X7_in T Q x2 (nI 0) (nI 5)) = true := m1.mpr ⟨c1, c2⟩
                have nm2 : ¬ (x2 = nI 0) := fun q => c3 ((m2.mp q))
                have nm3 : ¬ (x2 = nI 1) := fun q => c4 ((m3.mp q))
                have nm4 : ¬ (x2 = nI 2) := fun q => c5 ((m4.mp q))
                have nm5 : x2 = nI 3 := m5.mpr c6
                have he : e_X6_ofNotice S P x1 x2 = (0) := by
                  unfold e_X6_ofNotice
                  rw [if_pos c0, if_neg c1, if_pos c2, if_neg c3, if_neg c4, if_neg c5, if_pos c6]
                have hV : u_X7_ofNotice T Q x1 x2 = (va_up T 110648 (upd (T 110648) 0 (nI 0))) := by
                  rw [n7_ofNotice_u]
                  rw [if_pos nm0, if_pos nm1]
                have hf : f_X6_ofNotice S P x1 x2 = (S 102497 x1.toNatClampNeg) := by
                  unfold f_X6_ofNotice
                  rw [if_pos c0, if_neg c1, if_pos c2, if_neg c3, if_neg c4, if_neg c5, if_pos c6]
                have hg : f_X7_ofNotice T Q x1 x2 = (T 200801 x1.toNatClampNeg) := by
                  rw [n7_ofNotice_f]
                  rw [if_pos nm0, if_pos nm1, if_neg nm2, if_neg nm3, if_neg nm4, if_pos nm5]
                refine i_Gok he rfl hV rfl ?_ ?_
                · rw [hf, hg]
                  rw [i_a_objected h]
                · exact i_thr h
              · skip
                by_cases c7 : x2 = nI 4
                · skip
                  have nm0 : (f_X7_isNotice T Q x1) = true := m0.mpr c0
                  have nm1 : (f_X7_in T Q x2 (nI 0) (nI 5)) = true := m1.mpr ⟨c1, c2⟩
                  have nm2 : ¬ (x2 = nI 0) := fun q => c3 ((m2.mp q))
                  have nm3 : ¬ (x2 = nI 1) := fun q => c4 ((m3.mp q))
                  have nm4 : ¬ (x2 = nI 2) := fun q => c5 ((m4.mp q))
                  have nm5 : ¬ (x2 = nI 3) := fun q => c6 ((m5.mp q))
                  have nm6 : x2 = nI 4 := m6.mpr c7
                  have he : e_X6_ofNotice S P x1 x2 = (0) := by
                    unfold e_X6_ofNotice
                    rw [if_pos c0, if_neg c1, if_pos c2, if_neg c3, if_neg c4, if_neg c5, if_neg c6, if_pos c7]
                  have hV : u_X7_ofNotice T Q x1 x2 = (va_up T 110648 (upd (T 110648) 0 (nI 0))) := by
                    rw [n7_ofNotice_u]
                    rw [if_pos nm0, if_pos nm1]
                  have hf : f_X6_ofNotice S P x1 x2 = (S 88161 x1.toNatClampNeg) := by
                    unfold f_X6_ofNotice
                    rw [if_pos c0, if_neg c1, if_pos c2, if_neg c3, if_neg c4, if_neg c5, if_neg c6, if_pos c7]
                  have hg : f_X7_ofNotice T Q x1 x2 = (T 182369 x1.toNatClampNeg) := by
                    rw [n7_ofNotice_f]
                    rw [if_pos nm0, if_pos nm1, if_neg nm2, if_neg nm3, if_neg nm4, if_neg nm5, if_pos nm6]
                  refine i_Gok he rfl hV rfl ?_ ?_
                  · rw [hf, hg]
                    rw [i_a_noticeMonth h]
                  · exact i_thr h
                · skip
                  have nm0 : (f_X7_isNotice T Q x1) = true := m0.mpr c0
                  have nm1 : (f_X7_in T Q x2 (nI 0) (nI 5)) = true := m1.mpr ⟨c1, c2⟩
                  have nm2 : ¬ (x2 = nI 0) := fun q => c3 ((m2.mp q))
                  have nm3 : ¬ (x2 = nI 1) := fun q => c4 ((m3.mp q))
                  have nm4 : ¬ (x2 = nI 2) := fun q => c5 ((m4.mp q))
                  have nm5 : ¬ (x2 = nI 3) := fun q => c6 ((m5.mp q))
                  have nm6 : ¬ (x2 = nI 4) := fun q => c7 ((m6.mp q))
                  have he : e_X6_ofNotice S P x1 x2 = (0) := by
                    unfold e_X6_ofNotice
                    rw [if_pos c0, if_neg c1, if_pos c2, if_neg c3, if_neg c4, if_neg c5, if_neg c6, if_neg c7]
                  have hV : u_X7_ofNotice T Q x1 x2 = (va_up T 110648 (upd (T 110648) 0 (nI 0))) := by
                    rw [n7_ofNotice_u]
                    rw [if_pos nm0, if_pos nm1]
                  have hf : f_X6_ofNotice S P x1 x2 = (S 104545 x1.toNatClampNeg) := by
                    unfold f_X6_ofNotice
                    rw [if_pos c0, if_neg c1, if_pos c2, if_neg c3, if_neg c4, if_neg c5, if_neg c6, if_neg c7]
                  have hg : f_X7_ofNotice T Q x1 x2 = (T 202849 x1.toNatClampNeg) := by
                    rw [n7_ofNotice_f]
                    rw [if_pos nm0, if_pos nm1, if_neg nm2, if_neg nm3, if_neg nm4, if_neg nm5, if_neg nm6]
                  refine i_Gok he rfl hV rfl ?_ ?_
                  · rw [hf, hg]
                    rw [i_a_noticeAct h]
                  · exact i_thr h
      · skip
        have nm0 : (f_X7_isNotice T Q x1) = true := m0.mpr c0
        have nm1 : ¬ ((f_X7_in T Q x2 (nI 0) (nI 5)) = true) := fun q => c2 ((m1.mp q).2)
        have he : e_X6_ofNotice S P x1 x2 = (2) := by
          unfold e_X6_ofNotice
          rw [if_pos c0, if_neg c1, if_neg c2]
        have hV : u_X7_ofNotice T Q x1 x2 = (va_up T 110648 (upd (T 110648) 0 (nI 2))) := by
          rw [n7_ofNotice_u]
          rw [if_pos nm0, if_neg nm1]
        exact i_Gerr h he hV (by decide) (fun _ _ => rfl)
  · skip
    have nm0 : ¬ ((f_X7_isNotice T Q x1) = true) := fun q => c0 ((m0.mp q))
    have he : e_X6_ofNotice S P x1 x2 = (1) := by
      unfold e_X6_ofNotice
      rw [if_neg c0]
    have hV : u_X7_ofNotice T Q x1 x2 = (va_up T 110648 (upd (T 110648) 0 (nI 1))) := by
      rw [n7_ofNotice_u]
      rw [if_neg nm0]
    exact i_Gerr h he hV (by decide) (fun _ _ => rfl)
theorem w7_ofNotice (T : z_MI) (Q : z_ML) (x1 x2 : Int32) (q : Nat) (hq : q < 110648) : u_X7_ofNotice T Q x1 x2 q = T q := by
  unfold u_X7_ofNotice
  (repeat' split) <;> first | rfl | (simp (disch := omega) only [va_up_ne]; done)
theorem o_ofNotice {S : z_MI} {P : z_ML} (h0 : i_I S P) (x1 x2 : Int32) : F_ofNotice S P x1 x2 i_I :=
  i_FO h0 (fun q hq => rfl) (fun T Q q hq => w7_ofNotice T Q x1 x2 q hq) (fun T Q h => ok_ofNotice (T := T) (Q := Q) h x1 x2) (by rcases w_L_ofNotice_e S P x1 x2 with e | e | e <;> rw [e] <;> decide)
