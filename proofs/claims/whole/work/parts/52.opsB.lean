/-! operations, B -/
theorem key_person_u (A1 A2 E F : Prop) [Decidable A1] [Decidable A2] [Decidable E] [Decidable F] (P1 P2 : Bool) {α : Type} (L0 L1 L2 L3 : α) : (if A1 then (if A2 then (if E then (if A1 then (if F then L0 else L1) else L2) else (if F then L0 else L1)) else (if P2 = true then (if E then (if A1 then (if F then L0 else L1) else L2) else (if F then L0 else L1)) else L3)) else (if P1 = true then (if A2 then (if E then (if A1 then (if F then L0 else L1) else L2) else (if F then L0 else L1)) else (if P2 = true then (if E then (if A1 then (if F then L0 else L1) else L2) else (if F then L0 else L1)) else L3)) else L3)) = (if (if A1 then true else if P1 = true then true else false) = true then (if (if A2 then true else if P2 = true then true else false) = true then (if E then (if A1 then (if F then L0 else L1) else L2) else (if F then L0 else L1)) else L3) else L3) := by
  by_cases hA1 : A1 <;> by_cases hA2 : A2 <;> by_cases hE : E <;> by_cases hF : F <;> cases P1 <;> cases P2 <;> simp only [hA1, hA2, hE, hF, if_true, if_false, Bool.false_eq_true, ite_self]
theorem n7_person_u {S T : z_MI} {P Q : z_ML} (h : i_2 S T P Q) (x1 x2 : Int32) : u_X7_person T Q x1 x2 = (if (f_X2_isPersonOrNone S P x1) = true then (if (f_X2_isPersonOrNone S P x2) = true then (if x1 = x2 then (if x1 = (-1) then (if (T 110648 6) = (nI 30) then (va_up T 110648 (upd (T 110648) 0 (nI 3))) else (va_up (va_up (va_up (va_up (va_up T 110648 (upd (T 110648) 0 (nI 0))) 119025 (upd ((va_up T 110648 (upd (T 110648) 0 (nI 0))) 119025) ((T 110648 6).toNatClampNeg) x1)) 121073 (upd ((va_up (va_up T 110648 (upd (T 110648) 0 (nI 0))) 119025 (upd ((va_up T 110648 (upd (T 110648) 0 (nI 0))) 119025) ((T 110648 6).toNatClampNeg) x1)) 121073) ((T 110648 6).toNatClampNeg) x2)) 123121 (upd ((va_up (va_up (va_up T 110648 (upd (T 110648) 0 (nI 0))) 119025 (upd ((va_up T 110648 (upd (T 110648) 0 (nI 0))) 119025) ((T 110648 6).toNatClampNeg) x1)) 121073 (upd ((va_up (va_up T 110648 (upd (T 110648) 0 (nI 0))) 119025 (upd ((va_up T 110648 (upd (T 110648) 0 (nI 0))) 119025) ((T 110648 6).toNatClampNeg) x1)) 121073) ((T 110648 6).toNatClampNeg) x2)) 123121) ((T 110648 6).toNatClampNeg) (-1))) 110648 (upd ((va_up (va_up (va_up (va_up T 110648 (upd (T 110648) 0 (nI 0))) 119025 (upd ((va_up T 110648 (upd (T 110648) 0 (nI 0))) 119025) ((T 110648 6).toNatClampNeg) x1)) 121073 (upd ((va_up (va_up T 110648 (upd (T 110648) 0 (nI 0))) 119025 (upd ((va_up T 110648 (upd (T 110648) 0 (nI 0))) 119025) ((T 110648 6).toNatClampNeg) x1)) 121073) ((T 110648 6).toNatClampNeg) x2)) 123121 (upd ((va_up (va_up (va_up T 110648 (upd (T 110648) 0 (nI 0))) 119025 (upd ((va_up T 110648 (upd (T 110648) 0 (nI 0))) 119025) ((T 110648 6).toNatClampNeg) x1)) 121073 (upd ((va_up (va_up T 110648 (upd (T 110648) 0 (nI 0))) 119025 (upd ((va_up T 110648 (upd (T 110648) 0 (nI 0))) 119025) ((T 110648 6).toNatClampNeg) x1)) 121073) ((T 110648 6).toNatClampNeg) x2)) 123121) ((T 110648 6).toNatClampNeg) (-1))) 110648) 6 ((T 110648 6) + (nI 1))))) else (va_up T 110648 (upd (T 110648) 0 (nI 2)))) else (if (T 110648 6) = (nI 30) then (va_up T 110648 (upd (T 110648) 0 (nI 3))) else (va_up (va_up (va_up (va_up (va_up T 110648 (upd (T 110648) 0 (nI 0))) 119025 (upd ((va_up T 110648 (upd (T 110648) 0 (nI 0))) 119025) ((T 110648 6).toNatClampNeg) x1)) 121073 (upd ((va_up (va_up T 110648 (upd (T 110648) 0 (nI 0))) 119025 (upd ((va_up T 110648 (upd (T 110648) 0 (nI 0))) 119025) ((T 110648 6).toNatClampNeg) x1)) 121073) ((T 110648 6).toNatClampNeg) x2)) 123121 (upd ((va_up (va_up (va_up T 110648 (upd (T 110648) 0 (nI 0))) 119025 (upd ((va_up T 110648 (upd (T 110648) 0 (nI 0))) 119025) ((T 110648 6).toNatClampNeg) x1)) 121073 (upd ((va_up (va_up T 110648 (upd (T 110648) 0 (nI 0))) 119025 (upd ((va_up T 110648 (upd (T 110648) 0 (nI 0))) 119025) ((T 110648 6).toNatClampNeg) x1)) 121073) ((T 110648 6).toNatClampNeg) x2)) 123121) ((T 110648 6).toNatClampNeg) (-1))) 110648 (upd ((va_up (va_up (va_up (va_up T 110648 (upd (T 110648) 0 (nI 0))) 119025 (upd ((va_up T 110648 (upd (T 110648) 0 (nI 0))) 119025) ((T 110648 6).toNatClampNeg) x1)) 121073 (upd ((va_up (va_up T 110648 (upd (T 110648) 0 (nI 0))) 119025 (upd ((va_up T 110648 (upd (T 110648) 0 (nI 0))) 119025) ((T 110648 6).toNatClampNeg) x1)) 121073) ((T 110648 6).toNatClampNeg) x2)) 123121 (upd ((va_up (va_up (va_up T 110648 (upd (T 110648) 0 (nI 0))) 119025 (upd ((va_up T 110648 (upd (T 110648) 0 (nI 0))) 119025) ((T 110648 6).toNatClampNeg) x1)) 121073 (upd ((va_up (va_up T 110648 (upd (T 110648) 0 (nI 0))) 119025 (upd ((va_up T 110648 (upd (T 110648) 0 (nI 0))) 119025) ((T 110648 6).toNatClampNeg) x1)) 121073) ((T 110648 6).toNatClampNeg) x2)) 123121) ((T 110648 6).toNatClampNeg) (-1))) 110648) 6 ((T 110648 6) + (nI 1)))))) else (va_up T 110648 (upd (T 110648) 0 (nI 1)))) else (va_up T 110648 (upd (T 110648) 0 (nI 1)))) := by
  unfold u_X7_person
  simp only [k_isPerson (P' := P) h]
  unfold f_X2_isPersonOrNone
  exact key_person_u _ _ _ _ _ _ _ _ _ _
theorem key_person_f (A1 A2 E F : Prop) [Decidable A1] [Decidable A2] [Decidable E] [Decidable F] (P1 P2 : Bool) {α : Type} (L0 L1 : α) : (if A1 then (if A2 then (if E then (if A1 then (if F then L0 else L1) else L0) else (if F then L0 else L1)) else (if P2 = true then (if E then (if A1 then (if F then L0 else L1) else L0) else (if F then L0 else L1)) else L0)) else (if P1 = true then (if A2 then (if E then (if A1 then (if F then L0 else L1) else L0) else (if F then L0 else L1)) else (if P2 = true then (if E then (if A1 then (if F then L0 else L1) else L0) else (if F then L0 else L1)) else L0)) else L0)) = (if (if A1 then true else if P1 = true then true else false) = true then (if (if A2 then true else if P2 = true then true else false) = true then (if E then (if A1 then (if F then L0 else L1) else L0) else (if F then L0 else L1)) else L0) else L0) := by
  by_cases hA1 : A1 <;> by_cases hA2 : A2 <;> by_cases hE : E <;> by_cases hF : F <;> cases P1 <;> cases P2 <;> simp only [hA1, hA2, hE, hF, if_true, if_false, Bool.false_eq_true, ite_self]
theorem n7_person_f {S T : z_MI} {P Q : z_ML} (h : i_2 S T P Q) (x1 x2 : Int32) : f_X7_person T Q x1 x2 = (if (f_X2_isPersonOrNone S P x1) = true then (if (f_X2_isPersonOrNone S P x2) = true then (if x1 = x2 then (if x1 = (-1) then (if (T 110648 6) = (nI 30) then (nI 0) else (((T 110648 6) + (nI 1)) - (nI 1))) else (nI 0)) else (if (T 110648 6) = (nI 30) then (nI 0) else (((T 110648 6) + (nI 1)) - (nI 1)))) else (nI 0)) else (nI 0)) := by
  unfold f_X7_person
  simp only [k_isPerson (P' := P) h]
  unfold f_X2_isPersonOrNone
  exact key_person_f _ _ _ _ _ _ _ _
theorem ok_person {S T : z_MI} {P Q : z_ML} (h : i_2 S T P Q) (x1 x2 : Int32) : i_G 1 2 3 (e_X6_person S P x1 x2) S (u_X6_person S P x1 x2) P Q (u_X7_person T Q x1 x2) ((f_X6_person S P x1 x2).toInt64) ((f_X7_person T Q x1 x2).toInt64) := by
  have m0 : ((f_X2_isPersonOrNone S P x1) = true) ↔ (((f_X2_isPersonOrNone S P x1) = true)) := Iff.rfl
  have m1 : ((f_X2_isPersonOrNone S P x2) = true) ↔ (((f_X2_isPersonOrNone S P x2) = true)) := Iff.rfl
  have m2 : (x1 = x2) ↔ ((x1 = x2)) := Iff.rfl
  have m3 : (x1 = (-1)) ↔ ((x1 = (-1))) := Iff.rfl
  have m4 : ((T 110648 6) = (nI 30)) ↔ ((¬ ((S 4112 7) < (nI 30)))) := by rw [i_c_persons h]; exact k_full (z_J_persons (i_J h)) (by decide)
  by_cases c0 : (f_X2_isPersonOrNone S P x1) = true
  · skip
    by_cases c1 : (f_X2_isPersonOrNone S P x2) = true
    · skip
      by_cases c2 : x1 = x2
      · skip
        by_cases c3 : x1 = (-1)
        · skip
          by_cases c4 : (S 4112 7) < (nI 30)
          · skip
            have nm0 : (f_X2_isPersonOrNone S P x1) = true := m0.mpr c0
            have nm1 : (f_X2_isPersonOrNone S P x2) = true := m1.mpr c1
            have nm2 : x1 = x2 := m2.mpr c2
            have nm3 : x1 = (-1) := m3.mpr c3
            have nm4 : ¬ ((T 110648 6) = (nI 30)) := fun q => ((m4.mp q)) c4
            have he : e_X6_person S P x1 x2 = (0) := by
              unfold e_X6_person
              rw [if_pos c0, if_pos c1, if_pos c2, if_pos c3, if_pos c4]
            have hV : u_X7_person T Q x1 x2 = (va_up (va_up (va_up (va_up (va_up T 110648 (upd (T 110648) 0 (nI 0))) 119025 (upd ((va_up T 110648 (upd (T 110648) 0 (nI 0))) 119025) ((T 110648 6).toNatClampNeg) x1)) 121073 (upd ((va_up (va_up T 110648 (upd (T 110648) 0 (nI 0))) 119025 (upd ((va_up T 110648 (upd (T 110648) 0 (nI 0))) 119025) ((T 110648 6).toNatClampNeg) x1)) 121073) ((T 110648 6).toNatClampNeg) x2)) 123121 (upd ((va_up (va_up (va_up T 110648 (upd (T 110648) 0 (nI 0))) 119025 (upd ((va_up T 110648 (upd (T 110648) 0 (nI 0))) 119025) ((T 110648 6).toNatClampNeg) x1)) 121073 (upd ((va_up (va_up T 110648 (upd (T 110648) 0 (nI 0))) 119025 (upd ((va_up T 110648 (upd (T 110648) 0 (nI 0))) 119025) ((T 110648 6).toNatClampNeg) x1)) 121073) ((T 110648 6).toNatClampNeg) x2)) 123121) ((T 110648 6).toNatClampNeg) (-1))) 110648 (upd ((va_up (va_up (va_up (va_up T 110648 (upd (T 110648) 0 (nI 0))) 119025 (upd ((va_up T 110648 (upd (T 110648) 0 (nI 0))) 119025) ((T 110648 6).toNatClampNeg) x1)) 121073 (upd ((va_up (va_up T 110648 (upd (T 110648) 0 (nI 0))) 119025 (upd ((va_up T 110648 (upd (T 110648) 0 (nI 0))) 119025) ((T 110648 6).toNatClampNeg) x1)) 121073) ((T 110648 6).toNatClampNeg) x2)) 123121 (upd ((va_up (va_up (va_up T 110648 (upd (T 110648) 0 (nI 0))) 119025 (upd ((va_up T 110648 (upd (T 110648) 0 (nI 0))) 119025) ((T 110648 6).toNatClampNeg) x1)) 121073 (upd ((va_up (va_up T 110648 (upd (T 110648) 0 (nI 0))) 119025 (upd ((va_up T 110648 (upd (T 110648) 0 (nI 0))) 119025) ((T 110648 6).toNatClampNeg) x1)) 121073) ((T 110648 6).toNatClampNeg) x2)) 123121) ((T 110648 6).toNatClampNeg) (-1))) 110648) 6 ((T 110648 6) + (nI 1)))) := by
              rw [n7_person_u h]
              rw [if_pos nm0, if_pos nm1, if_pos nm2, if_pos nm3, if_neg nm4]
            have hU : u_X6_person S P x1 x2 = (u_X2_addPerson S P x1 x2) := by
              unfold u_X6_person
              rw [if_pos c0, if_pos c1, if_pos c2, if_pos c3, if_pos c4]
            have hf : f_X6_person S P x1 x2 = (f_X2_addPerson S P x1 x2) := by
              unfold f_X6_person
              rw [if_pos c0, if_pos c1, if_pos c2, if_pos c3, if_pos c4]
            have hg : f_X7_person T Q x1 x2 = (((T 110648 6) + (nI 1)) - (nI 1)) := by
              rw [n7_person_f h]
              rw [if_pos nm0, if_pos nm1, if_pos nm2, if_pos nm3, if_neg nm4]
            refine i_Gok he hU hV rfl ?_ ?_
            · rw [hf, hg]
              show (S 4112 7).toInt64 = _
              rw [i_c_persons h, Int32.add_sub_cancel]
            · unfold u_X2_addPerson
              have hz : z_le (S 4112 7) 30 := z_J_persons (i_J h)
              have hk : (S 4112 7).toNatClampNeg = (T 110648 6).toNatClampNeg := by rw [i_c_persons h]
              have h1 := i_thr (x := nI 0) h
              have h2 := s_pair (a := 24817) (b := 119025) (x := x1) (x' := x1) h1 (by decide) hk rfl (i_bl_kin_mother (k_pNge h c0)) (i_T_pair h.2.2.2.2.1 (by decide))
              have h3 := s_pair (a := 26865) (b := 121073) (x := x2) (x' := x2) h2 (by decide) hk rfl (i_bl_kin_father (k_pNge h c1)) (i_T_pair h2.2.2.2.2.1 (by decide))
              have h4 := s_pair (a := 28913) (b := 123121) (x := -1) (x' := -1) h3 (by decide) hk rfl (i_bl_kin_adopter (by decide)) (i_T_pair h3.2.2.2.2.1 (by decide))
              exact s_cnt h4 (by decide) (by decide) (by decide) (by rw [i_c_persons h]) (i_nl_kin_persons (k_zle hz (by decide) c4)) (i_T_other h4.2.2.2.2.1 (by decide))
          · skip
            have nm0 : (f_X2_isPersonOrNone S P x1) = true := m0.mpr c0
            have nm1 : (f_X2_isPersonOrNone S P x2) = true := m1.mpr c1
            have nm2 : x1 = x2 := m2.mpr c2
            have nm3 : x1 = (-1) := m3.mpr c3
            have nm4 : (T 110648 6) = (nI 30) := m4.mpr c4
            have he : e_X6_person S P x1 x2 = (3) := by
              unfold e_X6_person
              rw [if_pos c0, if_pos c1, if_pos c2, if_pos c3, if_neg c4]
            have hV : u_X7_person T Q x1 x2 = (va_up T 110648 (upd (T 110648) 0 (nI 3))) := by
              rw [n7_person_u h]
              rw [if_pos nm0, if_pos nm1, if_pos nm2, if_pos nm3, if_pos nm4]
            exact i_Gerr h he hV (by decide) (fun _ _ => rfl)
        · skip
          have nm0 : (f_X2_isPersonOrNone S P x1) = true := m0.mpr c0
          have nm1 : (f_X2_isPersonOrNone S P x2) = true := m1.mpr c1
          have nm2 : x1 = x2 := m2.mpr c2
          have nm3 : ¬ (x1 = (-1)) := fun q => c3 ((m3.mp q))
          have he : e_X6_person S P x1 x2 = (2) := by
            unfold e_X6_person
            rw [if_pos c0, if_pos c1, if_pos c2, if_neg c3]
          have hV : u_X7_person T Q x1 x2 = (va_up T 110648 (upd (T 110648) 0 (nI 2))) := by
            rw [n7_person_u h]
            rw [if_pos nm0, if_pos nm1, if_pos nm2, if_neg nm3]
          exact i_Gerr h he hV (by decide) (fun _ _ => rfl)
      · skip
        by_cases c4 : (S 4112 7) < (nI 30)
        · skip
          have nm0 : (f_X2_isPersonOrNone S P x1) = true := m0.mpr c0
          have nm1 : (f_X2_isPersonOrNone S P x2) = true := m1.mpr c1
          have nm2 : ¬ (x1 = x2) := fun q => c2 ((m2.mp q))
          have nm4 : ¬ ((T 110648 6) = (nI 30)) := fun q => ((m4.mp q)) c4
          have he : e_X6_person S P x1 x2 = (0) := by
            unfold e_X6_person
            rw [if_pos c0, if_pos c1, if_neg c2, if_pos c4]
          have hV : u_X7_person T Q x1 x2 = (va_up (va_up (va_up (va_up (va_up T 110648 (upd (T 110648) 0 (nI 0))) 119025 (upd ((va_up T 110648 (upd (T 110648) 0 (nI 0))) 119025) ((T 110648 6).toNatClampNeg) x1)) 121073 (upd ((va_up (va_up T 110648 (upd (T 110648) 0 (nI 0))) 119025 (upd ((va_up T 110648 (upd (T 110648) 0 (nI 0))) 119025) ((T 110648 6).toNatClampNeg) x1)) 121073) ((T 110648 6).toNatClampNeg) x2)) 123121 (upd ((va_up (va_up (va_up T 110648 (upd (T 110648) 0 (nI 0))) 119025 (upd ((va_up T 110648 (upd (T 110648) 0 (nI 0))) 119025) ((T 110648 6).toNatClampNeg) x1)) 121073 (upd ((va_up (va_up T 110648 (upd (T 110648) 0 (nI 0))) 119025 (upd ((va_up T 110648 (upd (T 110648) 0 (nI 0))) 119025) ((T 110648 6).toNatClampNeg) x1)) 121073) ((T 110648 6).toNatClampNeg) x2)) 123121) ((T 110648 6).toNatClampNeg) (-1))) 110648 (upd ((va_up (va_up (va_up (va_up T 110648 (upd (T 110648) 0 (nI 0))) 119025 (upd ((va_up T 110648 (upd (T 110648) 0 (nI 0))) 119025) ((T 110648 6).toNatClampNeg) x1)) 121073 (upd ((va_up (va_up T 110648 (upd (T 110648) 0 (nI 0))) 119025 (upd ((va_up T 110648 (upd (T 110648) 0 (nI 0))) 119025) ((T 110648 6).toNatClampNeg) x1)) 121073) ((T 110648 6).toNatClampNeg) x2)) 123121 (upd ((va_up (va_up (va_up T 110648 (upd (T 110648) 0 (nI 0))) 119025 (upd ((va_up T 110648 (upd (T 110648) 0 (nI 0))) 119025) ((T 110648 6).toNatClampNeg) x1)) 121073 (upd ((va_up (va_up T 110648 (upd (T 110648) 0 (nI 0))) 119025 (upd ((va_up T 110648 (upd (T 110648) 0 (nI 0))) 119025) ((T 110648 6).toNatClampNeg) x1)) 121073) ((T 110648 6).toNatClampNeg) x2)) 123121) ((T 110648 6).toNatClampNeg) (-1))) 110648) 6 ((T 110648 6) + (nI 1)))) := by
            rw [n7_person_u h]
            rw [if_pos nm0, if_pos nm1, if_neg nm2, if_neg nm4]
          have hU : u_X6_person S P x1 x2 = (u_X2_addPerson S P x1 x2) := by
            unfold u_X6_person
            rw [if_pos c0, if_pos c1, if_neg c2, if_pos c4]
          have hf : f_X6_person S P x1 x2 = (f_X2_addPerson S P x1 x2) := by
            unfold f_X6_person
            rw [if_pos c0, if_pos c1, if_neg c2, if_pos c4]
          have hg : f_X7_person T Q x1 x2 = (((T 110648 6) + (nI 1)) - (nI 1)) := by
            rw [n7_person_f h]
            rw [if_pos nm0, if_pos nm1, if_neg nm2, if_neg nm4]
          refine i_Gok he hU hV rfl ?_ ?_
          · rw [hf, hg]
            show (S 4112 7).toInt64 = _
            rw [i_c_persons h, Int32.add_sub_cancel]
          · unfold u_X2_addPerson
            have hz : z_le (S 4112 7) 30 := z_J_persons (i_J h)
            have hk : (S 4112 7).toNatClampNeg = (T 110648 6).toNatClampNeg := by rw [i_c_persons h]
            have h1 := i_thr (x := nI 0) h
            have h2 := s_pair (a := 24817) (b := 119025) (x := x1) (x' := x1) h1 (by decide) hk rfl (i_bl_kin_mother (k_pNge h c0)) (i_T_pair h.2.2.2.2.1 (by decide))
            have h3 := s_pair (a := 26865) (b := 121073) (x := x2) (x' := x2) h2 (by decide) hk rfl (i_bl_kin_father (k_pNge h c1)) (i_T_pair h2.2.2.2.2.1 (by decide))
            have h4 := s_pair (a := 28913) (b := 123121) (x := -1) (x' := -1) h3 (by decide) hk rfl (i_bl_kin_adopter (by decide)) (i_T_pair h3.2.2.2.2.1 (by decide))
            exact s_cnt h4 (by decide) (by decide) (by decide) (by rw [i_c_persons h]) (i_nl_kin_persons (k_zle hz (by decide) c4)) (i_T_other h4.2.2.2.2.1 (by decide))
        · skip
          have nm0 : (f_X2_isPersonOrNone S P x1) = true := m0.mpr c0
          have nm1 : (f_X2_isPersonOrNone S P x2) = true := m1.mpr c1
          have nm2 : ¬ (x1 = x2) := fun q => c2 ((m2.mp q))
          have nm4 : (T 110648 6) = (nI 30) := m4.mpr c4
          have he : e_X6_person S P x1 x2 = (3) := by
            unfold e_X6_person
            rw [if_pos c0, if_pos c1, if_neg c2, if_neg c4]
          have hV : u_X7_person T Q x1 x2 = (va_up T 110648 (upd (T 110648) 0 (nI 3))) := by
            rw [n7_person_u h]
            rw [if_pos nm0, if_pos nm1, if_neg nm2, if_pos nm4]
          exact i_Gerr h he hV (by decide) (fun _ _ => rfl)
    · skip
      have nm0 : (f_X2_isPersonOrNone S P x1) = true := m0.mpr c0
      have nm1 : ¬ ((f_X2_isPersonOrNone S P x2) = true) := fun q => c1 ((m1.mp q))
      have he : e_X6_person S P x1 x2 = (1) := by
        unfold e_X6_person
        rw [if_pos c0, if_neg c1]
      have hV : u_X7_person T Q x1 x2 = (va_up T 110648 (upd (T 110648) 0 (nI 1))) := by
        rw [n7_person_u h]
        rw [if_pos nm0, if_neg nm1]
      exact i_Gerr h he hV (by decide) (fun _ _ => rfl)
  · skip
    have nm0 : ¬ ((f_X2_isPersonOrNone S P x1) = true) := fun q => c0 ((m0.mp q))
    have he : e_X6_person S P x1 x2 = (1) := by
      unfold e_X6_person
      rw [if_neg c0]
    have hV : u_X7_person T Q x1 x2 = (va_up T 110648 (upd (T 110648) 0 (nI 1))) := by
      rw [n7_person_u h]
      rw [if_neg nm0]
    exact i_Gerr h he hV (by decide) (fun _ _ => rfl)
theorem w6_person (S : z_MI) (P : z_ML) (x1 x2 : Int32) (q : Nat) (hq : 110648 ≤ q) : u_X6_person S P x1 x2 q = S q := by
  unfold u_X6_person
  (repeat' split) <;> first | rfl | (try unfold u_X2_addPerson; simp (disch := omega) only [va_up_ne])
theorem w7_person (T : z_MI) (Q : z_ML) (x1 x2 : Int32) (q : Nat) (hq : q < 110648) : u_X7_person T Q x1 x2 q = T q := by
  unfold u_X7_person
  (repeat' split) <;> first | rfl | simp (disch := omega) only [va_up_ne]
theorem o_person {S : z_MI} {P : z_ML} (h0 : i_I S P) (x1 x2 : Int32) : F_person S P x1 x2 i_I :=
  i_FO h0 (w6_person S P x1 x2) (fun T Q q hq => w7_person T Q x1 x2 q hq) (fun T Q h => ok_person (T := T) (Q := Q) h x1 x2) (by rcases w_L_person_e S P x1 x2 with e | e | e | e <;> rw [e] <;> decide)
theorem key_adopt_u (A2 E : Prop) [Decidable A2] [Decidable E] (P1 P2 : Bool) {α : Type} (L0 L1 L2 : α) : (if P1 = true then (if A2 then (if E then L0 else L1) else (if P2 = true then (if E then L0 else L1) else L2)) else L2) = (if P1 = true then (if (if A2 then true else if P2 = true then true else false) = true then (if E then L0 else L1) else L2) else L2) := by
  by_cases hA2 : A2 <;> by_cases hE : E <;> cases P1 <;> cases P2 <;> simp only [hA2, hE, if_true, if_false, Bool.false_eq_true, ite_self]
theorem n7_adopt_u {S T : z_MI} {P Q : z_ML} (h : i_2 S T P Q) (x1 x2 : Int32) : u_X7_adopt T Q x1 x2 = (if (f_X2_isPerson S P x1) = true then (if (f_X2_isPersonOrNone S P x2) = true then (if x1 = x2 then (va_up T 110648 (upd (T 110648) 0 (nI 2))) else (va_up (va_up T 110648 (upd (T 110648) 0 (nI 0))) 123121 (upd ((va_up T 110648 (upd (T 110648) 0 (nI 0))) 123121) x1.toNatClampNeg x2))) else (va_up T 110648 (upd (T 110648) 0 (nI 1)))) else (va_up T 110648 (upd (T 110648) 0 (nI 1)))) := by
  unfold u_X7_adopt
  simp only [k_isPerson (P' := P) h]
  unfold f_X2_isPersonOrNone
  exact key_adopt_u _ _ _ _ _ _ _
theorem key_adopt_f (A2 E : Prop) [Decidable A2] [Decidable E] (P1 P2 : Bool) {α : Type} (L0 L1 : α) : (if P1 = true then (if A2 then (if E then L0 else L1) else (if P2 = true then (if E then L0 else L1) else L0)) else L0) = (if P1 = true then (if (if A2 then true else if P2 = true then true else false) = true then (if E then L0 else L1) else L0) else L0) := by
  by_cases hA2 : A2 <;> by_cases hE : E <;> cases P1 <;> cases P2 <;> simp only [hA2, hE, if_true, if_false, Bool.false_eq_true, ite_self]
theorem n7_adopt_f {S T : z_MI} {P Q : z_ML} (h : i_2 S T P Q) (x1 x2 : Int32) : f_X7_adopt T Q x1 x2 = (if (f_X2_isPerson S P x1) = true then (if (f_X2_isPersonOrNone S P x2) = true then (if x1 = x2 then (nI 0) else (T 123121 x1.toNatClampNeg)) else (nI 0)) else (nI 0)) := by
  unfold f_X7_adopt
  simp only [k_isPerson (P' := P) h]
  unfold f_X2_isPersonOrNone
  exact key_adopt_f _ _ _ _ _ _
theorem ok_adopt {S T : z_MI} {P Q : z_ML} (h : i_2 S T P Q) (x1 x2 : Int32) : i_G 1 2 0 (e_X6_adopt S P x1 x2) S (u_X6_adopt S P x1 x2) P Q (u_X7_adopt T Q x1 x2) ((f_X6_adopt S P x1 x2).toInt64) ((f_X7_adopt T Q x1 x2).toInt64) := by
  have m0 : ((f_X2_isPerson S P x1) = true) ↔ (((f_X2_isPerson S P x1) = true)) := Iff.rfl
  have m1 : ((f_X2_isPersonOrNone S P x2) = true) ↔ (((f_X2_isPersonOrNone S P x2) = true)) := Iff.rfl
  have m2 : (x1 = x2) ↔ ((x1 = x2)) := Iff.rfl
  by_cases c0 : (f_X2_isPerson S P x1) = true
  · skip
    by_cases c1 : (f_X2_isPersonOrNone S P x2) = true
    · skip
      by_cases c2 : x1 = x2
      · skip
        have nm0 : (f_X2_isPerson S P x1) = true := m0.mpr c0
        have nm1 : (f_X2_isPersonOrNone S P x2) = true := m1.mpr c1
        have nm2 : x1 = x2 := m2.mpr c2
        have he : e_X6_adopt S P x1 x2 = (2) := by
          unfold e_X6_adopt
          rw [if_pos c0, if_pos c1, if_pos c2]
        have hV : u_X7_adopt T Q x1 x2 = (va_up T 110648 (upd (T 110648) 0 (nI 2))) := by
          rw [n7_adopt_u h]
          rw [if_pos nm0, if_pos nm1, if_pos nm2]
        exact i_Gerr h he hV (by decide) (fun _ _ => rfl)
      · skip
        have nm0 : (f_X2_isPerson S P x1) = true := m0.mpr c0
        have nm1 : (f_X2_isPersonOrNone S P x2) = true := m1.mpr c1
        have nm2 : ¬ (x1 = x2) := fun q => c2 ((m2.mp q))
        have he : e_X6_adopt S P x1 x2 = (0) := by
          unfold e_X6_adopt
          rw [if_pos c0, if_pos c1, if_neg c2]
        have hV : u_X7_adopt T Q x1 x2 = (va_up (va_up T 110648 (upd (T 110648) 0 (nI 0))) 123121 (upd ((va_up T 110648 (upd (T 110648) 0 (nI 0))) 123121) x1.toNatClampNeg x2)) := by
          rw [n7_adopt_u h]
          rw [if_pos nm0, if_pos nm1, if_neg nm2]
        have hU : u_X6_adopt S P x1 x2 = (va_up S 28913 (upd (S 28913) x1.toNatClampNeg x2)) := by
          unfold u_X6_adopt
          rw [if_pos c0, if_pos c1, if_neg c2]
        have hf : f_X6_adopt S P x1 x2 = (S 28913 x1.toNatClampNeg) := by
          unfold f_X6_adopt
          rw [if_pos c0, if_pos c1, if_neg c2]
        have hg : f_X7_adopt T Q x1 x2 = (T 123121 x1.toNatClampNeg) := by
          rw [n7_adopt_f h]
          rw [if_pos nm0, if_pos nm1, if_neg nm2]
        refine i_Gok he hU hV rfl ?_ ?_
        · rw [hf, hg]
          rw [i_a_adopters h]
        · have h1 := i_thr (x := nI 0) h
          exact s_pair (a := 28913) (b := 123121) h1 (by decide) rfl rfl (i_bl_kin_adopter (k_pNge h c1)) (i_T_pair h.2.2.2.2.1 (by decide))
    · skip
      have nm0 : (f_X2_isPerson S P x1) = true := m0.mpr c0
      have nm1 : ¬ ((f_X2_isPersonOrNone S P x2) = true) := fun q => c1 ((m1.mp q))
      have he : e_X6_adopt S P x1 x2 = (1) := by
        unfold e_X6_adopt
        rw [if_pos c0, if_neg c1]
      have hV : u_X7_adopt T Q x1 x2 = (va_up T 110648 (upd (T 110648) 0 (nI 1))) := by
        rw [n7_adopt_u h]
        rw [if_pos nm0, if_neg nm1]
      exact i_Gerr h he hV (by decide) (fun _ _ => rfl)
  · skip
    have nm0 : ¬ ((f_X2_isPerson S P x1) = true) := fun q => c0 ((m0.mp q))
    have he : e_X6_adopt S P x1 x2 = (1) := by
      unfold e_X6_adopt
      rw [if_neg c0]
    have hV : u_X7_adopt T Q x1 x2 = (va_up T 110648 (upd (T 110648) 0 (nI 1))) := by
      rw [n7_adopt_u h]
      rw [if_neg nm0]
    exact i_Gerr h he hV (by decide) (fun _ _ => rfl)
theorem w6_adopt (S : z_MI) (P : z_ML) (x1 x2 : Int32) (q : Nat) (hq : 110648 ≤ q) : u_X6_adopt S P x1 x2 q = S q := by
  unfold u_X6_adopt
  (repeat' split) <;> first | rfl | (simp (disch := omega) only [va_up_ne])
theorem w7_adopt (T : z_MI) (Q : z_ML) (x1 x2 : Int32) (q : Nat) (hq : q < 110648) : u_X7_adopt T Q x1 x2 q = T q := by
  unfold u_X7_adopt
  (repeat' split) <;> first | rfl | simp (disch := omega) only [va_up_ne]
theorem o_adopt {S : z_MI} {P : z_ML} (h0 : i_I S P) (x1 x2 : Int32) : F_adopt S P x1 x2 i_I :=
  i_FO h0 (w6_adopt S P x1 x2) (fun T Q q hq => w7_adopt T Q x1 x2 q hq) (fun T Q h => ok_adopt (T := T) (Q := Q) h x1 x2) (by rcases w_L_adopt_e S P x1 x2 with e | e | e <;> rw [e] <;> decide)
theorem k_fxP {α β : Type} {f : Nat → α → α ⊕ β} {a : α} (I : α → Prop) (J : β → Prop) (h0 : I a) (hs : ∀ k a, I a → (∀ b, f k a = .inl b → I b) ∧ (∀ r, f k a = .inr r → J r)) : ∀ n, (∀ b, z_fx f a n = .inl b → I b) ∧ (∀ r, z_fx f a n = .inr r → J r)
  | 0 => ⟨fun b h => by cases h; exact h0, fun r h => by cases h⟩
  | n + 1 => by
    obtain ⟨h1, h2⟩ := k_fxP I J h0 hs n
    cases e : z_fx f a n with
    | inl b =>
      rw [z_fx_s e]
      exact hs n b (h1 b e)
    | inr r =>
      rw [z_fx_r e (Nat.le_succ n)]
      exact ⟨fun b q => (by cases q), fun r' q => by cases q; exact h2 r e⟩
theorem k_memNN {S T : z_MI} {P Q : z_ML} (P' : z_ML) (h : i_2 S T P Q) (x : Int32) : 0 ≤ (f_X2_membersOf S P' x).toInt := by
  have hp : (S 4112 7).toNatClampNeg ≤ 30 := k_cl (z_J_persons (i_J h)) (by decide)
  have hb : 0 ≤ (S 22577 x.toNatClampNeg).toInt := i_b_kin_roots h _
  have hN : ∀ a r, bt a 31 = false → bt (f_X2_withNext S P' a r) 31 = false := fun a r ha => by
    cases e : bt (f_X2_withNext S P' a r) 31
    · rfl
    · rcases (k_sub (P := P') a r hp 31 (by decide)).2 e with q | q
      · rw [q] at ha; cases ha
      · omega
  unfold f_X2_membersOf
  split
  · obtain ⟨h1, h2⟩ := k_fxP (f := fun k19 a19 => l_X2_membersOf_19 S P' x k19 a19) (fun a => bt a 31 = false) (fun a => bt a 31 = false) (j_nn.mp hb) (fun k a ha => by
      unfold l_X2_membersOf_19
      split
      · exact ⟨fun b q => (by cases q), fun r q => by cases q; exact hN a _ ha⟩
      · exact ⟨fun b q => by cases q; exact hN a _ ha, fun r q => by cases q⟩) (S 4112 7).toNatClampNeg
    rw [j_nn]
    cases e : z_fx (fun k19 a19 => l_X2_membersOf_19 S P' x k19 a19) (S 22577 x.toNatClampNeg) (S 4112 7).toNatClampNeg with
    | inl b => exact h1 b e
    | inr r => exact h2 r e
  · rw [nI_toInt (by decide)]; decide
theorem s_root {S T : z_MI} {P Q : z_ML} (h : i_2 S T P Q) {x1 x2 x3 y : Int32} (c1 : f_X2_isPerson S P x2 = true) (hy : f_X6_with S P (S 22577 x1.toNatClampNeg) x2 x3 = y) : i_2 (va_up S 22577 (upd (S 22577) x1.toNatClampNeg (f_X6_with S P (S 22577 x1.toNatClampNeg) x2 x3))) (va_up (va_up T 110648 (upd (T 110648) 0 (nI 0))) 114737 (upd ((va_up T 110648 (upd (T 110648) 0 (nI 0))) 114737) x1.toNatClampNeg y)) P Q := by
  obtain ⟨j, hj, hj2, -⟩ := k_idxR h c1
  have h1 := i_thr (x := nI 0) h
  exact s_pair (a := 22577) (b := 114737) h1 (by decide) rfl hy (i_bl_kin_roots (k_withNN S P (i_b_kin_roots h _) hj (by omega))) (i_T_pair h.2.2.2.2.1 (by decide))
theorem k_rt0 {S T : z_MI} {P Q : z_ML} (h : i_2 S T P Q) (x1 x2 : Int32) {x3 : Int32} (d : x3 = 0) : f_X6_with S P (S 22577 x1.toNatClampNeg) x2 x3 = ((T 114737 x1.toNatClampNeg) &&& (((nI 1) <<< (x2 &&& 31)) ^^^ (-1))) ||| (nI 0) := by
  rw [d, i_a_roots h, j_wm0 S P, nI_0]
theorem k_rt1 {S T : z_MI} {P Q : z_ML} (h : i_2 S T P Q) (x1 x2 : Int32) {x3 : Int32} (d : ¬ x3 = 0) : f_X6_with S P (S 22577 x1.toNatClampNeg) x2 x3 = ((T 114737 x1.toNatClampNeg) &&& (((nI 1) <<< (x2 &&& 31)) ^^^ (-1))) ||| ((nI 1) <<< (x2 &&& 31)) := by
  rw [i_a_roots h, j_wm1 S P]
  unfold f_X6_with
  rw [if_neg d, if_neg (by decide)]
theorem ok_root {S T : z_MI} {P Q : z_ML} (h : i_2 S T P Q) (x1 x2 x3 : Int32) : i_G 1 0 0 (e_X6_root S P x1 x2 x3) S (u_X6_root S P x1 x2 x3) P Q (u_X7_root T Q x1 x2 x3) ((f_X6_root S P x1 x2 x3).toInt64) ((f_X7_root T Q x1 x2 x3).toInt64) := by
  have m0 : ((f_X7_isPeople T Q x1) = true) ↔ (((f_X2_isPeople S P x1) = true)) := by rw [k_isPeople (P' := P) h]
  have m1 : ((f_X7_isPerson T Q x2) = true) ↔ (((f_X2_isPerson S P x2) = true)) := by rw [k_isPerson (P' := P) h]
  by_cases c0 : (f_X2_isPeople S P x1) = true
  · skip
    by_cases c1 : (f_X2_isPerson S P x2) = true
    · skip
      by_cases d0 : x3 = 0
      · skip
        have nm0 : (f_X7_isPeople T Q x1) = true := m0.mpr c0
        have nm1 : (f_X7_isPerson T Q x2) = true := m1.mpr c1
        have he : e_X6_root S P x1 x2 x3 = (0) := by
          unfold e_X6_root
          rw [if_pos c0, if_pos c1]
        have hV : u_X7_root T Q x1 x2 x3 = (va_up (va_up T 110648 (upd (T 110648) 0 (nI 0))) 114737 (upd ((va_up T 110648 (upd (T 110648) 0 (nI 0))) 114737) x1.toNatClampNeg (((T 114737 x1.toNatClampNeg) &&& (((nI 1) <<< (x2 &&& 31)) ^^^ (-1))) ||| (nI 0)))) := by
          unfold u_X7_root
          rw [if_pos nm0, if_pos nm1, if_pos d0]
        have hU : u_X6_root S P x1 x2 x3 = (va_up S 22577 (upd (S 22577) x1.toNatClampNeg (f_X6_with S P (S 22577 x1.toNatClampNeg) x2 x3))) := by
          unfold u_X6_root
          rw [if_pos c0, if_pos c1]
        have hf : f_X6_root S P x1 x2 x3 = (f_J6_bitCount_0f7a4 (va_up S 22577 (upd (S 22577) x1.toNatClampNeg (f_X6_with S P (S 22577 x1.toNatClampNeg) x2 x3))) P (f_X2_membersOf (va_up S 22577 (upd (S 22577) x1.toNatClampNeg (f_X6_with S P (S 22577 x1.toNatClampNeg) x2 x3))) P x1)) := by
          unfold f_X6_root
          rw [if_pos c0, if_pos c1]
        have hg : f_X7_root T Q x1 x2 x3 = (f_X7_bits (va_up (va_up T 110648 (upd (T 110648) 0 (nI 0))) 114737 (upd ((va_up T 110648 (upd (T 110648) 0 (nI 0))) 114737) x1.toNatClampNeg (((T 114737 x1.toNatClampNeg) &&& (((nI 1) <<< (x2 &&& 31)) ^^^ (-1))) ||| (nI 0)))) Q (f_X7_membersOf (va_up (va_up T 110648 (upd (T 110648) 0 (nI 0))) 114737 (upd ((va_up T 110648 (upd (T 110648) 0 (nI 0))) 114737) x1.toNatClampNeg (((T 114737 x1.toNatClampNeg) &&& (((nI 1) <<< (x2 &&& 31)) ^^^ (-1))) ||| (nI 0)))) Q x1)) := by
          unfold f_X7_root
          rw [if_pos nm0, if_pos nm1, if_pos d0]
        refine i_Gok he hU hV rfl ?_ ?_
        · rw [hf, hg]
          have hs := s_root h c1 (k_rt0 h x1 x2 d0)
          have c0' := c0
          exact (congrArg Int32.toInt64 ((congrArg _ (k_membersOf (P' := P) (Q' := Q) hs c0')).trans (j_pop _ _ P Q (k_memNN P hs x1)))).symm
        · exact s_root h c1 (k_rt0 h x1 x2 d0)
      · skip
        have nm0 : (f_X7_isPeople T Q x1) = true := m0.mpr c0
        have nm1 : (f_X7_isPerson T Q x2) = true := m1.mpr c1
        have he : e_X6_root S P x1 x2 x3 = (0) := by
          unfold e_X6_root
          rw [if_pos c0, if_pos c1]
        have hV : u_X7_root T Q x1 x2 x3 = (va_up (va_up T 110648 (upd (T 110648) 0 (nI 0))) 114737 (upd ((va_up T 110648 (upd (T 110648) 0 (nI 0))) 114737) x1.toNatClampNeg (((T 114737 x1.toNatClampNeg) &&& (((nI 1) <<< (x2 &&& 31)) ^^^ (-1))) ||| ((nI 1) <<< (x2 &&& 31))))) := by
          unfold u_X7_root
          rw [if_pos nm0, if_pos nm1, if_neg d0]
        have hU : u_X6_root S P x1 x2 x3 = (va_up S 22577 (upd (S 22577) x1.toNatClampNeg (f_X6_with S P (S 22577 x1.toNatClampNeg) x2 x3))) := by
          unfold u_X6_root
          rw [if_pos c0, if_pos c1]
        have hf : f_X6_root S P x1 x2 x3 = (f_J6_bitCount_0f7a4 (va_up S 22577 (upd (S 22577) x1.toNatClampNeg (f_X6_with S P (S 22577 x1.toNatClampNeg) x2 x3))) P (f_X2_membersOf (va_up S 22577 (upd (S 22577) x1.toNatClampNeg (f_X6_with S P (S 22577 x1.toNatClampNeg) x2 x3))) P x1)) := by
          unfold f_X6_root
          rw [if_pos c0, if_pos c1]
        have hg : f_X7_root T Q x1 x2 x3 = (f_X7_bits (va_up (va_up T 110648 (upd (T 110648) 0 (nI 0))) 114737 (upd ((va_up T 110648 (upd (T 110648) 0 (nI 0))) 114737) x1.toNatClampNeg (((T 114737 x1.toNatClampNeg) &&& (((nI 1) <<< (x2 &&& 31)) ^^^ (-1))) ||| ((nI 1) <<< (x2 &&& 31))))) Q (f_X7_membersOf (va_up (va_up T 110648 (upd (T 110648) 0 (nI 0))) 114737 (upd ((va_up T 110648 (upd (T 110648) 0 (nI 0))) 114737) x1.toNatClampNeg (((T 114737 x1.toNatClampNeg) &&& (((nI 1) <<< (x2 &&& 31)) ^^^ (-1))) ||| ((nI 1) <<< (x2 &&& 31))))) Q x1)) := by
          unfold f_X7_root
          rw [if_pos nm0, if_pos nm1, if_neg d0]
        refine i_Gok he hU hV rfl ?_ ?_
        · rw [hf, hg]
          have hs := s_root h c1 (k_rt1 h x1 x2 d0)
          have c0' := c0
          exact (congrArg Int32.toInt64 ((congrArg _ (k_membersOf (P' := P) (Q' := Q) hs c0')).trans (j_pop _ _ P Q (k_memNN P hs x1)))).symm
        · exact s_root h c1 (k_rt1 h x1 x2 d0)
    · skip
      have nm0 : (f_X7_isPeople T Q x1) = true := m0.mpr c0
      have nm1 : ¬ ((f_X7_isPerson T Q x2) = true) := fun q => c1 ((m1.mp q))
      have he : e_X6_root S P x1 x2 x3 = (1) := by
        unfold e_X6_root
        rw [if_pos c0, if_neg c1]
      have hV : u_X7_root T Q x1 x2 x3 = (va_up T 110648 (upd (T 110648) 0 (nI 1))) := by
        unfold u_X7_root
        rw [if_pos nm0, if_neg nm1]
      exact i_Gerr h he hV (by decide) (fun _ _ => rfl)
  · skip
    have nm0 : ¬ ((f_X7_isPeople T Q x1) = true) := fun q => c0 ((m0.mp q))
    have he : e_X6_root S P x1 x2 x3 = (1) := by
      unfold e_X6_root
      rw [if_neg c0]
    have hV : u_X7_root T Q x1 x2 x3 = (va_up T 110648 (upd (T 110648) 0 (nI 1))) := by
      unfold u_X7_root
      rw [if_neg nm0]
    exact i_Gerr h he hV (by decide) (fun _ _ => rfl)
theorem w6_root (S : z_MI) (P : z_ML) (x1 x2 x3 : Int32) (q : Nat) (hq : 110648 ≤ q) : u_X6_root S P x1 x2 x3 q = S q := by
  unfold u_X6_root
  (repeat' split) <;> first | rfl | (simp (disch := omega) only [va_up_ne])
theorem w7_root (T : z_MI) (Q : z_ML) (x1 x2 x3 : Int32) (q : Nat) (hq : q < 110648) : u_X7_root T Q x1 x2 x3 q = T q := by
  unfold u_X7_root
  (repeat' split) <;> first | rfl | simp (disch := omega) only [va_up_ne]
theorem o_root {S : z_MI} {P : z_ML} (h0 : i_I S P) (x1 x2 x3 : Int32) : F_root S P x1 x2 x3 i_I :=
  i_FO h0 (w6_root S P x1 x2 x3) (fun T Q q hq => w7_root T Q x1 x2 x3 q hq) (fun T Q h => ok_root (T := T) (Q := Q) h x1 x2 x3) (by rcases w_L_root_e S P x1 x2 x3 with e | e <;> rw [e] <;> decide)
theorem k_iteb {A B : Bool} {α : Type} {X Y : α} : (if A = true then if B = true then X else Y else Y) = if (A && B) = true then X else Y := by
  cases A <;> cases B <;> rfl
theorem n7_hears_u {S T : z_MI} {P Q : z_ML} (h : i_2 S T P Q) (x1 x2 x3 : Int32) : u_X7_hears T Q x1 x2 x3 = (if (f_X7_isPerson T Q x1) = true then (if (f_X5_isPart S P x2 x3) = true then (if (f_X7_mayHear (va_up T 110648 (upd (T 110648) 0 (nI 0))) Q x1 x2 x3) = true then (va_up T 110648 (upd (T 110648) 0 (nI 0))) else (va_up T 110648 (upd (T 110648) 0 (nI 0)))) else (va_up T 110648 (upd (T 110648) 0 (nI 1)))) else (va_up T 110648 (upd (T 110648) 0 (nI 1)))) := by
  unfold u_X7_hears
  rw [k_iteb (A := f_X7_isStory T Q x2), ← k_isPart (P' := P) h]
theorem n7_hears_f {S T : z_MI} {P Q : z_ML} (h : i_2 S T P Q) (x1 x2 x3 : Int32) : f_X7_hears T Q x1 x2 x3 = (if (f_X7_isPerson T Q x1) = true then (if (f_X5_isPart S P x2 x3) = true then (if (f_X7_mayHear (va_up T 110648 (upd (T 110648) 0 (nI 0))) Q x1 x2 x3) = true then (T 132033 ((((nI 12) * x2) + x3).toNatClampNeg)) else ((-1))) else (nI 0)) else (nI 0)) := by
  unfold f_X7_hears
  rw [k_iteb (A := f_X7_isStory T Q x2), ← k_isPart (P' := P) h]
theorem ok_hears {S T : z_MI} {P Q : z_ML} (h : i_2 S T P Q) (x1 x2 x3 : Int32) : i_G 1 0 0 (e_X6_hears S P x1 x2 x3) S (S) P Q (u_X7_hears T Q x1 x2 x3) ((f_X6_hears S P x1 x2 x3).toInt64) ((f_X7_hears T Q x1 x2 x3).toInt64) := by
  have m0 : ((f_X7_isPerson T Q x1) = true) ↔ (((f_X2_isPerson S P x1) = true)) := by rw [k_isPerson (P' := P) h]
  have m1 : ((f_X5_isPart S P x2 x3) = true) ↔ (((f_X5_isPart S P x2 x3) = true)) := Iff.rfl
  by_cases c0 : (f_X2_isPerson S P x1) = true
  · skip
    by_cases c1 : (f_X5_isPart S P x2 x3) = true
    · skip
      by_cases d0 : (f_X7_mayHear (va_up T 110648 (upd (T 110648) 0 (nI 0))) Q x1 x2 x3) = true
      · skip
        have nm0 : (f_X7_isPerson T Q x1) = true := m0.mpr c0
        have nm1 : (f_X5_isPart S P x2 x3) = true := m1.mpr c1
        have he : e_X6_hears S P x1 x2 x3 = (0) := by
          unfold e_X6_hears
          rw [if_pos c0, if_pos c1]
        have hV : u_X7_hears T Q x1 x2 x3 = (va_up T 110648 (upd (T 110648) 0 (nI 0))) := by
          rw [n7_hears_u h]
          rw [if_pos nm0, if_pos nm1, if_pos d0]
        have hf : f_X6_hears S P x1 x2 x3 = (f_X5_placeUpTo S P x2 x3 (f_X6_levelHeard S P x1 x2)) := by
          unfold f_X6_hears
          rw [if_pos c0, if_pos c1]
        have hg : f_X7_hears T Q x1 x2 x3 = (T 132033 ((((nI 12) * x2) + x3).toNatClampNeg)) := by
          rw [n7_hears_f h]
          rw [if_pos nm0, if_pos nm1, if_pos d0]
        refine i_Gok he rfl hV rfl ?_ ?_
        · rw [hf, hg]
          have hst : f_X5_isStory S P x2 = true := by
            have := c1
            unfold f_X5_isPart at this
            split at this
            · assumption
            · cases this
          obtain ⟨s, rfl, hs, hs2⟩ := k_idxS h hst
          rw [k_mayHear (P' := P) (Q' := Q) (i_thr (x := nI 0) h) c0 (by omega) hs2 x3, decide_eq_true_eq] at d0
          unfold f_X5_placeUpTo
          rw [if_neg d0, i_a_partPlace h, Int32.mul_comm]
        · exact i_thr h
      · skip
        have nm0 : (f_X7_isPerson T Q x1) = true := m0.mpr c0
        have nm1 : (f_X5_isPart S P x2 x3) = true := m1.mpr c1
        have he : e_X6_hears S P x1 x2 x3 = (0) := by
          unfold e_X6_hears
          rw [if_pos c0, if_pos c1]
        have hV : u_X7_hears T Q x1 x2 x3 = (va_up T 110648 (upd (T 110648) 0 (nI 0))) := by
          rw [n7_hears_u h]
          rw [if_pos nm0, if_pos nm1, if_neg d0]
        have hf : f_X6_hears S P x1 x2 x3 = (f_X5_placeUpTo S P x2 x3 (f_X6_levelHeard S P x1 x2)) := by
          unfold f_X6_hears
          rw [if_pos c0, if_pos c1]
        have hg : f_X7_hears T Q x1 x2 x3 = ((-1)) := by
          rw [n7_hears_f h]
          rw [if_pos nm0, if_pos nm1, if_neg d0]
        refine i_Gok he rfl hV rfl ?_ ?_
        · rw [hf, hg]
          have hst : f_X5_isStory S P x2 = true := by
            have := c1
            unfold f_X5_isPart at this
            split at this
            · assumption
            · cases this
          obtain ⟨s, rfl, hs, hs2⟩ := k_idxS h hst
          rw [k_mayHear (P' := P) (Q' := Q) (i_thr (x := nI 0) h) c0 (by omega) hs2 x3, decide_eq_true_eq] at d0
          unfold f_X5_placeUpTo
          rw [if_pos (Classical.not_not.mp d0)]
        · exact i_thr h
    · skip
      have nm0 : (f_X7_isPerson T Q x1) = true := m0.mpr c0
      have nm1 : ¬ ((f_X5_isPart S P x2 x3) = true) := fun q => c1 ((m1.mp q))
      have he : e_X6_hears S P x1 x2 x3 = (1) := by
        unfold e_X6_hears
        rw [if_pos c0, if_neg c1]
      have hV : u_X7_hears T Q x1 x2 x3 = (va_up T 110648 (upd (T 110648) 0 (nI 1))) := by
        rw [n7_hears_u h]
        rw [if_pos nm0, if_neg nm1]
      exact i_Gerr h he hV (by decide) (fun _ _ => rfl)
  · skip
    have nm0 : ¬ ((f_X7_isPerson T Q x1) = true) := fun q => c0 ((m0.mp q))
    have he : e_X6_hears S P x1 x2 x3 = (1) := by
      unfold e_X6_hears
      rw [if_neg c0]
    have hV : u_X7_hears T Q x1 x2 x3 = (va_up T 110648 (upd (T 110648) 0 (nI 1))) := by
      rw [n7_hears_u h]
      rw [if_neg nm0]
    exact i_Gerr h he hV (by decide) (fun _ _ => rfl)
theorem w7_hears (T : z_MI) (Q : z_ML) (x1 x2 x3 : Int32) (q : Nat) (hq : q < 110648) : u_X7_hears T Q x1 x2 x3 q = T q := by
  unfold u_X7_hears
  (repeat' split) <;> first | rfl | simp (disch := omega) only [va_up_ne]
theorem o_hears {S : z_MI} {P : z_ML} (h0 : i_I S P) (x1 x2 x3 : Int32) : F_hears S P x1 x2 x3 i_I :=
  i_FO h0 (fun q hq => rfl) (fun T Q q hq => w7_hears T Q x1 x2 x3 q hq) (fun T Q h => ok_hears (T := T) (Q := Q) h x1 x2 x3) (by rcases w_L_hears_e S P x1 x2 x3 with e | e <;> rw [e] <;> decide)
theorem k_orA (a b c : Int32) : a ||| b ||| c = a ||| (b ||| c) := b_ext fun i hi => by rw [b_or, b_or, b_or, b_or, Bool.or_assoc]
theorem k_told {S T : z_MI} {P Q P' Q' : z_ML} (h : i_2 S T P Q) {p : Int32} (hp : f_X2_isPerson S P' p = true) : z_fo (fun k26 a26 => l_X7_told_26 T Q' p k26 a26) (nI 0) ((nI 12) * (T 110648 11)).toNatClampNeg = z_fo (fun k25 a25 => l_X6_told_25 S P' p k25 a25) (nI 0) (S 6184 4).toNatClampNeg := by
  obtain ⟨n, hn, hn2⟩ := z_J_stories (i_J h)
  have hT := i_thr (x := nI 0) h
  have key : ∀ s, s ≤ n → z_fo (fun k26 a26 => l_X7_told_26 T Q' p k26 a26) (nI 0) (12 * s) = z_fo (fun k25 a25 => l_X6_told_25 S P' p k25 a25) (nI 0) s := by
    intro s
    induction s with
    | zero => intro _; rfl
    | succ s ih =>
      intro hs
      have ih := ih (by omega)
      obtain ⟨m, hm, hm2⟩ : z_le (S 34897 (nI s).toNatClampNeg) 12 := z_J_parts (i_J h) _
      have hs2 : (s : Int) < (S 6184 4).toInt := by rw [hn2, nI_toInt (by omega)]; omega
      have inner : ∀ j, j ≤ 12 → z_fo (fun k26 a26 => l_X7_told_26 T Q' p k26 a26) (nI 0) (12 * s + j) = z_fo (fun k25 a25 => l_X6_told_25 S P' p k25 a25) (nI 0) s ||| z_fo (fun k5 a5 => l_X5_placesUpTo_5 S P' (nI s) (f_X6_levelHeard S P' p (nI s)) k5 a5) (nI 0) (min j m) := by
        intro j
        induction j with
        | zero =>
          intro _
          rw [Nat.zero_min]
          show _ = _ ||| nI 0
          rw [j_or0]
          exact ih
        | succ j ihj =>
          intro hj
          have ihj := ihj (by omega)
          show l_X7_told_26 T Q' p (12 * s + j) (z_fo (fun k26 a26 => l_X7_told_26 T Q' p k26 a26) (nI 0) (12 * s + j)) = _
          rw [ihj]
          obtain ⟨d1, d2⟩ := z_div12 (k := 12 * s + j) (by omega)
          have e1 : (12 * s + j) / 12 = s := by omega
          have e2 : (12 * s + j) % 12 = j := by omega
          unfold l_X7_told_26
          rw [d2, d1, e1, e2, i_a_parts h, hm2, k_mayHear (P' := P') (Q' := Q') hT hp (by omega) hs2, i_a_partPlace h, j_or0, pk_mul, nI_add, k_nI (show 12 * s + j < 2 ^ 31 by omega), k_nI (show s * 12 + j < 2 ^ 31 by omega)]
          have e3 : s * 12 + j = 12 * s + j := by omega
          rw [e3]
          by_cases q : m ≤ j
          · rw [if_pos ((nI_leI (by omega) (by omega)).mpr q), show min (j + 1) m = min j m from by omega]
          · rw [if_neg (fun z => q ((nI_leI (by omega) (by omega)).mp z)), show min (j + 1) m = j + 1 from by omega, show min j m = j from by omega]
            show _ = _ ||| l_X5_placesUpTo_5 S P' (nI s) (f_X6_levelHeard S P' p (nI s)) j (z_fo (fun k5 a5 => l_X5_placesUpTo_5 S P' (nI s) (f_X6_levelHeard S P' p (nI s)) k5 a5) (nI 0) j)
            generalize z_fo (fun k5 a5 => l_X5_placesUpTo_5 S P' (nI s) (f_X6_levelHeard S P' p (nI s)) k5 a5) (nI 0) j = acc
            unfold l_X5_placesUpTo_5 f_X5_placeUpTo
            rw [pk_mul, nI_add, k_nI (show s * 12 + j < 2 ^ 31 by omega), e3, j_w1]
            obtain ⟨w, hw, hw2⟩ := vp_in_of (i_b_stories_place h (12 * s + j)) (by decide)
            rw [hw2]
            have hne : ¬ nI w = (-1 : Int32) := fun q => by
              have h1 : (nI w).toInt = (-1 : Int32).toInt := by rw [q]
              rw [nI_toInt (by omega), show (-1 : Int32).toInt = -1 from by decide] at h1
              omega
            by_cases g : f_X6_levelHeard S P' p (nI s) < S 39873 (12 * s + j)
            · rw [if_neg (show ¬ (decide (¬ f_X6_levelHeard S P' p (nI s) < S 39873 (12 * s + j)) = true) by simp [g]), if_pos g, if_pos rfl]
            · rw [if_pos (show decide (¬ f_X6_levelHeard S P' p (nI s) < S 39873 (12 * s + j)) = true by simp only [g, not_false_eq_true, decide_true]), if_neg g, if_neg hne, k_orA]
      have h12 := inner 12 (Nat.le_refl _)
      rw [show 12 * (s + 1) = 12 * s + 12 from by omega, h12, show min 12 m = m from by omega]
      show _ = l_X6_told_25 S P' p s _
      unfold l_X6_told_25 f_X5_placesUpTo
      rw [hm2, k_nI (show m < 2 ^ 31 by omega)]
  rw [i_c_stories h, hn2, pk_mul, k_nI (by omega), k_nI (by omega)]
  exact key n (Nat.le_refl _)
theorem ok_told {S T : z_MI} {P Q : z_ML} (h : i_2 S T P Q) (x1 : Int32) : i_G 1 0 0 (e_X6_told S P x1) S (S) P Q (u_X7_told T Q x1) ((f_X6_told S P x1).toInt64) ((f_X7_told T Q x1).toInt64) := by
  have m0 : ((f_X7_isPerson T Q x1) = true) ↔ (((f_X2_isPerson S P x1) = true)) := by rw [k_isPerson (P' := P) h]
  by_cases c0 : (f_X2_isPerson S P x1) = true
  · skip
    have nm0 : (f_X7_isPerson T Q x1) = true := m0.mpr c0
    have he : e_X6_told S P x1 = (0) := by
      unfold e_X6_told
      rw [if_pos c0]
    have hV : u_X7_told T Q x1 = (va_up T 110648 (upd (T 110648) 0 (nI 0))) := by
      unfold u_X7_told
      rw [if_pos nm0]
    have hf : f_X6_told S P x1 = ((z_fo (fun k25 a25 => l_X6_told_25 S P x1 k25 a25) (nI 0) (S 6184 4).toNatClampNeg)) := by
      unfold f_X6_told
      rw [if_pos c0]
    have hg : f_X7_told T Q x1 = ((z_fo (fun k26 a26 => l_X7_told_26 T Q x1 k26 a26) (nI 0) ((nI 12) * (T 110648 11)).toNatClampNeg)) := by
      unfold f_X7_told
      rw [if_pos nm0]
    refine i_Gok he rfl hV rfl ?_ ?_
    · rw [hf, hg]
      rw [k_told h c0]
    · exact i_thr h
  · skip
    have nm0 : ¬ ((f_X7_isPerson T Q x1) = true) := fun q => c0 ((m0.mp q))
    have he : e_X6_told S P x1 = (1) := by
      unfold e_X6_told
      rw [if_neg c0]
    have hV : u_X7_told T Q x1 = (va_up T 110648 (upd (T 110648) 0 (nI 1))) := by
      unfold u_X7_told
      rw [if_neg nm0]
    exact i_Gerr h he hV (by decide) (fun _ _ => rfl)
theorem w7_told (T : z_MI) (Q : z_ML) (x1 : Int32) (q : Nat) (hq : q < 110648) : u_X7_told T Q x1 q = T q := by
  unfold u_X7_told
  (repeat' split) <;> first | rfl | simp (disch := omega) only [va_up_ne]
theorem o_told {S : z_MI} {P : z_ML} (h0 : i_I S P) (x1 : Int32) : F_told S P x1 i_I :=
  i_FO h0 (fun q hq => rfl) (fun T Q q hq => w7_told T Q x1 q hq) (fun T Q h => ok_told (T := T) (Q := Q) h x1) (by rcases w_L_told_e S P x1 with e | e <;> rw [e] <;> decide)
theorem ok_pass {S T : z_MI} {P Q : z_ML} (h : i_2 S T P Q) (x1 : Int32) : i_G 0 1 2 (e_X6_pass S P x1) S (u_X6_pass S P x1) P Q (u_X7_pass T Q x1) ((f_X6_pass S P x1).toInt64) ((f_X7_pass T Q x1).toInt64) := by
  have m0 : ((f_X7_in T Q x1 (nI 1) (nI 600)) = true) ↔ ((¬ (x1 < (nI 1))) ∧ (x1 ≤ (nI 600))) := by exact k_in1
  have m1 : (((T 110648 1) + x1) ≤ (nI 5000)) ↔ ((((S 2096 8) + x1) ≤ (nI 5000))) := by rw [i_c_now h]
  by_cases c0 : x1 < (nI 1)
  · skip
    have nm0 : ¬ ((f_X7_in T Q x1 (nI 1) (nI 600)) = true) := fun q => ((m0.mp q).1) c0
    have he : e_X6_pass S P x1 = (2) := by
      unfold e_X6_pass
      rw [if_pos c0]
    have hV : u_X7_pass T Q x1 = (va_up T 110648 (upd (T 110648) 0 (nI 1))) := by
      unfold u_X7_pass
      rw [if_neg nm0]
    exact i_Gerr h he hV (by decide) (fun _ _ => rfl)
  · skip
    by_cases c1 : x1 ≤ (nI 600)
    · skip
      by_cases c2 : ((S 2096 8) + x1) ≤ (nI 5000)
      · skip
        have nm0 : (f_X7_in T Q x1 (nI 1) (nI 600)) = true := m0.mpr ⟨c0, c1⟩
        have nm1 : ((T 110648 1) + x1) ≤ (nI 5000) := m1.mpr c2
        have he : e_X6_pass S P x1 = (0) := by
          unfold e_X6_pass
          rw [if_neg c0, if_pos c1, if_pos c2]
        have hV : u_X7_pass T Q x1 = (va_up (va_up T 110648 (upd (T 110648) 0 (nI 0))) 110648 (upd ((va_up T 110648 (upd (T 110648) 0 (nI 0))) 110648) 1 ((T 110648 1) + x1))) := by
          unfold u_X7_pass
          rw [if_pos nm0, if_pos nm1]
        have hU : u_X6_pass S P x1 = (va_up S 2096 (upd (S 2096) 8 ((S 2096 8) + x1))) := by
          unfold u_X6_pass
          rw [if_neg c0, if_pos c1, if_pos c2]
        have hf : f_X6_pass S P x1 = ((upd (S 2096) 8 ((S 2096 8) + x1)) 8) := by
          unfold f_X6_pass
          rw [if_neg c0, if_pos c1, if_pos c2]
        have hg : f_X7_pass T Q x1 = ((T 110648 1) + x1) := by
          unfold f_X7_pass
          rw [if_pos nm0, if_pos nm1]
        refine i_Gok he hU hV rfl ?_ ?_
        · rw [hf, hg]
          show ((upd (S 2096) 8 ((S 2096 8) + x1)) 8).toInt64 = _
          rw [pk_us, i_c_now h]
        · obtain ⟨g1, g2, g3, g4, g5, g6, g7⟩ := i_thr (x := nI 0) h
          obtain ⟨n, hn, hn2⟩ : z_le (S 2096 8) 5000 := z_J_now (i_J h)
          have z1 : (nI 1).toInt = 1 := nI_toInt (by decide)
          have z600 : (nI 600).toInt = 600 := nI_toInt (by decide)
          have b0 : ¬ x1.toInt < 1 := fun q => c0 (by rw [Int32.lt_iff_toInt_lt, z1]; exact q)
          have b1 : x1.toInt ≤ 600 := by rw [Int32.le_iff_toInt_le, z600] at c1; exact c1
          have hs : (S 2096 8 + x1).toInt = (S 2096 8).toInt + x1.toInt := fb_addI (by rw [hn2, nI_toInt (by omega)]; omega) (by rw [hn2, nI_toInt (by omega)]; omega)
          have hz : z_le (S 2096 8 + x1) 5000 := k_zleR (by rw [Int32.lt_iff_toInt_lt, hs, hn2, nI_toInt (by omega), show (0 : Int32).toInt = 0 from by decide]; omega) c2 (by decide)
          refine ⟨i_A_l (i_A_r g1 (by decide)) (by decide), i_C_pair g2 (by decide) (by rw [i_c_now h]), i_B_fr g3 (by decide), i_N_up g4 (i_nl_bench_now hz), i_T_now g5 (by rw [hs]; omega), ?_, g7⟩
          obtain ⟨m1, m2, m3⟩ := g6
          refine ⟨m1, m2, fun q hq => ?_⟩
          have e : (va_up S 2096 (upd (S 2096) 8 (S 2096 8 + x1)) 2096 8) = S 2096 8 + x1 := by rw [va_up_self, pk_us]
          rw [e, hs]
          have := m3 q hq
          omega
      · skip
        have nm0 : (f_X7_in T Q x1 (nI 1) (nI 600)) = true := m0.mpr ⟨c0, c1⟩
        have nm1 : ¬ (((T 110648 1) + x1) ≤ (nI 5000)) := fun q => c2 ((m1.mp q))
        have he : e_X6_pass S P x1 = (3) := by
          unfold e_X6_pass
          rw [if_neg c0, if_pos c1, if_neg c2]
        have hV : u_X7_pass T Q x1 = (va_up T 110648 (upd (T 110648) 0 (nI 2))) := by
          unfold u_X7_pass
          rw [if_pos nm0, if_neg nm1]
        exact i_Gerr h he hV (by decide) (fun _ _ => rfl)
    · skip
      have nm0 : ¬ ((f_X7_in T Q x1 (nI 1) (nI 600)) = true) := fun q => c1 ((m0.mp q).2)
      have he : e_X6_pass S P x1 = (2) := by
        unfold e_X6_pass
        rw [if_neg c0, if_neg c1]
      have hV : u_X7_pass T Q x1 = (va_up T 110648 (upd (T 110648) 0 (nI 1))) := by
        unfold u_X7_pass
        rw [if_neg nm0]
      exact i_Gerr h he hV (by decide) (fun _ _ => rfl)
theorem w6_pass (S : z_MI) (P : z_ML) (x1 : Int32) (q : Nat) (hq : 110648 ≤ q) : u_X6_pass S P x1 q = S q := by
  unfold u_X6_pass
  (repeat' split) <;> first | rfl | (simp (disch := omega) only [va_up_ne])
theorem w7_pass (T : z_MI) (Q : z_ML) (x1 : Int32) (q : Nat) (hq : q < 110648) : u_X7_pass T Q x1 q = T q := by
  unfold u_X7_pass
  (repeat' split) <;> first | rfl | simp (disch := omega) only [va_up_ne]
theorem o_pass {S : z_MI} {P : z_ML} (h0 : i_I S P) (x1 : Int32) : F_pass S P x1 i_I :=
  i_FO h0 (w6_pass S P x1) (fun T Q q hq => w7_pass T Q x1 q hq) (fun T Q h => ok_pass (T := T) (Q := Q) h x1) (by rcases w_L_pass_e S P x1 with e | e | e <;> rw [e] <;> decide)
theorem s_same {S T : z_MI} {P Q : z_ML} {a k : Nat} {x : Int32} (h : i_2 S T P Q) (hx : S a k = x) : i_2 (va_up S a (upd (S a) k x)) T P Q := by
  rw [i_same hx]
  exact h
theorem s_add {S T : z_MI} {P Q : z_ML} (P' Q' : z_ML) (h : i_2 S T P Q) {m p r d l : Int32} (h0 : 0 ≤ m.toInt) (h1 : m.toInt ≤ (S 2096 8).toInt) (hr : z_le r 31) (hc : S 10240 8 < nI 40) : i_2 (u_X0_add S P' m p r d l) (u_X7_adds T Q' m p r d l) P Q := by
  unfold u_X0_add u_X7_adds
  have hz : z_le (S 10240 8) 40 := z_J_acts (i_J h)
  have hk : (S 10240 8).toNatClampNeg = (T 110648 24).toNatClampNeg := by rw [i_c_acts h]
  have g1 := s_pair (a := 55617) (b := 149825) (x := m) (x' := m) h (by decide) hk rfl (i_bl_no (by decide)) (i_T_acm h.2.2.2.2.1 h0 h1)
  have g2 := s_pair (a := 57665) (b := 151873) (x := p) (x' := p) g1 (by decide) hk rfl (i_bl_no (by decide)) (i_T_pair g1.2.2.2.2.1 (by decide))
  have g3 := s_pair (a := 59713) (b := 153921) (x := r) (x' := r) g2 (by decide) hk rfl (i_bl_acts_rights hr) (i_T_pair g2.2.2.2.2.1 (by decide))
  have g4 := s_pair (a := 61761) (b := 155969) (x := d) (x' := d) g3 (by decide) hk rfl (i_bl_no (by decide)) (i_T_pair g3.2.2.2.2.1 (by decide))
  have g5 := s_pair (a := 63809) (b := 158017) (x := l) (x' := l) g4 (by decide) hk rfl (i_bl_no (by decide)) (i_T_pair g4.2.2.2.2.1 (by decide))
  have g6 := s_pair (a := 65857) (b := 162113) (x := -1) (x' := -1) g5 (by decide) hk rfl (i_bl_no (by decide)) (i_T_pair g5.2.2.2.2.1 (by decide))
  exact s_cnt g6 (by decide) (by decide) (by decide) (by rw [i_c_acts h]) (i_nl_acts_count (k_zle hz (by decide) hc)) (i_T_pair g6.2.2.2.2.1 (by decide))
theorem k_ge0 {x : Int32} (h : ¬ x < 0) : 0 ≤ x.toInt := by
  rw [Int32.lt_iff_toInt_lt, show (0 : Int32).toInt = 0 from by decide] at h
  omega
theorem ok_act {S T : z_MI} {P Q : z_ML} (h : i_2 S T P Q) (x1 x2 x3 x4 x5 : Int32) : i_G 0 1 2 (e_X6_act S P x1 x2 x3 x4 x5) S (u_X6_act S P x1 x2 x3 x4 x5) P Q (u_X7_act T Q x1 x2 x3 x4 x5) ((f_X6_act S P x1 x2 x3 x4 x5).toInt64) ((f_X7_act T Q x1 x2 x3 x4 x5).toInt64) := by
  have m0 : ((f_X7_in T Q x1 (nI 0) (T 110648 1)) = true) ↔ ((¬ (x1 < 0)) ∧ (¬ ((S 2096 8) < x1))) := by rw [i_c_now h]; exact k_in2z
  have m1 : ((f_X7_isWhat T Q x2 x3 x4 x5 x1) = true) ↔ (((f_X6_isDeed S P x2 x3 x4) = true) ∧ ((f_X6_isLast S P x5 x4 x1) = true)) := by rw [k_isWhat S T P Q, Bool.and_eq_true]
  have m2 : ((T 110648 24) = (nI 40)) ↔ ((¬ ((S 10240 8) < (nI 40)))) := by rw [i_c_acts h]; exact k_full (z_J_acts (i_J h)) (by decide)
  by_cases c0 : x1 < 0
  · skip
    have nm0 : ¬ ((f_X7_in T Q x1 (nI 0) (T 110648 1)) = true) := fun q => ((m0.mp q).1) c0
    have he : e_X6_act S P x1 x2 x3 x4 x5 = (2) := by
      unfold e_X6_act
      rw [if_pos c0]
    have hV : u_X7_act T Q x1 x2 x3 x4 x5 = (va_up T 110648 (upd (T 110648) 0 (nI 1))) := by
      unfold u_X7_act
      rw [if_neg nm0]
    exact i_Gerr h he hV (by decide) (fun _ _ => rfl)
  · skip
    by_cases c1 : (S 2096 8) < x1
    · skip
      have nm0 : ¬ ((f_X7_in T Q x1 (nI 0) (T 110648 1)) = true) := fun q => ((m0.mp q).2) c1
      have he : e_X6_act S P x1 x2 x3 x4 x5 = (2) := by
        unfold e_X6_act
        rw [if_neg c0, if_pos c1]
      have hV : u_X7_act T Q x1 x2 x3 x4 x5 = (va_up T 110648 (upd (T 110648) 0 (nI 1))) := by
        unfold u_X7_act
        rw [if_neg nm0]
      exact i_Gerr h he hV (by decide) (fun _ _ => rfl)
    · skip
      by_cases c2 : (f_X6_isDeed S P x2 x3 x4) = true
      · skip
        by_cases c3 : (f_X6_isLast S P x5 x4 x1) = true
        · skip
          by_cases c4 : (S 10240 8) < (nI 40)
          · skip
            have nm0 : (f_X7_in T Q x1 (nI 0) (T 110648 1)) = true := m0.mpr ⟨c0, c1⟩
            have nm1 : (f_X7_isWhat T Q x2 x3 x4 x5 x1) = true := m1.mpr ⟨c2, c3⟩
            have nm2 : ¬ ((T 110648 24) = (nI 40)) := fun q => ((m2.mp q)) c4
            have he : e_X6_act S P x1 x2 x3 x4 x5 = (0) := by
              unfold e_X6_act
              rw [if_neg c0, if_neg c1, if_pos c2, if_pos c3, if_pos c4]
            have hV : u_X7_act T Q x1 x2 x3 x4 x5 = (u_X7_adds (va_up T 110648 (upd (T 110648) 0 (nI 0))) Q x1 x2 x3 x4 x5) := by
              unfold u_X7_act
              rw [if_pos nm0, if_pos nm1, if_neg nm2]
            have hU : u_X6_act S P x1 x2 x3 x4 x5 = (u_X0_add S P x1 x2 x3 x4 x5) := by
              unfold u_X6_act
              rw [if_neg c0, if_neg c1, if_pos c2, if_pos c3, if_pos c4]
            have hf : f_X6_act S P x1 x2 x3 x4 x5 = (f_X0_add S P x1 x2 x3 x4 x5) := by
              unfold f_X6_act
              rw [if_neg c0, if_neg c1, if_pos c2, if_pos c3, if_pos c4]
            have hg : f_X7_act T Q x1 x2 x3 x4 x5 = (f_X7_adds (va_up T 110648 (upd (T 110648) 0 (nI 0))) Q x1 x2 x3 x4 x5) := by
              unfold f_X7_act
              rw [if_pos nm0, if_pos nm1, if_neg nm2]
            refine i_Gok he hU hV rfl ?_ ?_
            · rw [hf, hg]
              show (S 10240 8).toInt64 = (((T 110648 24) + (nI 1)) - (nI 1)).toInt64
              rw [i_c_acts h, Int32.add_sub_cancel]
            · exact s_add P Q (i_thr (x := nI 0) h) (k_ge0 c0) (by rw [Int32.lt_iff_toInt_lt] at c1; omega) (k_deedR c2) c4
          · skip
            have nm0 : (f_X7_in T Q x1 (nI 0) (T 110648 1)) = true := m0.mpr ⟨c0, c1⟩
            have nm1 : (f_X7_isWhat T Q x2 x3 x4 x5 x1) = true := m1.mpr ⟨c2, c3⟩
            have nm2 : (T 110648 24) = (nI 40) := m2.mpr c4
            have he : e_X6_act S P x1 x2 x3 x4 x5 = (3) := by
              unfold e_X6_act
              rw [if_neg c0, if_neg c1, if_pos c2, if_pos c3, if_neg c4]
            have hV : u_X7_act T Q x1 x2 x3 x4 x5 = (va_up T 110648 (upd (T 110648) 0 (nI 2))) := by
              unfold u_X7_act
              rw [if_pos nm0, if_pos nm1, if_pos nm2]
            exact i_Gerr h he hV (by decide) (fun _ _ => rfl)
        · skip
          have nm0 : (f_X7_in T Q x1 (nI 0) (T 110648 1)) = true := m0.mpr ⟨c0, c1⟩
          have nm1 : ¬ ((f_X7_isWhat T Q x2 x3 x4 x5 x1) = true) := fun q => c3 ((m1.mp q).2)
          have he : e_X6_act S P x1 x2 x3 x4 x5 = (2) := by
            unfold e_X6_act
            rw [if_neg c0, if_neg c1, if_pos c2, if_neg c3]
          have hV : u_X7_act T Q x1 x2 x3 x4 x5 = (va_up T 110648 (upd (T 110648) 0 (nI 1))) := by
            unfold u_X7_act
            rw [if_pos nm0, if_neg nm1]
          exact i_Gerr h he hV (by decide) (fun _ _ => rfl)
      · skip
        have nm0 : (f_X7_in T Q x1 (nI 0) (T 110648 1)) = true := m0.mpr ⟨c0, c1⟩
        have nm1 : ¬ ((f_X7_isWhat T Q x2 x3 x4 x5 x1) = true) := fun q => c2 ((m1.mp q).1)
        have he : e_X6_act S P x1 x2 x3 x4 x5 = (2) := by
          unfold e_X6_act
          rw [if_neg c0, if_neg c1, if_neg c2]
        have hV : u_X7_act T Q x1 x2 x3 x4 x5 = (va_up T 110648 (upd (T 110648) 0 (nI 1))) := by
          unfold u_X7_act
          rw [if_pos nm0, if_neg nm1]
        exact i_Gerr h he hV (by decide) (fun _ _ => rfl)
theorem w6_act (S : z_MI) (P : z_ML) (x1 x2 x3 x4 x5 : Int32) (q : Nat) (hq : 110648 ≤ q) : u_X6_act S P x1 x2 x3 x4 x5 q = S q := by
  unfold u_X6_act
  (repeat' split) <;> first | rfl | (try unfold u_X0_add; simp (disch := omega) only [va_up_ne])
theorem w7_act (T : z_MI) (Q : z_ML) (x1 x2 x3 x4 x5 : Int32) (q : Nat) (hq : q < 110648) : u_X7_act T Q x1 x2 x3 x4 x5 q = T q := by
  unfold u_X7_act
  (repeat' split) <;> first | rfl | simp (disch := omega) only [va_up_ne] | (unfold u_X7_adds; simp (disch := omega) only [va_up_ne]) | (unfold u_X7_adds; split <;> simp (disch := omega) only [va_up_ne])
theorem o_act {S : z_MI} {P : z_ML} (h0 : i_I S P) (x1 x2 x3 x4 x5 : Int32) : F_act S P x1 x2 x3 x4 x5 i_I :=
  i_FO h0 (w6_act S P x1 x2 x3 x4 x5) (fun T Q q hq => w7_act T Q x1 x2 x3 x4 x5 q hq) (fun T Q h => ok_act (T := T) (Q := Q) h x1 x2 x3 x4 x5) (by rcases w_L_act_e S P x1 x2 x3 x4 x5 with e | e | e <;> rw [e] <;> decide)
theorem ok_claim {S T : z_MI} {P Q : z_ML} (h : i_2 S T P Q) (x1 x2 x3 : Int32) : i_G 1 2 3 (e_X6_claim S P x1 x2 x3) S (u_X6_claim S P x1 x2 x3) P Q (u_X7_claim T Q x1 x2 x3) ((f_X6_claim S P x1 x2 x3).toInt64) ((f_X7_claim T Q x1 x2 x3).toInt64) := by
  have m0 : ((f_X7_in T Q x2 (nI 1) (nI 65535)) = true) ↔ (((f_X6_isSomePlaces S P x2) = true)) := Iff.rfl
  have m1 : ((f_X7_in T Q x3 (nI 1) (nI 31)) = true) ↔ (((f_X6_isSomeRights S P x3) = true)) := Iff.rfl
  have m2 : ((f_X7_isPeople T Q x1) = true) ↔ (((f_X2_isPeople S P x1) = true)) := by rw [k_isPeople (P' := P) h]
  have m3 : ((T 110648 33) = (nI 12)) ↔ ((¬ ((S 12296 8) < (nI 12)))) := by rw [i_c_claims h]; exact k_full (z_J_claims (i_J h)) (by decide)
  by_cases c0 : (f_X2_isPeople S P x1) = true
  · skip
    by_cases c1 : (f_X6_isSomePlaces S P x2) = true
    · skip
      by_cases c2 : (f_X6_isSomeRights S P x3) = true
      · skip
        by_cases c3 : (S 12296 8) < (nI 12)
        · skip
          have nm0 : (f_X7_in T Q x2 (nI 1) (nI 65535)) = true := m0.mpr c1
          have nm1 : (f_X7_in T Q x3 (nI 1) (nI 31)) = true := m1.mpr c2
          have nm2 : (f_X7_isPeople T Q x1) = true := m2.mpr c0
          have nm3 : ¬ ((T 110648 33) = (nI 12)) := fun q => ((m3.mp q)) c3
          have he : e_X6_claim S P x1 x2 x3 = (0) := by
            unfold e_X6_claim
            rw [if_pos c0, if_pos c1, if_pos c2, if_pos c3]
          have hV : u_X7_claim T Q x1 x2 x3 = (va_up (va_up (va_up (va_up (va_up (va_up T 110648 (upd (T 110648) 0 (nI 0))) 165985 (upd ((va_up T 110648 (upd (T 110648) 0 (nI 0))) 165985) ((T 110648 33).toNatClampNeg) x1)) 168033 (upd ((va_up (va_up T 110648 (upd (T 110648) 0 (nI 0))) 165985 (upd ((va_up T 110648 (upd (T 110648) 0 (nI 0))) 165985) ((T 110648 33).toNatClampNeg) x1)) 168033) ((T 110648 33).toNatClampNeg) x2)) 170081 (upd ((va_up (va_up (va_up T 110648 (upd (T 110648) 0 (nI 0))) 165985 (upd ((va_up T 110648 (upd (T 110648) 0 (nI 0))) 165985) ((T 110648 33).toNatClampNeg) x1)) 168033 (upd ((va_up (va_up T 110648 (upd (T 110648) 0 (nI 0))) 165985 (upd ((va_up T 110648 (upd (T 110648) 0 (nI 0))) 165985) ((T 110648 33).toNatClampNeg) x1)) 168033) ((T 110648 33).toNatClampNeg) x2)) 170081) ((T 110648 33).toNatClampNeg) x3)) 176225 (upd ((va_up (va_up (va_up (va_up T 110648 (upd (T 110648) 0 (nI 0))) 165985 (upd ((va_up T 110648 (upd (T 110648) 0 (nI 0))) 165985) ((T 110648 33).toNatClampNeg) x1)) 168033 (upd ((va_up (va_up T 110648 (upd (T 110648) 0 (nI 0))) 165985 (upd ((va_up T 110648 (upd (T 110648) 0 (nI 0))) 165985) ((T 110648 33).toNatClampNeg) x1)) 168033) ((T 110648 33).toNatClampNeg) x2)) 170081 (upd ((va_up (va_up (va_up T 110648 (upd (T 110648) 0 (nI 0))) 165985 (upd ((va_up T 110648 (upd (T 110648) 0 (nI 0))) 165985) ((T 110648 33).toNatClampNeg) x1)) 168033 (upd ((va_up (va_up T 110648 (upd (T 110648) 0 (nI 0))) 165985 (upd ((va_up T 110648 (upd (T 110648) 0 (nI 0))) 165985) ((T 110648 33).toNatClampNeg) x1)) 168033) ((T 110648 33).toNatClampNeg) x2)) 170081) ((T 110648 33).toNatClampNeg) x3)) 176225) ((T 110648 33).toNatClampNeg) (-1))) 110648 (upd ((va_up (va_up (va_up (va_up (va_up T 110648 (upd (T 110648) 0 (nI 0))) 165985 (upd ((va_up T 110648 (upd (T 110648) 0 (nI 0))) 165985) ((T 110648 33).toNatClampNeg) x1)) 168033 (upd ((va_up (va_up T 110648 (upd (T 110648) 0 (nI 0))) 165985 (upd ((va_up T 110648 (upd (T 110648) 0 (nI 0))) 165985) ((T 110648 33).toNatClampNeg) x1)) 168033) ((T 110648 33).toNatClampNeg) x2)) 170081 (upd ((va_up (va_up (va_up T 110648 (upd (T 110648) 0 (nI 0))) 165985 (upd ((va_up T 110648 (upd (T 110648) 0 (nI 0))) 165985) ((T 110648 33).toNatClampNeg) x1)) 168033 (upd ((va_up (va_up T 110648 (upd (T 110648) 0 (nI 0))) 165985 (upd ((va_up T 110648 (upd (T 110648) 0 (nI 0))) 165985) ((T 110648 33).toNatClampNeg) x1)) 168033) ((T 110648 33).toNatClampNeg) x2)) 170081) ((T 110648 33).toNatClampNeg) x3)) 176225 (upd ((va_up (va_up (va_up (va_up T 110648 (upd (T 110648) 0 (nI 0))) 165985 (upd ((va_up T 110648 (upd (T 110648) 0 (nI 0))) 165985) ((T 110648 33).toNatClampNeg) x1)) 168033 (upd ((va_up (va_up T 110648 (upd (T 110648) 0 (nI 0))) 165985 (upd ((va_up T 110648 (upd (T 110648) 0 (nI 0))) 165985) ((T 110648 33).toNatClampNeg) x1)) 168033) ((T 110648 33).toNatClampNeg) x2)) 170081 (upd ((va_up (va_up (va_up T 110648 (upd (T 110648) 0 (nI 0))) 165985 (upd ((va_up T 110648 (upd (T 110648) 0 (nI 0))) 165985) ((T 110648 33).toNatClampNeg) x1)) 168033 (upd ((va_up (va_up T 110648 (upd (T 110648) 0 (nI 0))) 165985 (upd ((va_up T 110648 (upd (T 110648) 0 (nI 0))) 165985) ((T 110648 33).toNatClampNeg) x1)) 168033) ((T 110648 33).toNatClampNeg) x2)) 170081) ((T 110648 33).toNatClampNeg) x3)) 176225) ((T 110648 33).toNatClampNeg) (-1))) 110648) 33 ((T 110648 33) + (nI 1)))) := by
            unfold u_X7_claim
            rw [if_pos nm0, if_pos nm1, if_pos nm2, if_neg nm3]
          have hU : u_X6_claim S P x1 x2 x3 = (u_X1_add S P x1 x2 x3) := by
            unfold u_X6_claim
            rw [if_pos c0, if_pos c1, if_pos c2, if_pos c3]
          have hf : f_X6_claim S P x1 x2 x3 = (f_X1_add S P x1 x2 x3) := by
            unfold f_X6_claim
            rw [if_pos c0, if_pos c1, if_pos c2, if_pos c3]
          have hg : f_X7_claim T Q x1 x2 x3 = (((T 110648 33) + (nI 1)) - (nI 1)) := by
            unfold f_X7_claim
            rw [if_pos nm0, if_pos nm1, if_pos nm2, if_neg nm3]
          refine i_Gok he hU hV rfl ?_ ?_
          · rw [hf, hg]
            show (S 12296 8).toInt64 = _
            rw [i_c_claims h, Int32.add_sub_cancel]
          · unfold u_X1_add
            have hJ := i_J h
            have hz : z_le (S 12296 8) 12 := z_J_claims hJ
            have hk : (S 12296 8).toNatClampNeg = (T 110648 33).toNatClampNeg := by rw [i_c_claims h]
            have hi := k_clI hz (by decide)
            obtain ⟨j, hj, hj2, hj3⟩ := k_idxP h c0
            have h1 := i_thr (x := nI 0) h
            have h2 := s_pair (a := 71777) (b := 165985) (x := x1) (x' := x1) h1 (by decide) hk rfl (i_bl_claims_people (t_isPeople hJ c0)) (i_T_clp h.2.2.2.2.1 (by omega))
            have h3 := s_pair (a := 73825) (b := 168033) (x := x2) (x' := x2) h2 (by decide) hk rfl (i_bl_no (by decide)) (i_T_pair h2.2.2.2.2.1 (by decide))
            have h4 := s_pair (a := 75873) (b := 170081) (x := x3) (x' := x3) h3 (by decide) hk rfl (i_bl_no (by decide)) (i_T_pair h3.2.2.2.2.1 (by decide))
            have hst : S 77921 (S 12296 8).toNatClampNeg = nI 0 := by
              rw [nI_0]
              exact h.2.2.2.2.1.2.1 _ (by omega)
            have h5 := s_same (a := 77921) (k := (S 12296 8).toNatClampNeg) (x := nI 0) h4 hst
            have h6 := s_pair (a := 82017) (b := 176225) (x := -1) (x' := -1) h5 (by decide) hk rfl (i_bl_no (by decide)) (i_T_pair h5.2.2.2.2.1 (by decide))
            exact s_cnt h6 (by decide) (by decide) (by decide) (by rw [i_c_claims h]) (i_nl_claims_count (k_zle hz (by decide) c3)) (i_T_clc h6.2.2.2.2.1 rfl hz c3 (by
              show (upd (S 71777) (S 12296 8).toNatClampNeg x1 (S 12296 8).toNatClampNeg).toInt < (S 4112 6).toInt
              rw [pk_us, hj, nI_toInt (by omega)]
              exact hj3))
        · skip
          have nm0 : (f_X7_in T Q x2 (nI 1) (nI 65535)) = true := m0.mpr c1
          have nm1 : (f_X7_in T Q x3 (nI 1) (nI 31)) = true := m1.mpr c2
          have nm2 : (f_X7_isPeople T Q x1) = true := m2.mpr c0
          have nm3 : (T 110648 33) = (nI 12) := m3.mpr c3
          have he : e_X6_claim S P x1 x2 x3 = (3) := by
            unfold e_X6_claim
            rw [if_pos c0, if_pos c1, if_pos c2, if_neg c3]
          have hV : u_X7_claim T Q x1 x2 x3 = (va_up T 110648 (upd (T 110648) 0 (nI 3))) := by
            unfold u_X7_claim
            rw [if_pos nm0, if_pos nm1, if_pos nm2, if_pos nm3]
          exact i_Gerr h he hV (by decide) (fun _ _ => rfl)
      · skip
        have nm0 : (f_X7_in T Q x2 (nI 1) (nI 65535)) = true := m0.mpr c1
        have nm1 : ¬ ((f_X7_in T Q x3 (nI 1) (nI 31)) = true) := fun q => c2 ((m1.mp q))
        have nm2 : (f_X7_isPeople T Q x1) = true := m2.mpr c0
        have he : e_X6_claim S P x1 x2 x3 = (2) := by
          unfold e_X6_claim
          rw [if_pos c0, if_pos c1, if_neg c2]
        have hV : u_X7_claim T Q x1 x2 x3 = (va_up T 110648 (upd (T 110648) 0 (nI 2))) := by
          unfold u_X7_claim
          rw [if_pos nm0, if_neg nm1, if_pos nm2]
        exact i_Gerr h he hV (by decide) (fun _ _ => rfl)
    · skip
      have nm0 : ¬ ((f_X7_in T Q x2 (nI 1) (nI 65535)) = true) := fun q => c1 ((m0.mp q))
      have nm2 : (f_X7_isPeople T Q x1) = true := m2.mpr c0
      have he : e_X6_claim S P x1 x2 x3 = (2) := by
        unfold e_X6_claim
        rw [if_pos c0, if_neg c1]
      have hV : u_X7_claim T Q x1 x2 x3 = (va_up T 110648 (upd (T 110648) 0 (nI 2))) := by
        unfold u_X7_claim
        rw [if_neg nm0, if_pos nm2]
      exact i_Gerr h he hV (by decide) (fun _ _ => rfl)
  · skip
    by_cases d0 : (f_X7_in T Q x2 (nI 1) (nI 65535)) = true
    · skip
      by_cases d1 : (f_X7_in T Q x3 (nI 1) (nI 31)) = true
      · skip
        have nm2 : ¬ ((f_X7_isPeople T Q x1) = true) := fun q => c0 ((m2.mp q))
        have he : e_X6_claim S P x1 x2 x3 = (1) := by
          unfold e_X6_claim
          rw [if_neg c0]
        have hV : u_X7_claim T Q x1 x2 x3 = (va_up T 110648 (upd (T 110648) 0 (nI 1))) := by
          unfold u_X7_claim
          rw [if_pos d0, if_pos d1, if_neg nm2]
        exact i_Gerr h he hV (by decide) (fun _ _ => rfl)
      · skip
        have nm2 : ¬ ((f_X7_isPeople T Q x1) = true) := fun q => c0 ((m2.mp q))
        have he : e_X6_claim S P x1 x2 x3 = (1) := by
          unfold e_X6_claim
          rw [if_neg c0]
        have hV : u_X7_claim T Q x1 x2 x3 = (va_up T 110648 (upd (T 110648) 0 (nI 1))) := by
          unfold u_X7_claim
          rw [if_pos d0, if_neg d1, if_neg nm2]
        exact i_Gerr h he hV (by decide) (fun _ _ => rfl)
    · skip
      have nm2 : ¬ ((f_X7_isPeople T Q x1) = true) := fun q => c0 ((m2.mp q))
      have he : e_X6_claim S P x1 x2 x3 = (1) := by
        unfold e_X6_claim
        rw [if_neg c0]
      have hV : u_X7_claim T Q x1 x2 x3 = (va_up T 110648 (upd (T 110648) 0 (nI 1))) := by
        unfold u_X7_claim
        rw [if_neg d0, if_neg nm2]
      exact i_Gerr h he hV (by decide) (fun _ _ => rfl)
theorem w6_claim (S : z_MI) (P : z_ML) (x1 x2 x3 : Int32) (q : Nat) (hq : 110648 ≤ q) : u_X6_claim S P x1 x2 x3 q = S q := by
  unfold u_X6_claim
  (repeat' split) <;> first | rfl | (try unfold u_X1_add; simp (disch := omega) only [va_up_ne])
theorem w7_claim (T : z_MI) (Q : z_ML) (x1 x2 x3 : Int32) (q : Nat) (hq : q < 110648) : u_X7_claim T Q x1 x2 x3 q = T q := by
  unfold u_X7_claim
  (repeat' split) <;> first | rfl | simp (disch := omega) only [va_up_ne]
theorem o_claim {S : z_MI} {P : z_ML} (h0 : i_I S P) (x1 x2 x3 : Int32) : F_claim S P x1 x2 x3 i_I :=
  i_FO h0 (w6_claim S P x1 x2 x3) (fun T Q q hq => w7_claim T Q x1 x2 x3 q hq) (fun T Q h => ok_claim (T := T) (Q := Q) h x1 x2 x3) (by rcases w_L_claim_e S P x1 x2 x3 with e | e | e | e <;> rw [e] <;> decide)
theorem k_hasMem {S T : z_MI} {P Q : z_ML} (h : i_2 S T P Q) {x c : Int32} (hp : f_X2_isPerson S P x = true) (hc : f_X1_isClaim S P c = true) : (f_X7_has T Q (f_X7_membersOf T Q (T 165985 c.toNatClampNeg)) x = true) ↔ (f_X6_isIn S P (f_X2_membersOf S P (S 71777 c.toNatClampNeg)) x = true) := by
  obtain ⟨j, rfl, hj, -⟩ := k_idxR h hp
  obtain ⟨k, rfl, hk, hk2⟩ := k_idxC h hc
  rw [i_a_claimOf h, k_nI (by omega), k_membersOf (P' := P) (Q' := Q) h (k_clp h hk2 P), k_has S T P Q _ (nI_pos (by omega))]
theorem k_w0 (S : z_MI) (P : z_ML) (a k : Int32) {x : Int32} (d : x = 0) : f_X6_with S P a k x = (a &&& (((nI 1) <<< (k &&& 31)) ^^^ (-1))) ||| (nI 0) := by
  rw [d, j_wm0 S P, nI_0]
theorem k_w1 (S : z_MI) (P : z_ML) (a k : Int32) {x : Int32} (d : ¬ x = 0) : f_X6_with S P a k x = (a &&& (((nI 1) <<< (k &&& 31)) ^^^ (-1))) ||| ((nI 1) <<< (k &&& 31)) := by
  rw [j_wm1 S P]
  unfold f_X6_with
  rw [if_neg d, if_neg (by decide)]
theorem ok_vote {S T : z_MI} {P Q : z_ML} (h : i_2 S T P Q) (x1 x2 x3 : Int32) : i_G 1 0 2 (e_X6_vote S P x1 x2 x3) S (u_X6_vote S P x1 x2 x3) P Q (u_X7_vote T Q x1 x2 x3) (lN 0) (lN 0) := by
  have m0 : ((f_X7_isPerson T Q x1) = true) ↔ (((f_X2_isPerson S P x1) = true)) := by rw [k_isPerson (P' := P) h]
  have m1 : ((f_X7_isClaim T Q x2) = true) ↔ (((f_X1_isClaim S P x2) = true)) := by rw [k_isClaim (P' := P) h]
  have m2 : ((T 172129 x2.toNatClampNeg) = 0) ↔ (((S 77921 x2.toNatClampNeg) = 0)) := by rw [i_a_claimState h]
  by_cases c0 : (f_X2_isPerson S P x1) = true
  · skip
    by_cases c1 : (f_X1_isClaim S P x2) = true
    · skip
      by_cases c2 : (S 77921 x2.toNatClampNeg) = 0
      · skip
        by_cases c3 : (f_X6_isIn S P (f_X2_membersOf S P (S 71777 x2.toNatClampNeg)) x1) = true
        · skip
          by_cases d0 : x3 = 0
          · skip
            have nm0 : (f_X7_isPerson T Q x1) = true := m0.mpr c0
            have nm1 : (f_X7_isClaim T Q x2) = true := m1.mpr c1
            have nm2 : (T 172129 x2.toNatClampNeg) = 0 := m2.mpr c2
            have m3 : ((f_X7_has T Q (f_X7_membersOf T Q (T 165985 x2.toNatClampNeg)) x1) = true) ↔ (((f_X6_isIn S P (f_X2_membersOf S P (S 71777 x2.toNatClampNeg)) x1) = true)) := k_hasMem h c0 c1
            have nm3 : (f_X7_has T Q (f_X7_membersOf T Q (T 165985 x2.toNatClampNeg)) x1) = true := m3.mpr c3
            have he : e_X6_vote S P x1 x2 x3 = (0) := by
              unfold e_X6_vote
              rw [if_pos c0, if_pos c1, if_pos c2, if_pos c3]
            have hV : u_X7_vote T Q x1 x2 x3 = (va_up (va_up (va_up T 110648 (upd (T 110648) 0 (nI 0))) 178273 (upd ((va_up T 110648 (upd (T 110648) 0 (nI 0))) 178273) x2.toNatClampNeg ((T 178273 x2.toNatClampNeg) ||| ((nI 1) <<< (x1 &&& 31))))) 180321 (upd ((va_up (va_up T 110648 (upd (T 110648) 0 (nI 0))) 178273 (upd ((va_up T 110648 (upd (T 110648) 0 (nI 0))) 178273) x2.toNatClampNeg ((T 178273 x2.toNatClampNeg) ||| ((nI 1) <<< (x1 &&& 31))))) 180321) x2.toNatClampNeg (((T 180321 x2.toNatClampNeg) &&& (((nI 1) <<< (x1 &&& 31)) ^^^ (-1))) ||| (nI 0)))) := by
              unfold u_X7_vote
              rw [if_pos nm0, if_pos nm1, if_pos nm2, if_pos nm3, if_pos d0]
            have hU : u_X6_vote S P x1 x2 x3 = (va_up (va_up S 84065 (upd (S 84065) x2.toNatClampNeg (f_X6_with S P (S 84065 x2.toNatClampNeg) x1 (nI 1)))) 86113 (upd ((va_up S 84065 (upd (S 84065) x2.toNatClampNeg (f_X6_with S P (S 84065 x2.toNatClampNeg) x1 (nI 1)))) 86113) x2.toNatClampNeg (f_X6_with (va_up S 84065 (upd (S 84065) x2.toNatClampNeg (f_X6_with S P (S 84065 x2.toNatClampNeg) x1 (nI 1)))) P (S 86113 x2.toNatClampNeg) x1 x3))) := by
              unfold u_X6_vote
              rw [if_pos c0, if_pos c1, if_pos c2, if_pos c3]
            refine i_Gok he hU hV rfl ?_ ?_
            · rfl
            · have h1 := i_thr (x := nI 0) h
              have h2 := s_pair (a := 84065) (b := 178273) (x := f_X6_with S P (S 84065 x2.toNatClampNeg) x1 (nI 1)) (x' := (T 178273 x2.toNatClampNeg) ||| ((nI 1) <<< (x1 &&& 31))) (k := x2.toNatClampNeg) h1 (by decide) rfl (by rw [i_a_voted h, j_w1]) (i_bl_no (by decide)) (i_T_pair h.2.2.2.2.1 (by decide))
              exact s_pair (a := 86113) (b := 180321) h2 (by decide) rfl ((k_w0 S P (S 86113 x2.toNatClampNeg) x1 d0).trans (by rw [i_a_votedYes h])) (i_bl_no (by decide)) (i_T_pair h2.2.2.2.2.1 (by decide))
          · skip
            have nm0 : (f_X7_isPerson T Q x1) = true := m0.mpr c0
            have nm1 : (f_X7_isClaim T Q x2) = true := m1.mpr c1
            have nm2 : (T 172129 x2.toNatClampNeg) = 0 := m2.mpr c2
            have m3 : ((f_X7_has T Q (f_X7_membersOf T Q (T 165985 x2.toNatClampNeg)) x1) = true) ↔ (((f_X6_isIn S P (f_X2_membersOf S P (S 71777 x2.toNatClampNeg)) x1) = true)) := k_hasMem h c0 c1
            have nm3 : (f_X7_has T Q (f_X7_membersOf T Q (T 165985 x2.toNatClampNeg)) x1) = true := m3.mpr c3
            have he : e_X6_vote S P x1 x2 x3 = (0) := by
              unfold e_X6_vote
              rw [if_pos c0, if_pos c1, if_pos c2, if_pos c3]
            have hV : u_X7_vote T Q x1 x2 x3 = (va_up (va_up (va_up T 110648 (upd (T 110648) 0 (nI 0))) 178273 (upd ((va_up T 110648 (upd (T 110648) 0 (nI 0))) 178273) x2.toNatClampNeg ((T 178273 x2.toNatClampNeg) ||| ((nI 1) <<< (x1 &&& 31))))) 180321 (upd ((va_up (va_up T 110648 (upd (T 110648) 0 (nI 0))) 178273 (upd ((va_up T 110648 (upd (T 110648) 0 (nI 0))) 178273) x2.toNatClampNeg ((T 178273 x2.toNatClampNeg) ||| ((nI 1) <<< (x1 &&& 31))))) 180321) x2.toNatClampNeg (((T 180321 x2.toNatClampNeg) &&& (((nI 1) <<< (x1 &&& 31)) ^^^ (-1))) ||| ((nI 1) <<< (x1 &&& 31))))) := by
              unfold u_X7_vote
              rw [if_pos nm0, if_pos nm1, if_pos nm2, if_pos nm3, if_neg d0]
            have hU : u_X6_vote S P x1 x2 x3 = (va_up (va_up S 84065 (upd (S 84065) x2.toNatClampNeg (f_X6_with S P (S 84065 x2.toNatClampNeg) x1 (nI 1)))) 86113 (upd ((va_up S 84065 (upd (S 84065) x2.toNatClampNeg (f_X6_with S P (S 84065 x2.toNatClampNeg) x1 (nI 1)))) 86113) x2.toNatClampNeg (f_X6_with (va_up S 84065 (upd (S 84065) x2.toNatClampNeg (f_X6_with S P (S 84065 x2.toNatClampNeg) x1 (nI 1)))) P (S 86113 x2.toNatClampNeg) x1 x3))) := by
              unfold u_X6_vote
              rw [if_pos c0, if_pos c1, if_pos c2, if_pos c3]
            refine i_Gok he hU hV rfl ?_ ?_
            · rfl
            · have h1 := i_thr (x := nI 0) h
              have h2 := s_pair (a := 84065) (b := 178273) (x := f_X6_with S P (S 84065 x2.toNatClampNeg) x1 (nI 1)) (x' := (T 178273 x2.toNatClampNeg) ||| ((nI 1) <<< (x1 &&& 31))) (k := x2.toNatClampNeg) h1 (by decide) rfl (by rw [i_a_voted h, j_w1]) (i_bl_no (by decide)) (i_T_pair h.2.2.2.2.1 (by decide))
              exact s_pair (a := 86113) (b := 180321) h2 (by decide) rfl ((k_w1 S P (S 86113 x2.toNatClampNeg) x1 d0).trans (by rw [i_a_votedYes h])) (i_bl_no (by decide)) (i_T_pair h2.2.2.2.2.1 (by decide))
        · skip
          have nm0 : (f_X7_isPerson T Q x1) = true := m0.mpr c0
          have nm1 : (f_X7_isClaim T Q x2) = true := m1.mpr c1
          have nm2 : (T 172129 x2.toNatClampNeg) = 0 := m2.mpr c2
          have m3 : ((f_X7_has T Q (f_X7_membersOf T Q (T 165985 x2.toNatClampNeg)) x1) = true) ↔ (((f_X6_isIn S P (f_X2_membersOf S P (S 71777 x2.toNatClampNeg)) x1) = true)) := k_hasMem h c0 c1
          have nm3 : ¬ ((f_X7_has T Q (f_X7_membersOf T Q (T 165985 x2.toNatClampNeg)) x1) = true) := fun q => c3 ((m3.mp q))
          have he : e_X6_vote S P x1 x2 x3 = (3) := by
            unfold e_X6_vote
            rw [if_pos c0, if_pos c1, if_pos c2, if_neg c3]
          have hV : u_X7_vote T Q x1 x2 x3 = (va_up T 110648 (upd (T 110648) 0 (nI 2))) := by
            unfold u_X7_vote
            rw [if_pos nm0, if_pos nm1, if_pos nm2, if_neg nm3]
          exact i_Gerr h he hV (by decide) (fun _ _ => rfl)
      · skip
        have nm0 : (f_X7_isPerson T Q x1) = true := m0.mpr c0
        have nm1 : (f_X7_isClaim T Q x2) = true := m1.mpr c1
        have nm2 : ¬ ((T 172129 x2.toNatClampNeg) = 0) := fun q => c2 ((m2.mp q))
        have he : e_X6_vote S P x1 x2 x3 = (3) := by
          unfold e_X6_vote
          rw [if_pos c0, if_pos c1, if_neg c2]
        have hV : u_X7_vote T Q x1 x2 x3 = (va_up T 110648 (upd (T 110648) 0 (nI 2))) := by
          unfold u_X7_vote
          rw [if_pos nm0, if_pos nm1, if_neg nm2]
        exact i_Gerr h he hV (by decide) (fun _ _ => rfl)
    · skip
      have nm0 : (f_X7_isPerson T Q x1) = true := m0.mpr c0
      have nm1 : ¬ ((f_X7_isClaim T Q x2) = true) := fun q => c1 ((m1.mp q))
      have he : e_X6_vote S P x1 x2 x3 = (1) := by
        unfold e_X6_vote
        rw [if_pos c0, if_neg c1]
      have hV : u_X7_vote T Q x1 x2 x3 = (va_up T 110648 (upd (T 110648) 0 (nI 1))) := by
        unfold u_X7_vote
        rw [if_pos nm0, if_neg nm1]
      exact i_Gerr h he hV (by decide) (fun _ _ => rfl)
  · skip
    have nm0 : ¬ ((f_X7_isPerson T Q x1) = true) := fun q => c0 ((m0.mp q))
    have he : e_X6_vote S P x1 x2 x3 = (1) := by
      unfold e_X6_vote
      rw [if_neg c0]
    have hV : u_X7_vote T Q x1 x2 x3 = (va_up T 110648 (upd (T 110648) 0 (nI 1))) := by
      unfold u_X7_vote
      rw [if_neg nm0]
    exact i_Gerr h he hV (by decide) (fun _ _ => rfl)
theorem w6_vote (S : z_MI) (P : z_ML) (x1 x2 x3 : Int32) (q : Nat) (hq : 110648 ≤ q) : u_X6_vote S P x1 x2 x3 q = S q := by
  unfold u_X6_vote
  (repeat' split) <;> first | rfl | (simp (disch := omega) only [va_up_ne])
theorem w7_vote (T : z_MI) (Q : z_ML) (x1 x2 x3 : Int32) (q : Nat) (hq : q < 110648) : u_X7_vote T Q x1 x2 x3 q = T q := by
  unfold u_X7_vote
  (repeat' split) <;> first | rfl | simp (disch := omega) only [va_up_ne]
theorem o_vote {S : z_MI} {P : z_ML} (h0 : i_I S P) (x1 x2 x3 : Int32) : F_vote S P x1 x2 x3 i_I :=
  i_FV h0 (w6_vote S P x1 x2 x3) (fun T Q q hq => w7_vote T Q x1 x2 x3 q hq) (fun T Q h => ok_vote (T := T) (Q := Q) h x1 x2 x3)
