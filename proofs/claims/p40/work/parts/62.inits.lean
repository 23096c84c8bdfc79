/-! the seven constructors that make arrays alone -/
theorem x_fs_0 (ad : Nat → Nat) (o : Nat) : x_fs ad [] o = x_fs (fun _ => 0) [] o := by
  unfold x_fs
  refine List.map_congr_left fun f _ => ?_
  cases f with
  | none => rfl
  | some t => rfl
theorem x_W_0 {cI cZ cJ : ClassId} {ad : Nat → Nat} {h0 o : Nat} : x_W cI cZ cJ ad [] h0 o = x_c0 h0 o := by
  unfold x_W x_c0
  rw [x_fs_0]
  rfl
theorem x_D0 {h0 o sz : Nat} : va_D (va_A (x_c0 h0 o) sz) (x_c0 h0 o) := by
  refine ⟨fun i j p q hi hj _ => ?_, fun k q hk => va_A.in hk⟩
  have h1 : i < 1 := (List.getElem?_eq_some_iff.mp hi).1
  have h2 : j < 1 := (List.getElem?_eq_some_iff.mp hj).1
  omega
theorem x_uniq {o t k : Nat} (h : ∀ j, j < (x_fl o).length → (x_fl o)[j]? = some (some t) → j = k) : ∀ j, (x_fl o)[j]? = some (some t) → j = k := fun j hj => h j (List.getElem?_eq_some_iff.mp hj).1 hj
theorem x_hdk {done : List Nat} {t : Nat} (h : ∀ a ∈ done, a % 8 ≠ 0) : ∀ a ∈ done, a % 8 = 0 → ∀ u, some u ∈ x_fl a → u ≠ t := fun a ha h0 => absurd h0 (h a ha)
theorem x_Wend {cI cZ cJ : ClassId} {ad : Nat → Nat} {done ids : List Nat} {h0 o : Nat} (hi : ids = o :: done) (h8 : o % 8 = 0) (hd : ∀ f ∈ x_fl o, ∀ t, f = some t → t ∈ done) (ha : ad o = h0) : x_L cI cZ cJ ad ids = x_W cI cZ cJ ad done h0 o := by
  subst hi
  unfold x_W
  show (ad o, z_e cI cZ cJ ad x_0 x_0L o) :: _ = _
  rw [z_e0 h8, ha, x_fs_end (fun t ht => hd _ ht t rfl)]
  rfl
theorem x_kids {o : Nat} {done : List Nat} (h : ∀ f ∈ x_fl o, f.all (fun t => decide (t ∈ done)) = true) : ∀ f ∈ x_fl o, ∀ t, f = some t → t ∈ done := fun f hf t ht => by
  have := h f hf
  rw [ht] at this
  exact of_decide_eq_true this
theorem x_Pend {D : va_G} {cI cZ cJ : ClassId} {ad : Nat → Nat} {done ids : List Nat} {h0 o : Nat} {H : Heap} (hP : va_P D z_cl (x_W cI cZ cJ ad done h0 o) H) (hi : ids = o :: done) (h8 : o % 8 = 0) (hd : ∀ f ∈ x_fl o, f.all (fun t => decide (t ∈ done)) = true) (ha : ad o = h0) : va_P D z_cl (x_L cI cZ cJ ad ids) H := by
  rw [x_Wend hi h8 (x_kids hd) ha]; exact hP
theorem x_Dend {A : Nat → Prop} {cI cZ cJ : ClassId} {ad : Nat → Nat} {done ids : List Nat} {h0 o : Nat} (hD : va_D A (x_W cI cZ cJ ad done h0 o)) (hi : ids = o :: done) (h8 : o % 8 = 0) (hd : ∀ f ∈ x_fl o, f.all (fun t => decide (t ∈ done)) = true) (ha : ad o = h0) : va_D A (x_L cI cZ cJ ad ids) := by
  rw [x_Wend hi h8 (x_kids hd) ha]; exact hD
theorem dX0_init_0 : decode cX0_init 0 = .ok (.aload_n 0, 1) := by decide +kernel
theorem dX0_init_1 : decode cX0_init 1 = .ok (.invokespecial 3, 3) := by decide +kernel
theorem dX0_init_4 : decode cX0_init 4 = .ok (.aload_n 0, 1) := by decide +kernel
theorem dX0_init_5 : decode cX0_init 5 = .ok (.bipush 40, 2) := by decide +kernel
theorem dX0_init_7 : decode cX0_init 7 = .ok (.newarray .int, 2) := by decide +kernel
theorem dX0_init_9 : decode cX0_init 9 = .ok (.putfield 9, 3) := by decide +kernel
theorem dX0_init_12 : decode cX0_init 12 = .ok (.aload_n 0, 1) := by decide +kernel
theorem dX0_init_13 : decode cX0_init 13 = .ok (.bipush 40, 2) := by decide +kernel
theorem dX0_init_15 : decode cX0_init 15 = .ok (.newarray .int, 2) := by decide +kernel
theorem dX0_init_17 : decode cX0_init 17 = .ok (.putfield 15, 3) := by decide +kernel
theorem dX0_init_20 : decode cX0_init 20 = .ok (.aload_n 0, 1) := by decide +kernel
theorem dX0_init_21 : decode cX0_init 21 = .ok (.bipush 40, 2) := by decide +kernel
theorem dX0_init_23 : decode cX0_init 23 = .ok (.newarray .int, 2) := by decide +kernel
theorem dX0_init_25 : decode cX0_init 25 = .ok (.putfield 18, 3) := by decide +kernel
theorem dX0_init_28 : decode cX0_init 28 = .ok (.aload_n 0, 1) := by decide +kernel
theorem dX0_init_29 : decode cX0_init 29 = .ok (.bipush 40, 2) := by decide +kernel
theorem dX0_init_31 : decode cX0_init 31 = .ok (.newarray .int, 2) := by decide +kernel
theorem dX0_init_33 : decode cX0_init 33 = .ok (.putfield 21, 3) := by decide +kernel
theorem dX0_init_36 : decode cX0_init 36 = .ok (.aload_n 0, 1) := by decide +kernel
theorem dX0_init_37 : decode cX0_init 37 = .ok (.bipush 40, 2) := by decide +kernel
theorem dX0_init_39 : decode cX0_init 39 = .ok (.newarray .int, 2) := by decide +kernel
theorem dX0_init_41 : decode cX0_init 41 = .ok (.putfield 24, 3) := by decide +kernel
theorem dX0_init_44 : decode cX0_init 44 = .ok (.aload_n 0, 1) := by decide +kernel
theorem dX0_init_45 : decode cX0_init 45 = .ok (.bipush 40, 2) := by decide +kernel
theorem dX0_init_47 : decode cX0_init 47 = .ok (.newarray .int, 2) := by decide +kernel
theorem dX0_init_49 : decode cX0_init 49 = .ok (.putfield 27, 3) := by decide +kernel
theorem dX0_init_52 : decode cX0_init 52 = .ok (.aload_n 0, 1) := by decide +kernel
theorem dX0_init_53 : decode cX0_init 53 = .ok (.bipush 40, 2) := by decide +kernel
theorem dX0_init_55 : decode cX0_init 55 = .ok (.newarray .boolean, 2) := by decide +kernel
theorem dX0_init_57 : decode cX0_init 57 = .ok (.putfield 30, 3) := by decide +kernel
theorem dX0_init_60 : decode cX0_init 60 = .ok (.aload_n 0, 1) := by decide +kernel
theorem dX0_init_61 : decode cX0_init 61 = .ok (.bipush 40, 2) := by decide +kernel
theorem dX0_init_63 : decode cX0_init 63 = .ok (.newarray .boolean, 2) := by decide +kernel
theorem dX0_init_65 : decode cX0_init 65 = .ok (.putfield 34, 3) := by decide +kernel
theorem dX0_init_68 : decode cX0_init 68 = .ok (.return_, 1) := by decide +kernel
theorem dX1_init_0 : decode cX1_init 0 = .ok (.aload_n 0, 1) := by decide +kernel
theorem dX1_init_1 : decode cX1_init 1 = .ok (.invokespecial 3, 3) := by decide +kernel
theorem dX1_init_4 : decode cX1_init 4 = .ok (.aload_n 0, 1) := by decide +kernel
theorem dX1_init_5 : decode cX1_init 5 = .ok (.bipush 12, 2) := by decide +kernel
theorem dX1_init_7 : decode cX1_init 7 = .ok (.newarray .int, 2) := by decide +kernel
theorem dX1_init_9 : decode cX1_init 9 = .ok (.putfield 9, 3) := by decide +kernel
theorem dX1_init_12 : decode cX1_init 12 = .ok (.aload_n 0, 1) := by decide +kernel
theorem dX1_init_13 : decode cX1_init 13 = .ok (.bipush 12, 2) := by decide +kernel
theorem dX1_init_15 : decode cX1_init 15 = .ok (.newarray .int, 2) := by decide +kernel
theorem dX1_init_17 : decode cX1_init 17 = .ok (.putfield 15, 3) := by decide +kernel
theorem dX1_init_20 : decode cX1_init 20 = .ok (.aload_n 0, 1) := by decide +kernel
theorem dX1_init_21 : decode cX1_init 21 = .ok (.bipush 12, 2) := by decide +kernel
theorem dX1_init_23 : decode cX1_init 23 = .ok (.newarray .int, 2) := by decide +kernel
theorem dX1_init_25 : decode cX1_init 25 = .ok (.putfield 18, 3) := by decide +kernel
theorem dX1_init_28 : decode cX1_init 28 = .ok (.aload_n 0, 1) := by decide +kernel
theorem dX1_init_29 : decode cX1_init 29 = .ok (.bipush 12, 2) := by decide +kernel
theorem dX1_init_31 : decode cX1_init 31 = .ok (.newarray .int, 2) := by decide +kernel
theorem dX1_init_33 : decode cX1_init 33 = .ok (.putfield 21, 3) := by decide +kernel
theorem dX1_init_36 : decode cX1_init 36 = .ok (.aload_n 0, 1) := by decide +kernel
theorem dX1_init_37 : decode cX1_init 37 = .ok (.bipush 12, 2) := by decide +kernel
theorem dX1_init_39 : decode cX1_init 39 = .ok (.newarray .int, 2) := by decide +kernel
theorem dX1_init_41 : decode cX1_init 41 = .ok (.putfield 24, 3) := by decide +kernel
theorem dX1_init_44 : decode cX1_init 44 = .ok (.aload_n 0, 1) := by decide +kernel
theorem dX1_init_45 : decode cX1_init 45 = .ok (.bipush 12, 2) := by decide +kernel
theorem dX1_init_47 : decode cX1_init 47 = .ok (.newarray .int, 2) := by decide +kernel
theorem dX1_init_49 : decode cX1_init 49 = .ok (.putfield 27, 3) := by decide +kernel
theorem dX1_init_52 : decode cX1_init 52 = .ok (.aload_n 0, 1) := by decide +kernel
theorem dX1_init_53 : decode cX1_init 53 = .ok (.bipush 12, 2) := by decide +kernel
theorem dX1_init_55 : decode cX1_init 55 = .ok (.newarray .int, 2) := by decide +kernel
theorem dX1_init_57 : decode cX1_init 57 = .ok (.putfield 30, 3) := by decide +kernel
theorem dX1_init_60 : decode cX1_init 60 = .ok (.aload_n 0, 1) := by decide +kernel
theorem dX1_init_61 : decode cX1_init 61 = .ok (.bipush 12, 2) := by decide +kernel
theorem dX1_init_63 : decode cX1_init 63 = .ok (.newarray .int, 2) := by decide +kernel
theorem dX1_init_65 : decode cX1_init 65 = .ok (.putfield 33, 3) := by decide +kernel
theorem dX1_init_68 : decode cX1_init 68 = .ok (.return_, 1) := by decide +kernel
theorem dX2_init_0 : decode cX2_init 0 = .ok (.aload_n 0, 1) := by decide +kernel
theorem dX2_init_1 : decode cX2_init 1 = .ok (.invokespecial 3, 3) := by decide +kernel
theorem dX2_init_4 : decode cX2_init 4 = .ok (.aload_n 0, 1) := by decide +kernel
theorem dX2_init_5 : decode cX2_init 5 = .ok (.bipush 6, 2) := by decide +kernel
theorem dX2_init_7 : decode cX2_init 7 = .ok (.newarray .int, 2) := by decide +kernel
theorem dX2_init_9 : decode cX2_init 9 = .ok (.putfield 9, 3) := by decide +kernel
theorem dX2_init_12 : decode cX2_init 12 = .ok (.aload_n 0, 1) := by decide +kernel
theorem dX2_init_13 : decode cX2_init 13 = .ok (.bipush 6, 2) := by decide +kernel
theorem dX2_init_15 : decode cX2_init 15 = .ok (.newarray .int, 2) := by decide +kernel
theorem dX2_init_17 : decode cX2_init 17 = .ok (.putfield 15, 3) := by decide +kernel
theorem dX2_init_20 : decode cX2_init 20 = .ok (.aload_n 0, 1) := by decide +kernel
theorem dX2_init_21 : decode cX2_init 21 = .ok (.bipush 30, 2) := by decide +kernel
theorem dX2_init_23 : decode cX2_init 23 = .ok (.newarray .int, 2) := by decide +kernel
theorem dX2_init_25 : decode cX2_init 25 = .ok (.putfield 18, 3) := by decide +kernel
theorem dX2_init_28 : decode cX2_init 28 = .ok (.aload_n 0, 1) := by decide +kernel
theorem dX2_init_29 : decode cX2_init 29 = .ok (.bipush 30, 2) := by decide +kernel
theorem dX2_init_31 : decode cX2_init 31 = .ok (.newarray .int, 2) := by decide +kernel
theorem dX2_init_33 : decode cX2_init 33 = .ok (.putfield 21, 3) := by decide +kernel
theorem dX2_init_36 : decode cX2_init 36 = .ok (.aload_n 0, 1) := by decide +kernel
theorem dX2_init_37 : decode cX2_init 37 = .ok (.bipush 30, 2) := by decide +kernel
theorem dX2_init_39 : decode cX2_init 39 = .ok (.newarray .int, 2) := by decide +kernel
theorem dX2_init_41 : decode cX2_init 41 = .ok (.putfield 24, 3) := by decide +kernel
theorem dX2_init_44 : decode cX2_init 44 = .ok (.aload_n 0, 1) := by decide +kernel
theorem dX2_init_45 : decode cX2_init 45 = .ok (.bipush 30, 2) := by decide +kernel
theorem dX2_init_47 : decode cX2_init 47 = .ok (.newarray .int, 2) := by decide +kernel
theorem dX2_init_49 : decode cX2_init 49 = .ok (.putfield 27, 3) := by decide +kernel
theorem dX2_init_52 : decode cX2_init 52 = .ok (.return_, 1) := by decide +kernel
theorem dX3_init_0 : decode cX3_init 0 = .ok (.aload_n 0, 1) := by decide +kernel
theorem dX3_init_1 : decode cX3_init 1 = .ok (.invokespecial 3, 3) := by decide +kernel
theorem dX3_init_4 : decode cX3_init 4 = .ok (.aload_n 0, 1) := by decide +kernel
theorem dX3_init_5 : decode cX3_init 5 = .ok (.bipush 60, 2) := by decide +kernel
theorem dX3_init_7 : decode cX3_init 7 = .ok (.newarray .int, 2) := by decide +kernel
theorem dX3_init_9 : decode cX3_init 9 = .ok (.putfield 9, 3) := by decide +kernel
theorem dX3_init_12 : decode cX3_init 12 = .ok (.aload_n 0, 1) := by decide +kernel
theorem dX3_init_13 : decode cX3_init 13 = .ok (.bipush 60, 2) := by decide +kernel
theorem dX3_init_15 : decode cX3_init 15 = .ok (.newarray .int, 2) := by decide +kernel
theorem dX3_init_17 : decode cX3_init 17 = .ok (.putfield 15, 3) := by decide +kernel
theorem dX3_init_20 : decode cX3_init 20 = .ok (.aload_n 0, 1) := by decide +kernel
theorem dX3_init_21 : decode cX3_init 21 = .ok (.bipush 60, 2) := by decide +kernel
theorem dX3_init_23 : decode cX3_init 23 = .ok (.newarray .int, 2) := by decide +kernel
theorem dX3_init_25 : decode cX3_init 25 = .ok (.putfield 18, 3) := by decide +kernel
theorem dX3_init_28 : decode cX3_init 28 = .ok (.aload_n 0, 1) := by decide +kernel
theorem dX3_init_29 : decode cX3_init 29 = .ok (.bipush 60, 2) := by decide +kernel
theorem dX3_init_31 : decode cX3_init 31 = .ok (.newarray .int, 2) := by decide +kernel
theorem dX3_init_33 : decode cX3_init 33 = .ok (.putfield 21, 3) := by decide +kernel
theorem dX3_init_36 : decode cX3_init 36 = .ok (.aload_n 0, 1) := by decide +kernel
theorem dX3_init_37 : decode cX3_init 37 = .ok (.bipush 6, 2) := by decide +kernel
theorem dX3_init_39 : decode cX3_init 39 = .ok (.newarray .int, 2) := by decide +kernel
theorem dX3_init_41 : decode cX3_init 41 = .ok (.putfield 24, 3) := by decide +kernel
theorem dX3_init_44 : decode cX3_init 44 = .ok (.aload_n 0, 1) := by decide +kernel
theorem dX3_init_45 : decode cX3_init 45 = .ok (.bipush 48, 2) := by decide +kernel
theorem dX3_init_47 : decode cX3_init 47 = .ok (.newarray .int, 2) := by decide +kernel
theorem dX3_init_49 : decode cX3_init 49 = .ok (.putfield 27, 3) := by decide +kernel
theorem dX3_init_52 : decode cX3_init 52 = .ok (.aload_n 0, 1) := by decide +kernel
theorem dX3_init_53 : decode cX3_init 53 = .ok (.bipush 48, 2) := by decide +kernel
theorem dX3_init_55 : decode cX3_init 55 = .ok (.newarray .int, 2) := by decide +kernel
theorem dX3_init_57 : decode cX3_init 57 = .ok (.putfield 30, 3) := by decide +kernel
theorem dX3_init_60 : decode cX3_init 60 = .ok (.return_, 1) := by decide +kernel
theorem dX4_init_0 : decode cX4_init 0 = .ok (.aload_n 0, 1) := by decide +kernel
theorem dX4_init_1 : decode cX4_init 1 = .ok (.invokespecial 3, 3) := by decide +kernel
theorem dX4_init_4 : decode cX4_init 4 = .ok (.aload_n 0, 1) := by decide +kernel
theorem dX4_init_5 : decode cX4_init 5 = .ok (.bipush 12, 2) := by decide +kernel
theorem dX4_init_7 : decode cX4_init 7 = .ok (.newarray .int, 2) := by decide +kernel
theorem dX4_init_9 : decode cX4_init 9 = .ok (.putfield 9, 3) := by decide +kernel
theorem dX4_init_12 : decode cX4_init 12 = .ok (.aload_n 0, 1) := by decide +kernel
theorem dX4_init_13 : decode cX4_init 13 = .ok (.bipush 12, 2) := by decide +kernel
theorem dX4_init_15 : decode cX4_init 15 = .ok (.newarray .int, 2) := by decide +kernel
theorem dX4_init_17 : decode cX4_init 17 = .ok (.putfield 15, 3) := by decide +kernel
theorem dX4_init_20 : decode cX4_init 20 = .ok (.aload_n 0, 1) := by decide +kernel
theorem dX4_init_21 : decode cX4_init 21 = .ok (.bipush 12, 2) := by decide +kernel
theorem dX4_init_23 : decode cX4_init 23 = .ok (.newarray .int, 2) := by decide +kernel
theorem dX4_init_25 : decode cX4_init 25 = .ok (.putfield 18, 3) := by decide +kernel
theorem dX4_init_28 : decode cX4_init 28 = .ok (.aload_n 0, 1) := by decide +kernel
theorem dX4_init_29 : decode cX4_init 29 = .ok (.bipush 12, 2) := by decide +kernel
theorem dX4_init_31 : decode cX4_init 31 = .ok (.newarray .int, 2) := by decide +kernel
theorem dX4_init_33 : decode cX4_init 33 = .ok (.putfield 21, 3) := by decide +kernel
theorem dX4_init_36 : decode cX4_init 36 = .ok (.aload_n 0, 1) := by decide +kernel
theorem dX4_init_37 : decode cX4_init 37 = .ok (.bipush 12, 2) := by decide +kernel
theorem dX4_init_39 : decode cX4_init 39 = .ok (.newarray .int, 2) := by decide +kernel
theorem dX4_init_41 : decode cX4_init 41 = .ok (.putfield 24, 3) := by decide +kernel
theorem dX4_init_44 : decode cX4_init 44 = .ok (.aload_n 0, 1) := by decide +kernel
theorem dX4_init_45 : decode cX4_init 45 = .ok (.bipush 12, 2) := by decide +kernel
theorem dX4_init_47 : decode cX4_init 47 = .ok (.newarray .int, 2) := by decide +kernel
theorem dX4_init_49 : decode cX4_init 49 = .ok (.putfield 27, 3) := by decide +kernel
theorem dX4_init_52 : decode cX4_init 52 = .ok (.aload_n 0, 1) := by decide +kernel
theorem dX4_init_53 : decode cX4_init 53 = .ok (.bipush 12, 2) := by decide +kernel
theorem dX4_init_55 : decode cX4_init 55 = .ok (.newarray .int, 2) := by decide +kernel
theorem dX4_init_57 : decode cX4_init 57 = .ok (.putfield 30, 3) := by decide +kernel
theorem dX4_init_60 : decode cX4_init 60 = .ok (.aload_n 0, 1) := by decide +kernel
theorem dX4_init_61 : decode cX4_init 61 = .ok (.bipush 12, 2) := by decide +kernel
theorem dX4_init_63 : decode cX4_init 63 = .ok (.newarray .int, 2) := by decide +kernel
theorem dX4_init_65 : decode cX4_init 65 = .ok (.putfield 33, 3) := by decide +kernel
theorem dX4_init_68 : decode cX4_init 68 = .ok (.aload_n 0, 1) := by decide +kernel
theorem dX4_init_69 : decode cX4_init 69 = .ok (.bipush 12, 2) := by decide +kernel
theorem dX4_init_71 : decode cX4_init 71 = .ok (.newarray .int, 2) := by decide +kernel
theorem dX4_init_73 : decode cX4_init 73 = .ok (.putfield 36, 3) := by decide +kernel
theorem dX4_init_76 : decode cX4_init 76 = .ok (.aload_n 0, 1) := by decide +kernel
theorem dX4_init_77 : decode cX4_init 77 = .ok (.bipush 12, 2) := by decide +kernel
theorem dX4_init_79 : decode cX4_init 79 = .ok (.newarray .boolean, 2) := by decide +kernel
theorem dX4_init_81 : decode cX4_init 81 = .ok (.putfield 39, 3) := by decide +kernel
theorem dX4_init_84 : decode cX4_init 84 = .ok (.aload_n 0, 1) := by decide +kernel
theorem dX4_init_85 : decode cX4_init 85 = .ok (.bipush 12, 2) := by decide +kernel
theorem dX4_init_87 : decode cX4_init 87 = .ok (.newarray .boolean, 2) := by decide +kernel
theorem dX4_init_89 : decode cX4_init 89 = .ok (.putfield 43, 3) := by decide +kernel
theorem dX4_init_92 : decode cX4_init 92 = .ok (.return_, 1) := by decide +kernel
theorem dX5_init_0 : decode cX5_init 0 = .ok (.aload_n 0, 1) := by decide +kernel
theorem dX5_init_1 : decode cX5_init 1 = .ok (.invokespecial 3, 3) := by decide +kernel
theorem dX5_init_4 : decode cX5_init 4 = .ok (.aload_n 0, 1) := by decide +kernel
theorem dX5_init_5 : decode cX5_init 5 = .ok (.bipush 10, 2) := by decide +kernel
theorem dX5_init_7 : decode cX5_init 7 = .ok (.newarray .int, 2) := by decide +kernel
theorem dX5_init_9 : decode cX5_init 9 = .ok (.putfield 9, 3) := by decide +kernel
theorem dX5_init_12 : decode cX5_init 12 = .ok (.aload_n 0, 1) := by decide +kernel
theorem dX5_init_13 : decode cX5_init 13 = .ok (.bipush 10, 2) := by decide +kernel
theorem dX5_init_15 : decode cX5_init 15 = .ok (.newarray .int, 2) := by decide +kernel
theorem dX5_init_17 : decode cX5_init 17 = .ok (.putfield 15, 3) := by decide +kernel
theorem dX5_init_20 : decode cX5_init 20 = .ok (.aload_n 0, 1) := by decide +kernel
theorem dX5_init_21 : decode cX5_init 21 = .ok (.bipush 120, 2) := by decide +kernel
theorem dX5_init_23 : decode cX5_init 23 = .ok (.newarray .int, 2) := by decide +kernel
theorem dX5_init_25 : decode cX5_init 25 = .ok (.putfield 18, 3) := by decide +kernel
theorem dX5_init_28 : decode cX5_init 28 = .ok (.aload_n 0, 1) := by decide +kernel
theorem dX5_init_29 : decode cX5_init 29 = .ok (.bipush 120, 2) := by decide +kernel
theorem dX5_init_31 : decode cX5_init 31 = .ok (.newarray .int, 2) := by decide +kernel
theorem dX5_init_33 : decode cX5_init 33 = .ok (.putfield 21, 3) := by decide +kernel
theorem dX5_init_36 : decode cX5_init 36 = .ok (.return_, 1) := by decide +kernel
theorem xa_int : Jvm.Cond.arrayClass .int ∈ z_T := z_mT 79 (by decide +kernel) rfl
theorem xa_boolean : Jvm.Cond.arrayClass .boolean ∈ z_T := z_mT 178 (by decide +kernel) rfl
theorem xa_long : Jvm.Cond.arrayClass .long ∈ z_T := z_mT 303 (by decide +kernel) rfl
def xi_2 : List Nat := [4112, 20529, 22577, 24817, 26865, 28913, 30961]
set_option maxRecDepth 20000 in
set_option maxHeartbeats 8000000 in
theorem kt_2 (l : Launch) : x_KT l yX2_init cX2_init 4112 xi_2 1 12 6 132 := by
  intro D cI cZ cJ h0 sz
  refine Met.ofW (cc := cX2_init) (maxL := 1) (ret := none) (by decide) rfl ?_
  intro p e s m args below meth c s₁ B hml hv
  obtain ⟨rfl, hsz, hP, hK, hNest⟩ := hv
  subst hsz
  have hts0 := atoms_spec (ws := Jvm.Cond.code yX2_init cX2_init 1 none :: z_T) B.pre
  have hown : s.vm.findClass RX2 = some m.cls := findClass_of_methodNamed B.named
  have hr := B.returns
  have hlocks := B.notSynchronized
  have hin : meth.name = "<init>" := (name_of_methodNamed B.named B.method).1
  have hts : ∀ w ∈ z_T, w.before _ s = true := fun w hw => hts0 w (List.mem_cons_of_mem _ hw)
  have F : CallFix p m c cX2_init 1 s _ z_T RX2 := ⟨B.exec, B.bytes, hml, hown, hts⟩
  have hP : va_P D z_cl (x_W cI cZ cJ (fun _ => h0) [] h0 4112) s.heap := by rw [x_W_0]; exact hP
  have hD : va_D (va_A (x_c0 h0 4112) s.heap.size) (x_W cI cZ cJ (fun _ => h0) [] h0 4112) := by rw [x_W_0]; exact x_D0
  have hA : ∀ q : Nat, s.heap.size ≤ q → va_A (x_c0 h0 4112) s.heap.size q := fun q h => Or.inr h
  have hS : va_S (va_A (x_c0 h0 4112) s.heap.size) s.heap s.heap [] := va_S.rf
  have hl := lv_entry ([.ref h0]) (n := 1) (Nat.le_of_ble_eq_true rfl)
  rw [lg_entry_eq]
  generalize (lg_sl ([.ref h0]) ++ List.replicate (1 - (lg_sl ([.ref h0])).length) Slot.unset).toArray = ls at hl ⊢
  have hl : lv_has ls 1 [(0, .ref h0)] := hl
  refine lv_aload_n B.exec B.bytes dX2_init_0 rfl (lv_at hl 0 rfl) ?_
  refine W.objInit B.exec B.bytes hown (hts _ (z_mT 48 (by decide +kernel) rfl)) (hts _ (z_mT 41 (by decide +kernel) rfl)) (hts _ (z_mT 42 (by decide +kernel) rfl)) rfl (by rw [hml]; exact hl.1) rfl dX2_init_1 (Nat.le_of_ble_eq_true rfl) (Nat.le_of_ble_eq_true rfl) ?_
  refine W.eq (g2 := F0 m 4 ls []) rfl ?_
  refine x_arr (t := 20529) (k := 0) (idx := 9) (N := 8) (j := 0) (n := 6) (T := TX2) (at_ := .int) (ty := .int) (fty := .array .int) (cX := cI) (a0 := (6, .inl (x_0 20529))) F hin hK hP hD hS hA hl dX2_init_4 dX2_init_5 dX2_init_7 dX2_init_9 (by decide) rfl (fun _ h => by cases h) rfl (by decide) (fun _ => rfl) (fun _ => rfl) xa_int rfl (by decide) (z_mT 49 (by decide +kernel) rfl) rfl rfl (by decide +kernel) (fun _ => rfl) (fun _ => rfl) rfl (x_uniq (by decide +kernel)) (by decide) (x_hdk (by decide)) (Nat.le_of_ble_eq_true rfl) (Nat.le_of_ble_eq_true rfl) (fun q0 H locs hP hD hS => ?_)
  refine x_arr (t := 22577) (k := 1) (idx := 15) (N := 8) (j := 0) (n := 6) (T := TX2) (at_ := .int) (ty := .int) (fty := .array .int) (cX := cI) (a0 := (6, .inl (x_0 22577))) F hin hK hP hD hS hA hl dX2_init_12 dX2_init_13 dX2_init_15 dX2_init_17 (by decide) rfl (fun _ h => by cases h) rfl (by decide) (fun _ => rfl) (fun _ => rfl) xa_int rfl (by decide) (z_mT 50 (by decide +kernel) rfl) rfl rfl (by decide +kernel) (fun _ => rfl) (fun _ => rfl) rfl (x_uniq (by decide +kernel)) (by decide) (x_hdk (by decide)) (Nat.le_of_ble_eq_true rfl) (Nat.le_of_ble_eq_true rfl) (fun q1 H locs hP hD hS => ?_)
  refine x_arr (t := 24817) (k := 2) (idx := 18) (N := 8) (j := 0) (n := 30) (T := TX2) (at_ := .int) (ty := .int) (fty := .array .int) (cX := cI) (a0 := (30, .inl (x_0 24817))) F hin hK hP hD hS hA hl dX2_init_20 dX2_init_21 dX2_init_23 dX2_init_25 (by decide) rfl (fun _ h => by cases h) rfl (by decide) (fun _ => rfl) (fun _ => rfl) xa_int rfl (by decide) (z_mT 52 (by decide +kernel) rfl) rfl rfl (by decide +kernel) (fun _ => rfl) (fun _ => rfl) rfl (x_uniq (by decide +kernel)) (by decide) (x_hdk (by decide)) (Nat.le_of_ble_eq_true rfl) (Nat.le_of_ble_eq_true rfl) (fun q2 H locs hP hD hS => ?_)
  refine x_arr (t := 26865) (k := 3) (idx := 21) (N := 8) (j := 0) (n := 30) (T := TX2) (at_ := .int) (ty := .int) (fty := .array .int) (cX := cI) (a0 := (30, .inl (x_0 26865))) F hin hK hP hD hS hA hl dX2_init_28 dX2_init_29 dX2_init_31 dX2_init_33 (by decide) rfl (fun _ h => by cases h) rfl (by decide) (fun _ => rfl) (fun _ => rfl) xa_int rfl (by decide) (z_mT 53 (by decide +kernel) rfl) rfl rfl (by decide +kernel) (fun _ => rfl) (fun _ => rfl) rfl (x_uniq (by decide +kernel)) (by decide) (x_hdk (by decide)) (Nat.le_of_ble_eq_true rfl) (Nat.le_of_ble_eq_true rfl) (fun q3 H locs hP hD hS => ?_)
  refine x_arr (t := 28913) (k := 4) (idx := 24) (N := 8) (j := 0) (n := 30) (T := TX2) (at_ := .int) (ty := .int) (fty := .array .int) (cX := cI) (a0 := (30, .inl (x_0 28913))) F hin hK hP hD hS hA hl dX2_init_36 dX2_init_37 dX2_init_39 dX2_init_41 (by decide) rfl (fun _ h => by cases h) rfl (by decide) (fun _ => rfl) (fun _ => rfl) xa_int rfl (by decide) (z_mT 54 (by decide +kernel) rfl) rfl rfl (by decide +kernel) (fun _ => rfl) (fun _ => rfl) rfl (x_uniq (by decide +kernel)) (by decide) (x_hdk (by decide)) (Nat.le_of_ble_eq_true rfl) (Nat.le_of_ble_eq_true rfl) (fun q4 H locs hP hD hS => ?_)
  refine x_arr (t := 30961) (k := 5) (idx := 27) (N := 8) (j := 0) (n := 30) (T := TX2) (at_ := .int) (ty := .int) (fty := .array .int) (cX := cI) (a0 := (30, .inl (x_0 30961))) F hin hK hP hD hS hA hl dX2_init_44 dX2_init_45 dX2_init_47 dX2_init_49 (by decide) rfl (fun _ h => by cases h) rfl (by decide) (fun _ => rfl) (fun _ => rfl) xa_int rfl (by decide) (z_mT 56 (by decide +kernel) rfl) rfl rfl (by decide +kernel) (fun _ => rfl) (fun _ => rfl) rfl (x_uniq (by decide +kernel)) (by decide) (x_hdk (by decide)) (Nat.le_of_ble_eq_true rfl) (Nat.le_of_ble_eq_true rfl) (fun q5 H locs hP hD hS => ?_)
  refine W.widen (k := 6) (n := 132) (Nat.le_of_ble_eq_true rfl) (Nat.le_of_ble_eq_true rfl) ?_
  have hP := x_Pend (ids := xi_2) hP rfl (by decide) (by decide +kernel) rfl
  have hD := x_Dend (ids := xi_2) hD rfl (by decide) (by decide +kernel) rfl
  exact W.vret B.exec B.bytes hr (fun t ht hW => ⟨⟨_, rfl, rfl, by rw [ht]; exact hP, hD⟩, hS.F ht⟩) hS.2.2 dX2_init_52
def xi_5 : List Nat := [6184, 32849, 34897, 37825, 39873]
set_option maxRecDepth 20000 in
set_option maxHeartbeats 8000000 in
theorem kt_5 (l : Launch) : x_KT l yX5_init cX5_init 6184 xi_5 1 12 4 260 := by
  intro D cI cZ cJ h0 sz
  refine Met.ofW (cc := cX5_init) (maxL := 1) (ret := none) (by decide) rfl ?_
  intro p e s m args below meth c s₁ B hml hv
  obtain ⟨rfl, hsz, hP, hK, hNest⟩ := hv
  subst hsz
  have hts0 := atoms_spec (ws := Jvm.Cond.code yX5_init cX5_init 1 none :: z_T) B.pre
  have hown : s.vm.findClass RX5 = some m.cls := findClass_of_methodNamed B.named
  have hr := B.returns
  have hlocks := B.notSynchronized
  have hin : meth.name = "<init>" := (name_of_methodNamed B.named B.method).1
  have hts : ∀ w ∈ z_T, w.before _ s = true := fun w hw => hts0 w (List.mem_cons_of_mem _ hw)
  have F : CallFix p m c cX5_init 1 s _ z_T RX5 := ⟨B.exec, B.bytes, hml, hown, hts⟩
  have hP : va_P D z_cl (x_W cI cZ cJ (fun _ => h0) [] h0 6184) s.heap := by rw [x_W_0]; exact hP
  have hD : va_D (va_A (x_c0 h0 6184) s.heap.size) (x_W cI cZ cJ (fun _ => h0) [] h0 6184) := by rw [x_W_0]; exact x_D0
  have hA : ∀ q : Nat, s.heap.size ≤ q → va_A (x_c0 h0 6184) s.heap.size q := fun q h => Or.inr h
  have hS : va_S (va_A (x_c0 h0 6184) s.heap.size) s.heap s.heap [] := va_S.rf
  have hl := lv_entry ([.ref h0]) (n := 1) (Nat.le_of_ble_eq_true rfl)
  rw [lg_entry_eq]
  generalize (lg_sl ([.ref h0]) ++ List.replicate (1 - (lg_sl ([.ref h0])).length) Slot.unset).toArray = ls at hl ⊢
  have hl : lv_has ls 1 [(0, .ref h0)] := hl
  refine lv_aload_n B.exec B.bytes dX5_init_0 rfl (lv_at hl 0 rfl) ?_
  refine W.objInit B.exec B.bytes hown (hts _ (z_mT 85 (by decide +kernel) rfl)) (hts _ (z_mT 41 (by decide +kernel) rfl)) (hts _ (z_mT 42 (by decide +kernel) rfl)) rfl (by rw [hml]; exact hl.1) rfl dX5_init_1 (Nat.le_of_ble_eq_true rfl) (Nat.le_of_ble_eq_true rfl) ?_
  refine W.eq (g2 := F0 m 4 ls []) rfl ?_
  refine x_arr (t := 32849) (k := 0) (idx := 9) (N := 5) (j := 0) (n := 10) (T := TX5) (at_ := .int) (ty := .int) (fty := .array .int) (cX := cI) (a0 := (10, .inl (x_0 32849))) F hin hK hP hD hS hA hl dX5_init_4 dX5_init_5 dX5_init_7 dX5_init_9 (by decide) rfl (fun _ h => by cases h) rfl (by decide) (fun _ => rfl) (fun _ => rfl) xa_int rfl (by decide) (z_mT 86 (by decide +kernel) rfl) rfl rfl (by decide +kernel) (fun _ => rfl) (fun _ => rfl) rfl (x_uniq (by decide +kernel)) (by decide) (x_hdk (by decide)) (Nat.le_of_ble_eq_true rfl) (Nat.le_of_ble_eq_true rfl) (fun q0 H locs hP hD hS => ?_)
  refine x_arr (t := 34897) (k := 1) (idx := 15) (N := 5) (j := 0) (n := 10) (T := TX5) (at_ := .int) (ty := .int) (fty := .array .int) (cX := cI) (a0 := (10, .inl (x_0 34897))) F hin hK hP hD hS hA hl dX5_init_12 dX5_init_13 dX5_init_15 dX5_init_17 (by decide) rfl (fun _ h => by cases h) rfl (by decide) (fun _ => rfl) (fun _ => rfl) xa_int rfl (by decide) (z_mT 88 (by decide +kernel) rfl) rfl rfl (by decide +kernel) (fun _ => rfl) (fun _ => rfl) rfl (x_uniq (by decide +kernel)) (by decide) (x_hdk (by decide)) (Nat.le_of_ble_eq_true rfl) (Nat.le_of_ble_eq_true rfl) (fun q1 H locs hP hD hS => ?_)
  refine x_arr (t := 37825) (k := 2) (idx := 18) (N := 5) (j := 0) (n := 120) (T := TX5) (at_ := .int) (ty := .int) (fty := .array .int) (cX := cI) (a0 := (120, .inl (x_0 37825))) F hin hK hP hD hS hA hl dX5_init_20 dX5_init_21 dX5_init_23 dX5_init_25 (by decide) rfl (fun _ h => by cases h) rfl (by decide) (fun _ => rfl) (fun _ => rfl) xa_int rfl (by decide) (z_mT 90 (by decide +kernel) rfl) rfl rfl (by decide +kernel) (fun _ => rfl) (fun _ => rfl) rfl (x_uniq (by decide +kernel)) (by decide) (x_hdk (by decide)) (Nat.le_of_ble_eq_true rfl) (Nat.le_of_ble_eq_true rfl) (fun q2 H locs hP hD hS => ?_)
  refine x_arr (t := 39873) (k := 3) (idx := 21) (N := 5) (j := 0) (n := 120) (T := TX5) (at_ := .int) (ty := .int) (fty := .array .int) (cX := cI) (a0 := (120, .inl (x_0 39873))) F hin hK hP hD hS hA hl dX5_init_28 dX5_init_29 dX5_init_31 dX5_init_33 (by decide) rfl (fun _ h => by cases h) rfl (by decide) (fun _ => rfl) (fun _ => rfl) xa_int rfl (by decide) (z_mT 91 (by decide +kernel) rfl) rfl rfl (by decide +kernel) (fun _ => rfl) (fun _ => rfl) rfl (x_uniq (by decide +kernel)) (by decide) (x_hdk (by decide)) (Nat.le_of_ble_eq_true rfl) (Nat.le_of_ble_eq_true rfl) (fun q3 H locs hP hD hS => ?_)
  refine W.widen (k := 4) (n := 260) (Nat.le_of_ble_eq_true rfl) (Nat.le_of_ble_eq_true rfl) ?_
  have hP := x_Pend (ids := xi_5) hP rfl (by decide) (by decide +kernel) rfl
  have hD := x_Dend (ids := xi_5) hD rfl (by decide) (by decide +kernel) rfl
  exact W.vret B.exec B.bytes hr (fun t ht hW => ⟨⟨_, rfl, rfl, by rw [ht]; exact hP, hD⟩, hS.F ht⟩) hS.2.2 dX5_init_36
def xi_3 : List Nat := [8216, 41441, 43489, 45537, 47585, 49201, 51585, 53633]
set_option maxRecDepth 20000 in
set_option maxHeartbeats 8000000 in
theorem kt_3 (l : Launch) : x_KT l yX3_init cX3_init 8216 xi_3 1 12 7 342 := by
  intro D cI cZ cJ h0 sz
  refine Met.ofW (cc := cX3_init) (maxL := 1) (ret := none) (by decide) rfl ?_
  intro p e s m args below meth c s₁ B hml hv
  obtain ⟨rfl, hsz, hP, hK, hNest⟩ := hv
  subst hsz
  have hts0 := atoms_spec (ws := Jvm.Cond.code yX3_init cX3_init 1 none :: z_T) B.pre
  have hown : s.vm.findClass RX3 = some m.cls := findClass_of_methodNamed B.named
  have hr := B.returns
  have hlocks := B.notSynchronized
  have hin : meth.name = "<init>" := (name_of_methodNamed B.named B.method).1
  have hts : ∀ w ∈ z_T, w.before _ s = true := fun w hw => hts0 w (List.mem_cons_of_mem _ hw)
  have F : CallFix p m c cX3_init 1 s _ z_T RX3 := ⟨B.exec, B.bytes, hml, hown, hts⟩
  have hP : va_P D z_cl (x_W cI cZ cJ (fun _ => h0) [] h0 8216) s.heap := by rw [x_W_0]; exact hP
  have hD : va_D (va_A (x_c0 h0 8216) s.heap.size) (x_W cI cZ cJ (fun _ => h0) [] h0 8216) := by rw [x_W_0]; exact x_D0
  have hA : ∀ q : Nat, s.heap.size ≤ q → va_A (x_c0 h0 8216) s.heap.size q := fun q h => Or.inr h
  have hS : va_S (va_A (x_c0 h0 8216) s.heap.size) s.heap s.heap [] := va_S.rf
  have hl := lv_entry ([.ref h0]) (n := 1) (Nat.le_of_ble_eq_true rfl)
  rw [lg_entry_eq]
  generalize (lg_sl ([.ref h0]) ++ List.replicate (1 - (lg_sl ([.ref h0])).length) Slot.unset).toArray = ls at hl ⊢
  have hl : lv_has ls 1 [(0, .ref h0)] := hl
  refine lv_aload_n B.exec B.bytes dX3_init_0 rfl (lv_at hl 0 rfl) ?_
  refine W.objInit B.exec B.bytes hown (hts _ (z_mT 110 (by decide +kernel) rfl)) (hts _ (z_mT 41 (by decide +kernel) rfl)) (hts _ (z_mT 42 (by decide +kernel) rfl)) rfl (by rw [hml]; exact hl.1) rfl dX3_init_1 (Nat.le_of_ble_eq_true rfl) (Nat.le_of_ble_eq_true rfl) ?_
  refine W.eq (g2 := F0 m 4 ls []) rfl ?_
  refine x_arr (t := 41441) (k := 0) (idx := 9) (N := 8) (j := 0) (n := 60) (T := TX3) (at_ := .int) (ty := .int) (fty := .array .int) (cX := cI) (a0 := (60, .inl (x_0 41441))) F hin hK hP hD hS hA hl dX3_init_4 dX3_init_5 dX3_init_7 dX3_init_9 (by decide) rfl (fun _ h => by cases h) rfl (by decide) (fun _ => rfl) (fun _ => rfl) xa_int rfl (by decide) (z_mT 111 (by decide +kernel) rfl) rfl rfl (by decide +kernel) (fun _ => rfl) (fun _ => rfl) rfl (x_uniq (by decide +kernel)) (by decide) (x_hdk (by decide)) (Nat.le_of_ble_eq_true rfl) (Nat.le_of_ble_eq_true rfl) (fun q0 H locs hP hD hS => ?_)
  refine x_arr (t := 43489) (k := 1) (idx := 15) (N := 8) (j := 0) (n := 60) (T := TX3) (at_ := .int) (ty := .int) (fty := .array .int) (cX := cI) (a0 := (60, .inl (x_0 43489))) F hin hK hP hD hS hA hl dX3_init_12 dX3_init_13 dX3_init_15 dX3_init_17 (by decide) rfl (fun _ h => by cases h) rfl (by decide) (fun _ => rfl) (fun _ => rfl) xa_int rfl (by decide) (z_mT 112 (by decide +kernel) rfl) rfl rfl (by decide +kernel) (fun _ => rfl) (fun _ => rfl) rfl (x_uniq (by decide +kernel)) (by decide) (x_hdk (by decide)) (Nat.le_of_ble_eq_true rfl) (Nat.le_of_ble_eq_true rfl) (fun q1 H locs hP hD hS => ?_)
  refine x_arr (t := 45537) (k := 2) (idx := 18) (N := 8) (j := 0) (n := 60) (T := TX3) (at_ := .int) (ty := .int) (fty := .array .int) (cX := cI) (a0 := (60, .inl (x_0 45537))) F hin hK hP hD hS hA hl dX3_init_20 dX3_init_21 dX3_init_23 dX3_init_25 (by decide) rfl (fun _ h => by cases h) rfl (by decide) (fun _ => rfl) (fun _ => rfl) xa_int rfl (by decide) (z_mT 113 (by decide +kernel) rfl) rfl rfl (by decide +kernel) (fun _ => rfl) (fun _ => rfl) rfl (x_uniq (by decide +kernel)) (by decide) (x_hdk (by decide)) (Nat.le_of_ble_eq_true rfl) (Nat.le_of_ble_eq_true rfl) (fun q2 H locs hP hD hS => ?_)
  refine x_arr (t := 47585) (k := 3) (idx := 21) (N := 8) (j := 0) (n := 60) (T := TX3) (at_ := .int) (ty := .int) (fty := .array .int) (cX := cI) (a0 := (60, .inl (x_0 47585))) F hin hK hP hD hS hA hl dX3_init_28 dX3_init_29 dX3_init_31 dX3_init_33 (by decide) rfl (fun _ h => by cases h) rfl (by decide) (fun _ => rfl) (fun _ => rfl) xa_int rfl (by decide) (z_mT 114 (by decide +kernel) rfl) rfl rfl (by decide +kernel) (fun _ => rfl) (fun _ => rfl) rfl (x_uniq (by decide +kernel)) (by decide) (x_hdk (by decide)) (Nat.le_of_ble_eq_true rfl) (Nat.le_of_ble_eq_true rfl) (fun q3 H locs hP hD hS => ?_)
  refine x_arr (t := 49201) (k := 4) (idx := 24) (N := 8) (j := 0) (n := 6) (T := TX3) (at_ := .int) (ty := .int) (fty := .array .int) (cX := cI) (a0 := (6, .inl (x_0 49201))) F hin hK hP hD hS hA hl dX3_init_36 dX3_init_37 dX3_init_39 dX3_init_41 (by decide) rfl (fun _ h => by cases h) rfl (by decide) (fun _ => rfl) (fun _ => rfl) xa_int rfl (by decide) (z_mT 115 (by decide +kernel) rfl) rfl rfl (by decide +kernel) (fun _ => rfl) (fun _ => rfl) rfl (x_uniq (by decide +kernel)) (by decide) (x_hdk (by decide)) (Nat.le_of_ble_eq_true rfl) (Nat.le_of_ble_eq_true rfl) (fun q4 H locs hP hD hS => ?_)
  refine x_arr (t := 51585) (k := 5) (idx := 27) (N := 8) (j := 0) (n := 48) (T := TX3) (at_ := .int) (ty := .int) (fty := .array .int) (cX := cI) (a0 := (48, .inl (x_0 51585))) F hin hK hP hD hS hA hl dX3_init_44 dX3_init_45 dX3_init_47 dX3_init_49 (by decide) rfl (fun _ h => by cases h) rfl (by decide) (fun _ => rfl) (fun _ => rfl) xa_int rfl (by decide) (z_mT 117 (by decide +kernel) rfl) rfl rfl (by decide +kernel) (fun _ => rfl) (fun _ => rfl) rfl (x_uniq (by decide +kernel)) (by decide) (x_hdk (by decide)) (Nat.le_of_ble_eq_true rfl) (Nat.le_of_ble_eq_true rfl) (fun q5 H locs hP hD hS => ?_)
  refine x_arr (t := 53633) (k := 6) (idx := 30) (N := 8) (j := 0) (n := 48) (T := TX3) (at_ := .int) (ty := .int) (fty := .array .int) (cX := cI) (a0 := (48, .inl (x_0 53633))) F hin hK hP hD hS hA hl dX3_init_52 dX3_init_53 dX3_init_55 dX3_init_57 (by decide) rfl (fun _ h => by cases h) rfl (by decide) (fun _ => rfl) (fun _ => rfl) xa_int rfl (by decide) (z_mT 118 (by decide +kernel) rfl) rfl rfl (by decide +kernel) (fun _ => rfl) (fun _ => rfl) rfl (x_uniq (by decide +kernel)) (by decide) (x_hdk (by decide)) (Nat.le_of_ble_eq_true rfl) (Nat.le_of_ble_eq_true rfl) (fun q6 H locs hP hD hS => ?_)
  refine W.widen (k := 7) (n := 342) (Nat.le_of_ble_eq_true rfl) (Nat.le_of_ble_eq_true rfl) ?_
  have hP := x_Pend (ids := xi_3) hP rfl (by decide) (by decide +kernel) rfl
  have hD := x_Dend (ids := xi_3) hD rfl (by decide) (by decide +kernel) rfl
  exact W.vret B.exec B.bytes hr (fun t ht hW => ⟨⟨_, rfl, rfl, by rw [ht]; exact hP, hD⟩, hS.F ht⟩) hS.2.2 dX3_init_60
def xi_0 : List Nat := [10240, 55617, 57665, 59713, 61761, 63809, 65857, 67906, 69954]
set_option maxRecDepth 20000 in
set_option maxHeartbeats 8000000 in
theorem kt_0 (l : Launch) : x_KT l yX0_init cX0_init 10240 xi_0 1 12 8 320 := by
  intro D cI cZ cJ h0 sz
  refine Met.ofW (cc := cX0_init) (maxL := 1) (ret := none) (by decide) rfl ?_
  intro p e s m args below meth c s₁ B hml hv
  obtain ⟨rfl, hsz, hP, hK, hNest⟩ := hv
  subst hsz
  have hts0 := atoms_spec (ws := Jvm.Cond.code yX0_init cX0_init 1 none :: z_T) B.pre
  have hown : s.vm.findClass RX0 = some m.cls := findClass_of_methodNamed B.named
  have hr := B.returns
  have hlocks := B.notSynchronized
  have hin : meth.name = "<init>" := (name_of_methodNamed B.named B.method).1
  have hts : ∀ w ∈ z_T, w.before _ s = true := fun w hw => hts0 w (List.mem_cons_of_mem _ hw)
  have F : CallFix p m c cX0_init 1 s _ z_T RX0 := ⟨B.exec, B.bytes, hml, hown, hts⟩
  have hP : va_P D z_cl (x_W cI cZ cJ (fun _ => h0) [] h0 10240) s.heap := by rw [x_W_0]; exact hP
  have hD : va_D (va_A (x_c0 h0 10240) s.heap.size) (x_W cI cZ cJ (fun _ => h0) [] h0 10240) := by rw [x_W_0]; exact x_D0
  have hA : ∀ q : Nat, s.heap.size ≤ q → va_A (x_c0 h0 10240) s.heap.size q := fun q h => Or.inr h
  have hS : va_S (va_A (x_c0 h0 10240) s.heap.size) s.heap s.heap [] := va_S.rf
  have hl := lv_entry ([.ref h0]) (n := 1) (Nat.le_of_ble_eq_true rfl)
  rw [lg_entry_eq]
  generalize (lg_sl ([.ref h0]) ++ List.replicate (1 - (lg_sl ([.ref h0])).length) Slot.unset).toArray = ls at hl ⊢
  have hl : lv_has ls 1 [(0, .ref h0)] := hl
  refine lv_aload_n B.exec B.bytes dX0_init_0 rfl (lv_at hl 0 rfl) ?_
  refine W.objInit B.exec B.bytes hown (hts _ (z_mT 143 (by decide +kernel) rfl)) (hts _ (z_mT 41 (by decide +kernel) rfl)) (hts _ (z_mT 42 (by decide +kernel) rfl)) rfl (by rw [hml]; exact hl.1) rfl dX0_init_1 (Nat.le_of_ble_eq_true rfl) (Nat.le_of_ble_eq_true rfl) ?_
  refine W.eq (g2 := F0 m 4 ls []) rfl ?_
  refine x_arr (t := 55617) (k := 0) (idx := 9) (N := 9) (j := 0) (n := 40) (T := TX0) (at_ := .int) (ty := .int) (fty := .array .int) (cX := cI) (a0 := (40, .inl (x_0 55617))) F hin hK hP hD hS hA hl dX0_init_4 dX0_init_5 dX0_init_7 dX0_init_9 (by decide) rfl (fun _ h => by cases h) rfl (by decide) (fun _ => rfl) (fun _ => rfl) xa_int rfl (by decide) (z_mT 144 (by decide +kernel) rfl) rfl rfl (by decide +kernel) (fun _ => rfl) (fun _ => rfl) rfl (x_uniq (by decide +kernel)) (by decide) (x_hdk (by decide)) (Nat.le_of_ble_eq_true rfl) (Nat.le_of_ble_eq_true rfl) (fun q0 H locs hP hD hS => ?_)
  refine x_arr (t := 57665) (k := 1) (idx := 15) (N := 9) (j := 0) (n := 40) (T := TX0) (at_ := .int) (ty := .int) (fty := .array .int) (cX := cI) (a0 := (40, .inl (x_0 57665))) F hin hK hP hD hS hA hl dX0_init_12 dX0_init_13 dX0_init_15 dX0_init_17 (by decide) rfl (fun _ h => by cases h) rfl (by decide) (fun _ => rfl) (fun _ => rfl) xa_int rfl (by decide) (z_mT 146 (by decide +kernel) rfl) rfl rfl (by decide +kernel) (fun _ => rfl) (fun _ => rfl) rfl (x_uniq (by decide +kernel)) (by decide) (x_hdk (by decide)) (Nat.le_of_ble_eq_true rfl) (Nat.le_of_ble_eq_true rfl) (fun q1 H locs hP hD hS => ?_)
  refine x_arr (t := 59713) (k := 2) (idx := 18) (N := 9) (j := 0) (n := 40) (T := TX0) (at_ := .int) (ty := .int) (fty := .array .int) (cX := cI) (a0 := (40, .inl (x_0 59713))) F hin hK hP hD hS hA hl dX0_init_20 dX0_init_21 dX0_init_23 dX0_init_25 (by decide) rfl (fun _ h => by cases h) rfl (by decide) (fun _ => rfl) (fun _ => rfl) xa_int rfl (by decide) (z_mT 148 (by decide +kernel) rfl) rfl rfl (by decide +kernel) (fun _ => rfl) (fun _ => rfl) rfl (x_uniq (by decide +kernel)) (by decide) (x_hdk (by decide)) (Nat.le_of_ble_eq_true rfl) (Nat.le_of_ble_eq_true rfl) (fun q2 H locs hP hD hS => ?_)
  refine x_arr (t := 61761) (k := 3) (idx := 21) (N := 9) (j := 0) (n := 40) (T := TX0) (at_ := .int) (ty := .int) (fty := .array .int) (cX := cI) (a0 := (40, .inl (x_0 61761))) F hin hK hP hD hS hA hl dX0_init_28 dX0_init_29 dX0_init_31 dX0_init_33 (by decide) rfl (fun _ h => by cases h) rfl (by decide) (fun _ => rfl) (fun _ => rfl) xa_int rfl (by decide) (z_mT 149 (by decide +kernel) rfl) rfl rfl (by decide +kernel) (fun _ => rfl) (fun _ => rfl) rfl (x_uniq (by decide +kernel)) (by decide) (x_hdk (by decide)) (Nat.le_of_ble_eq_true rfl) (Nat.le_of_ble_eq_true rfl) (fun q3 H locs hP hD hS => ?_)
  refine x_arr (t := 63809) (k := 4) (idx := 24) (N := 9) (j := 0) (n := 40) (T := TX0) (at_ := .int) (ty := .int) (fty := .array .int) (cX := cI) (a0 := (40, .inl (x_0 63809))) F hin hK hP hD hS hA hl dX0_init_36 dX0_init_37 dX0_init_39 dX0_init_41 (by decide) rfl (fun _ h => by cases h) rfl (by decide) (fun _ => rfl) (fun _ => rfl) xa_int rfl (by decide) (z_mT 150 (by decide +kernel) rfl) rfl rfl (by decide +kernel) (fun _ => rfl) (fun _ => rfl) rfl (x_uniq (by decide +kernel)) (by decide) (x_hdk (by decide)) (Nat.le_of_ble_eq_true rfl) (Nat.le_of_ble_eq_true rfl) (fun q4 H locs hP hD hS => ?_)
  refine x_arr (t := 65857) (k := 5) (idx := 27) (N := 9) (j := 0) (n := 40) (T := TX0) (at_ := .int) (ty := .int) (fty := .array .int) (cX := cI) (a0 := (40, .inl (x_0 65857))) F hin hK hP hD hS hA hl dX0_init_44 dX0_init_45 dX0_init_47 dX0_init_49 (by decide) rfl (fun _ h => by cases h) rfl (by decide) (fun _ => rfl) (fun _ => rfl) xa_int rfl (by decide) (z_mT 151 (by decide +kernel) rfl) rfl rfl (by decide +kernel) (fun _ => rfl) (fun _ => rfl) rfl (x_uniq (by decide +kernel)) (by decide) (x_hdk (by decide)) (Nat.le_of_ble_eq_true rfl) (Nat.le_of_ble_eq_true rfl) (fun q5 H locs hP hD hS => ?_)
  refine x_arr (t := 67906) (k := 6) (idx := 30) (N := 9) (j := 1) (n := 40) (T := TX0) (at_ := .boolean) (ty := .boolean) (fty := .array .boolean) (cX := cZ) (a0 := (40, .inl (x_0 67906))) F hin hK hP hD hS hA hl dX0_init_52 dX0_init_53 dX0_init_55 dX0_init_57 (by decide) rfl (fun _ h => by cases h) rfl (by decide) (fun _ => rfl) (fun _ => rfl) xa_boolean rfl (by decide) (z_mT 153 (by decide +kernel) rfl) rfl rfl (by decide +kernel) (fun _ => rfl) (fun _ => rfl) rfl (x_uniq (by decide +kernel)) (by decide) (x_hdk (by decide)) (Nat.le_of_ble_eq_true rfl) (Nat.le_of_ble_eq_true rfl) (fun q6 H locs hP hD hS => ?_)
  refine x_arr (t := 69954) (k := 7) (idx := 34) (N := 9) (j := 1) (n := 40) (T := TX0) (at_ := .boolean) (ty := .boolean) (fty := .array .boolean) (cX := cZ) (a0 := (40, .inl (x_0 69954))) F hin hK hP hD hS hA hl dX0_init_60 dX0_init_61 dX0_init_63 dX0_init_65 (by decide) rfl (fun _ h => by cases h) rfl (by decide) (fun _ => rfl) (fun _ => rfl) xa_boolean rfl (by decide) (z_mT 155 (by decide +kernel) rfl) rfl rfl (by decide +kernel) (fun _ => rfl) (fun _ => rfl) rfl (x_uniq (by decide +kernel)) (by decide) (x_hdk (by decide)) (Nat.le_of_ble_eq_true rfl) (Nat.le_of_ble_eq_true rfl) (fun q7 H locs hP hD hS => ?_)
  refine W.widen (k := 8) (n := 320) (Nat.le_of_ble_eq_true rfl) (Nat.le_of_ble_eq_true rfl) ?_
  have hP := x_Pend (ids := xi_0) hP rfl (by decide) (by decide +kernel) rfl
  have hD := x_Dend (ids := xi_0) hD rfl (by decide) (by decide +kernel) rfl
  exact W.vret B.exec B.bytes hr (fun t ht hW => ⟨⟨_, rfl, rfl, by rw [ht]; exact hP, hD⟩, hS.F ht⟩) hS.2.2 dX0_init_68
def xi_1 : List Nat := [12296, 71777, 73825, 75873, 77921, 79969, 82017, 84065, 86113]
set_option maxRecDepth 20000 in
set_option maxHeartbeats 8000000 in
theorem kt_1 (l : Launch) : x_KT l yX1_init cX1_init 12296 xi_1 1 12 8 96 := by
  intro D cI cZ cJ h0 sz
  refine Met.ofW (cc := cX1_init) (maxL := 1) (ret := none) (by decide) rfl ?_
  intro p e s m args below meth c s₁ B hml hv
  obtain ⟨rfl, hsz, hP, hK, hNest⟩ := hv
  subst hsz
  have hts0 := atoms_spec (ws := Jvm.Cond.code yX1_init cX1_init 1 none :: z_T) B.pre
  have hown : s.vm.findClass RX1 = some m.cls := findClass_of_methodNamed B.named
  have hr := B.returns
  have hlocks := B.notSynchronized
  have hin : meth.name = "<init>" := (name_of_methodNamed B.named B.method).1
  have hts : ∀ w ∈ z_T, w.before _ s = true := fun w hw => hts0 w (List.mem_cons_of_mem _ hw)
  have F : CallFix p m c cX1_init 1 s _ z_T RX1 := ⟨B.exec, B.bytes, hml, hown, hts⟩
  have hP : va_P D z_cl (x_W cI cZ cJ (fun _ => h0) [] h0 12296) s.heap := by rw [x_W_0]; exact hP
  have hD : va_D (va_A (x_c0 h0 12296) s.heap.size) (x_W cI cZ cJ (fun _ => h0) [] h0 12296) := by rw [x_W_0]; exact x_D0
  have hA : ∀ q : Nat, s.heap.size ≤ q → va_A (x_c0 h0 12296) s.heap.size q := fun q h => Or.inr h
  have hS : va_S (va_A (x_c0 h0 12296) s.heap.size) s.heap s.heap [] := va_S.rf
  have hl := lv_entry ([.ref h0]) (n := 1) (Nat.le_of_ble_eq_true rfl)
  rw [lg_entry_eq]
  generalize (lg_sl ([.ref h0]) ++ List.replicate (1 - (lg_sl ([.ref h0])).length) Slot.unset).toArray = ls at hl ⊢
  have hl : lv_has ls 1 [(0, .ref h0)] := hl
  refine lv_aload_n B.exec B.bytes dX1_init_0 rfl (lv_at hl 0 rfl) ?_
  refine W.objInit B.exec B.bytes hown (hts _ (z_mT 184 (by decide +kernel) rfl)) (hts _ (z_mT 41 (by decide +kernel) rfl)) (hts _ (z_mT 42 (by decide +kernel) rfl)) rfl (by rw [hml]; exact hl.1) rfl dX1_init_1 (Nat.le_of_ble_eq_true rfl) (Nat.le_of_ble_eq_true rfl) ?_
  refine W.eq (g2 := F0 m 4 ls []) rfl ?_
  refine x_arr (t := 71777) (k := 0) (idx := 9) (N := 9) (j := 0) (n := 12) (T := TX1) (at_ := .int) (ty := .int) (fty := .array .int) (cX := cI) (a0 := (12, .inl (x_0 71777))) F hin hK hP hD hS hA hl dX1_init_4 dX1_init_5 dX1_init_7 dX1_init_9 (by decide) rfl (fun _ h => by cases h) rfl (by decide) (fun _ => rfl) (fun _ => rfl) xa_int rfl (by decide) (z_mT 185 (by decide +kernel) rfl) rfl rfl (by decide +kernel) (fun _ => rfl) (fun _ => rfl) rfl (x_uniq (by decide +kernel)) (by decide) (x_hdk (by decide)) (Nat.le_of_ble_eq_true rfl) (Nat.le_of_ble_eq_true rfl) (fun q0 H locs hP hD hS => ?_)
  refine x_arr (t := 73825) (k := 1) (idx := 15) (N := 9) (j := 0) (n := 12) (T := TX1) (at_ := .int) (ty := .int) (fty := .array .int) (cX := cI) (a0 := (12, .inl (x_0 73825))) F hin hK hP hD hS hA hl dX1_init_12 dX1_init_13 dX1_init_15 dX1_init_17 (by decide) rfl (fun _ h => by cases h) rfl (by decide) (fun _ => rfl) (fun _ => rfl) xa_int rfl (by decide) (z_mT 187 (by decide +kernel) rfl) rfl rfl (by decide +kernel) (fun _ => rfl) (fun _ => rfl) rfl (x_uniq (by decide +kernel)) (by decide) (x_hdk (by decide)) (Nat.le_of_ble_eq_true rfl) (Nat.le_of_ble_eq_true rfl) (fun q1 H locs hP hD hS => ?_)
  refine x_arr (t := 75873) (k := 2) (idx := 18) (N := 9) (j := 0) (n := 12) (T := TX1) (at_ := .int) (ty := .int) (fty := .array .int) (cX := cI) (a0 := (12, .inl (x_0 75873))) F hin hK hP hD hS hA hl dX1_init_20 dX1_init_21 dX1_init_23 dX1_init_25 (by decide) rfl (fun _ h => by cases h) rfl (by decide) (fun _ => rfl) (fun _ => rfl) xa_int rfl (by decide) (z_mT 189 (by decide +kernel) rfl) rfl rfl (by decide +kernel) (fun _ => rfl) (fun _ => rfl) rfl (x_uniq (by decide +kernel)) (by decide) (x_hdk (by decide)) (Nat.le_of_ble_eq_true rfl) (Nat.le_of_ble_eq_true rfl) (fun q2 H locs hP hD hS => ?_)
  refine x_arr (t := 77921) (k := 3) (idx := 21) (N := 9) (j := 0) (n := 12) (T := TX1) (at_ := .int) (ty := .int) (fty := .array .int) (cX := cI) (a0 := (12, .inl (x_0 77921))) F hin hK hP hD hS hA hl dX1_init_28 dX1_init_29 dX1_init_31 dX1_init_33 (by decide) rfl (fun _ h => by cases h) rfl (by decide) (fun _ => rfl) (fun _ => rfl) xa_int rfl (by decide) (z_mT 190 (by decide +kernel) rfl) rfl rfl (by decide +kernel) (fun _ => rfl) (fun _ => rfl) rfl (x_uniq (by decide +kernel)) (by decide) (x_hdk (by decide)) (Nat.le_of_ble_eq_true rfl) (Nat.le_of_ble_eq_true rfl) (fun q3 H locs hP hD hS => ?_)
  refine x_arr (t := 79969) (k := 4) (idx := 24) (N := 9) (j := 0) (n := 12) (T := TX1) (at_ := .int) (ty := .int) (fty := .array .int) (cX := cI) (a0 := (12, .inl (x_0 79969))) F hin hK hP hD hS hA hl dX1_init_36 dX1_init_37 dX1_init_39 dX1_init_41 (by decide) rfl (fun _ h => by cases h) rfl (by decide) (fun _ => rfl) (fun _ => rfl) xa_int rfl (by decide) (z_mT 192 (by decide +kernel) rfl) rfl rfl (by decide +kernel) (fun _ => rfl) (fun _ => rfl) rfl (x_uniq (by decide +kernel)) (by decide) (x_hdk (by decide)) (Nat.le_of_ble_eq_true rfl) (Nat.le_of_ble_eq_true rfl) (fun q4 H locs hP hD hS => ?_)
  refine x_arr (t := 82017) (k := 5) (idx := 27) (N := 9) (j := 0) (n := 12) (T := TX1) (at_ := .int) (ty := .int) (fty := .array .int) (cX := cI) (a0 := (12, .inl (x_0 82017))) F hin hK hP hD hS hA hl dX1_init_44 dX1_init_45 dX1_init_47 dX1_init_49 (by decide) rfl (fun _ h => by cases h) rfl (by decide) (fun _ => rfl) (fun _ => rfl) xa_int rfl (by decide) (z_mT 194 (by decide +kernel) rfl) rfl rfl (by decide +kernel) (fun _ => rfl) (fun _ => rfl) rfl (x_uniq (by decide +kernel)) (by decide) (x_hdk (by decide)) (Nat.le_of_ble_eq_true rfl) (Nat.le_of_ble_eq_true rfl) (fun q5 H locs hP hD hS => ?_)
  refine x_arr (t := 84065) (k := 6) (idx := 30) (N := 9) (j := 0) (n := 12) (T := TX1) (at_ := .int) (ty := .int) (fty := .array .int) (cX := cI) (a0 := (12, .inl (x_0 84065))) F hin hK hP hD hS hA hl dX1_init_52 dX1_init_53 dX1_init_55 dX1_init_57 (by decide) rfl (fun _ h => by cases h) rfl (by decide) (fun _ => rfl) (fun _ => rfl) xa_int rfl (by decide) (z_mT 196 (by decide +kernel) rfl) rfl rfl (by decide +kernel) (fun _ => rfl) (fun _ => rfl) rfl (x_uniq (by decide +kernel)) (by decide) (x_hdk (by decide)) (Nat.le_of_ble_eq_true rfl) (Nat.le_of_ble_eq_true rfl) (fun q6 H locs hP hD hS => ?_)
  refine x_arr (t := 86113) (k := 7) (idx := 33) (N := 9) (j := 0) (n := 12) (T := TX1) (at_ := .int) (ty := .int) (fty := .array .int) (cX := cI) (a0 := (12, .inl (x_0 86113))) F hin hK hP hD hS hA hl dX1_init_60 dX1_init_61 dX1_init_63 dX1_init_65 (by decide) rfl (fun _ h => by cases h) rfl (by decide) (fun _ => rfl) (fun _ => rfl) xa_int rfl (by decide) (z_mT 198 (by decide +kernel) rfl) rfl rfl (by decide +kernel) (fun _ => rfl) (fun _ => rfl) rfl (x_uniq (by decide +kernel)) (by decide) (x_hdk (by decide)) (Nat.le_of_ble_eq_true rfl) (Nat.le_of_ble_eq_true rfl) (fun q7 H locs hP hD hS => ?_)
  refine W.widen (k := 8) (n := 96) (Nat.le_of_ble_eq_true rfl) (Nat.le_of_ble_eq_true rfl) ?_
  have hP := x_Pend (ids := xi_1) hP rfl (by decide) (by decide +kernel) rfl
  have hD := x_Dend (ids := xi_1) hD rfl (by decide) (by decide +kernel) rfl
  exact W.vret B.exec B.bytes hr (fun t ht hW => ⟨⟨_, rfl, rfl, by rw [ht]; exact hP, hD⟩, hS.F ht⟩) hS.2.2 dX1_init_68
def xi_4 : List Nat := [14368, 88161, 90209, 92257, 94305, 96353, 98401, 100449, 102497, 104545, 106594, 108642]
set_option maxRecDepth 20000 in
set_option maxHeartbeats 8000000 in
theorem kt_4 (l : Launch) : x_KT l yX4_init cX4_init 14368 xi_4 1 12 11 132 := by
  intro D cI cZ cJ h0 sz
  refine Met.ofW (cc := cX4_init) (maxL := 1) (ret := none) (by decide) rfl ?_
  intro p e s m args below meth c s₁ B hml hv
  obtain ⟨rfl, hsz, hP, hK, hNest⟩ := hv
  subst hsz
  have hts0 := atoms_spec (ws := Jvm.Cond.code yX4_init cX4_init 1 none :: z_T) B.pre
  have hown : s.vm.findClass RX4 = some m.cls := findClass_of_methodNamed B.named
  have hr := B.returns
  have hlocks := B.notSynchronized
  have hin : meth.name = "<init>" := (name_of_methodNamed B.named B.method).1
  have hts : ∀ w ∈ z_T, w.before _ s = true := fun w hw => hts0 w (List.mem_cons_of_mem _ hw)
  have F : CallFix p m c cX4_init 1 s _ z_T RX4 := ⟨B.exec, B.bytes, hml, hown, hts⟩
  have hP : va_P D z_cl (x_W cI cZ cJ (fun _ => h0) [] h0 14368) s.heap := by rw [x_W_0]; exact hP
  have hD : va_D (va_A (x_c0 h0 14368) s.heap.size) (x_W cI cZ cJ (fun _ => h0) [] h0 14368) := by rw [x_W_0]; exact x_D0
  have hA : ∀ q : Nat, s.heap.size ≤ q → va_A (x_c0 h0 14368) s.heap.size q := fun q h => Or.inr h
  have hS : va_S (va_A (x_c0 h0 14368) s.heap.size) s.heap s.heap [] := va_S.rf
  have hl := lv_entry ([.ref h0]) (n := 1) (Nat.le_of_ble_eq_true rfl)
  rw [lg_entry_eq]
  generalize (lg_sl ([.ref h0]) ++ List.replicate (1 - (lg_sl ([.ref h0])).length) Slot.unset).toArray = ls at hl ⊢
  have hl : lv_has ls 1 [(0, .ref h0)] := hl
  refine lv_aload_n B.exec B.bytes dX4_init_0 rfl (lv_at hl 0 rfl) ?_
  refine W.objInit B.exec B.bytes hown (hts _ (z_mT 226 (by decide +kernel) rfl)) (hts _ (z_mT 41 (by decide +kernel) rfl)) (hts _ (z_mT 42 (by decide +kernel) rfl)) rfl (by rw [hml]; exact hl.1) rfl dX4_init_1 (Nat.le_of_ble_eq_true rfl) (Nat.le_of_ble_eq_true rfl) ?_
  refine W.eq (g2 := F0 m 4 ls []) rfl ?_
  refine x_arr (t := 88161) (k := 0) (idx := 9) (N := 12) (j := 0) (n := 12) (T := TX4) (at_ := .int) (ty := .int) (fty := .array .int) (cX := cI) (a0 := (12, .inl (x_0 88161))) F hin hK hP hD hS hA hl dX4_init_4 dX4_init_5 dX4_init_7 dX4_init_9 (by decide) rfl (fun _ h => by cases h) rfl (by decide) (fun _ => rfl) (fun _ => rfl) xa_int rfl (by decide) (z_mT 227 (by decide +kernel) rfl) rfl rfl (by decide +kernel) (fun _ => rfl) (fun _ => rfl) rfl (x_uniq (by decide +kernel)) (by decide) (x_hdk (by decide)) (Nat.le_of_ble_eq_true rfl) (Nat.le_of_ble_eq_true rfl) (fun q0 H locs hP hD hS => ?_)
  refine x_arr (t := 90209) (k := 1) (idx := 15) (N := 12) (j := 0) (n := 12) (T := TX4) (at_ := .int) (ty := .int) (fty := .array .int) (cX := cI) (a0 := (12, .inl (x_0 90209))) F hin hK hP hD hS hA hl dX4_init_12 dX4_init_13 dX4_init_15 dX4_init_17 (by decide) rfl (fun _ h => by cases h) rfl (by decide) (fun _ => rfl) (fun _ => rfl) xa_int rfl (by decide) (z_mT 229 (by decide +kernel) rfl) rfl rfl (by decide +kernel) (fun _ => rfl) (fun _ => rfl) rfl (x_uniq (by decide +kernel)) (by decide) (x_hdk (by decide)) (Nat.le_of_ble_eq_true rfl) (Nat.le_of_ble_eq_true rfl) (fun q1 H locs hP hD hS => ?_)
  refine x_arr (t := 92257) (k := 2) (idx := 18) (N := 12) (j := 0) (n := 12) (T := TX4) (at_ := .int) (ty := .int) (fty := .array .int) (cX := cI) (a0 := (12, .inl (x_0 92257))) F hin hK hP hD hS hA hl dX4_init_20 dX4_init_21 dX4_init_23 dX4_init_25 (by decide) rfl (fun _ h => by cases h) rfl (by decide) (fun _ => rfl) (fun _ => rfl) xa_int rfl (by decide) (z_mT 231 (by decide +kernel) rfl) rfl rfl (by decide +kernel) (fun _ => rfl) (fun _ => rfl) rfl (x_uniq (by decide +kernel)) (by decide) (x_hdk (by decide)) (Nat.le_of_ble_eq_true rfl) (Nat.le_of_ble_eq_true rfl) (fun q2 H locs hP hD hS => ?_)
  refine x_arr (t := 94305) (k := 3) (idx := 21) (N := 12) (j := 0) (n := 12) (T := TX4) (at_ := .int) (ty := .int) (fty := .array .int) (cX := cI) (a0 := (12, .inl (x_0 94305))) F hin hK hP hD hS hA hl dX4_init_28 dX4_init_29 dX4_init_31 dX4_init_33 (by decide) rfl (fun _ h => by cases h) rfl (by decide) (fun _ => rfl) (fun _ => rfl) xa_int rfl (by decide) (z_mT 233 (by decide +kernel) rfl) rfl rfl (by decide +kernel) (fun _ => rfl) (fun _ => rfl) rfl (x_uniq (by decide +kernel)) (by decide) (x_hdk (by decide)) (Nat.le_of_ble_eq_true rfl) (Nat.le_of_ble_eq_true rfl) (fun q3 H locs hP hD hS => ?_)
  refine x_arr (t := 96353) (k := 4) (idx := 24) (N := 12) (j := 0) (n := 12) (T := TX4) (at_ := .int) (ty := .int) (fty := .array .int) (cX := cI) (a0 := (12, .inl (x_0 96353))) F hin hK hP hD hS hA hl dX4_init_36 dX4_init_37 dX4_init_39 dX4_init_41 (by decide) rfl (fun _ h => by cases h) rfl (by decide) (fun _ => rfl) (fun _ => rfl) xa_int rfl (by decide) (z_mT 235 (by decide +kernel) rfl) rfl rfl (by decide +kernel) (fun _ => rfl) (fun _ => rfl) rfl (x_uniq (by decide +kernel)) (by decide) (x_hdk (by decide)) (Nat.le_of_ble_eq_true rfl) (Nat.le_of_ble_eq_true rfl) (fun q4 H locs hP hD hS => ?_)
  refine x_arr (t := 98401) (k := 5) (idx := 27) (N := 12) (j := 0) (n := 12) (T := TX4) (at_ := .int) (ty := .int) (fty := .array .int) (cX := cI) (a0 := (12, .inl (x_0 98401))) F hin hK hP hD hS hA hl dX4_init_44 dX4_init_45 dX4_init_47 dX4_init_49 (by decide) rfl (fun _ h => by cases h) rfl (by decide) (fun _ => rfl) (fun _ => rfl) xa_int rfl (by decide) (z_mT 237 (by decide +kernel) rfl) rfl rfl (by decide +kernel) (fun _ => rfl) (fun _ => rfl) rfl (x_uniq (by decide +kernel)) (by decide) (x_hdk (by decide)) (Nat.le_of_ble_eq_true rfl) (Nat.le_of_ble_eq_true rfl) (fun q5 H locs hP hD hS => ?_)
  refine x_arr (t := 100449) (k := 6) (idx := 30) (N := 12) (j := 0) (n := 12) (T := TX4) (at_ := .int) (ty := .int) (fty := .array .int) (cX := cI) (a0 := (12, .inl (x_0 100449))) F hin hK hP hD hS hA hl dX4_init_52 dX4_init_53 dX4_init_55 dX4_init_57 (by decide) rfl (fun _ h => by cases h) rfl (by decide) (fun _ => rfl) (fun _ => rfl) xa_int rfl (by decide) (z_mT 239 (by decide +kernel) rfl) rfl rfl (by decide +kernel) (fun _ => rfl) (fun _ => rfl) rfl (x_uniq (by decide +kernel)) (by decide) (x_hdk (by decide)) (Nat.le_of_ble_eq_true rfl) (Nat.le_of_ble_eq_true rfl) (fun q6 H locs hP hD hS => ?_)
  refine x_arr (t := 102497) (k := 7) (idx := 33) (N := 12) (j := 0) (n := 12) (T := TX4) (at_ := .int) (ty := .int) (fty := .array .int) (cX := cI) (a0 := (12, .inl (x_0 102497))) F hin hK hP hD hS hA hl dX4_init_60 dX4_init_61 dX4_init_63 dX4_init_65 (by decide) rfl (fun _ h => by cases h) rfl (by decide) (fun _ => rfl) (fun _ => rfl) xa_int rfl (by decide) (z_mT 241 (by decide +kernel) rfl) rfl rfl (by decide +kernel) (fun _ => rfl) (fun _ => rfl) rfl (x_uniq (by decide +kernel)) (by decide) (x_hdk (by decide)) (Nat.le_of_ble_eq_true rfl) (Nat.le_of_ble_eq_true rfl) (fun q7 H locs hP hD hS => ?_)
  refine x_arr (t := 104545) (k := 8) (idx := 36) (N := 12) (j := 0) (n := 12) (T := TX4) (at_ := .int) (ty := .int) (fty := .array .int) (cX := cI) (a0 := (12, .inl (x_0 104545))) F hin hK hP hD hS hA hl dX4_init_68 dX4_init_69 dX4_init_71 dX4_init_73 (by decide) rfl (fun _ h => by cases h) rfl (by decide) (fun _ => rfl) (fun _ => rfl) xa_int rfl (by decide) (z_mT 243 (by decide +kernel) rfl) rfl rfl (by decide +kernel) (fun _ => rfl) (fun _ => rfl) rfl (x_uniq (by decide +kernel)) (by decide) (x_hdk (by decide)) (Nat.le_of_ble_eq_true rfl) (Nat.le_of_ble_eq_true rfl) (fun q8 H locs hP hD hS => ?_)
  refine x_arr (t := 106594) (k := 9) (idx := 39) (N := 12) (j := 1) (n := 12) (T := TX4) (at_ := .boolean) (ty := .boolean) (fty := .array .boolean) (cX := cZ) (a0 := (12, .inl (x_0 106594))) F hin hK hP hD hS hA hl dX4_init_76 dX4_init_77 dX4_init_79 dX4_init_81 (by decide) rfl (fun _ h => by cases h) rfl (by decide) (fun _ => rfl) (fun _ => rfl) xa_boolean rfl (by decide) (z_mT 245 (by decide +kernel) rfl) rfl rfl (by decide +kernel) (fun _ => rfl) (fun _ => rfl) rfl (x_uniq (by decide +kernel)) (by decide) (x_hdk (by decide)) (Nat.le_of_ble_eq_true rfl) (Nat.le_of_ble_eq_true rfl) (fun q9 H locs hP hD hS => ?_)
  refine x_arr (t := 108642) (k := 10) (idx := 43) (N := 12) (j := 1) (n := 12) (T := TX4) (at_ := .boolean) (ty := .boolean) (fty := .array .boolean) (cX := cZ) (a0 := (12, .inl (x_0 108642))) F hin hK hP hD hS hA hl dX4_init_84 dX4_init_85 dX4_init_87 dX4_init_89 (by decide) rfl (fun _ h => by cases h) rfl (by decide) (fun _ => rfl) (fun _ => rfl) xa_boolean rfl (by decide) (z_mT 246 (by decide +kernel) rfl) rfl rfl (by decide +kernel) (fun _ => rfl) (fun _ => rfl) rfl (x_uniq (by decide +kernel)) (by decide) (x_hdk (by decide)) (Nat.le_of_ble_eq_true rfl) (Nat.le_of_ble_eq_true rfl) (fun q10 H locs hP hD hS => ?_)
  refine W.widen (k := 11) (n := 132) (Nat.le_of_ble_eq_true rfl) (Nat.le_of_ble_eq_true rfl) ?_
  have hP := x_Pend (ids := xi_4) hP rfl (by decide) (by decide +kernel) rfl
  have hD := x_Dend (ids := xi_4) hD rfl (by decide) (by decide +kernel) rfl
  exact W.vret B.exec B.bytes hr (fun t ht hW => ⟨⟨_, rfl, rfl, by rw [ht]; exact hP, hD⟩, hS.F ht⟩) hS.2.2 dX4_init_92
