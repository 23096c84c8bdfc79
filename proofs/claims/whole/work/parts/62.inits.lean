/-! the seven constructors that make arrays alone -/
theorem x_fs_0 (ad : Nat → Nat) (o : Nat) : x_fs ad [] o = x_fs (fun _ => 0) [] o := by
  unfold x_fs
  refine List.map_congr_left fun f _ => ?_
  cases f with
  | none => rfl
  | some t => rfl
theorem x_W_0 {cI cZ cJ : ClassId} {ad : Nat → Nat} {h0 o : Nat} : x_W cI cZ cJ ad [] h0 o = x_c0 h0 o := by
  unfold x_W x_c0
  rw [x_fs_0]
  rfl
theorem x_D0 {h0 o sz : Nat} : va_D (va_A (x_c0 h0 o) sz) (x_c0 h0 o) := by
  refine ⟨fun i j p q hi hj _ => ?_, fun k q hk => va_A.in hk⟩
  have h1 : i < 1 := (List.getElem?_eq_some_iff.mp hi).1
  have h2 : j < 1 := (List.getElem?_eq_some_iff.mp hj).1
  omega
theorem x_uniq {o t k : Nat} (h : ∀ j, j < (x_fl o).length → (x_fl o)[j]? = some (some t) → j = k) : ∀ j, (x_fl o)[j]? = some (some t) → j = k := fun j hj => h j (List.getElem?_eq_some_iff.mp hj).1 hj
theorem x_hdk {done : List Nat} {t : Nat} (h : ∀ a ∈ done, a % 8 ≠ 0) : ∀ a ∈ done, a % 8 = 0 → ∀ u, some u ∈ x_fl a → u ≠ t := fun a ha h0 => absurd h0 (h a ha)
theorem x_Wend {cI cZ cJ : ClassId} {ad : Nat → Nat} {done ids : List Nat} {h0 o : Nat} (hi : ids = o :: done) (h8 : o % 8 = 0) (hd : ∀ f ∈ x_fl o, ∀ t, f = some t → t ∈ done) (ha : ad o = h0) : x_L cI cZ cJ ad ids = x_W cI cZ cJ ad done h0 o := by
  subst hi
  unfold x_W
  show (ad o, z_e cI cZ cJ ad x_0 x_0L o) :: _ = _
  rw [z_e0 h8, ha, x_fs_end (fun t ht => hd _ ht t rfl)]
  rfl
theorem x_kids {o : Nat} {done : List Nat} (h : ∀ f ∈ x_fl o, f.all (fun t => decide (t ∈ done)) = true) : ∀ f ∈ x_fl o, ∀ t, f = some t → t ∈ done := fun f hf t ht => by
  have := h f hf
  rw [ht] at this
  exact of_decide_eq_true this
theorem x_Pend {D : va_G} {cI cZ cJ : ClassId} {ad : Nat → Nat} {done ids : List Nat} {h0 o : Nat} {H : Heap} (hP : va_P D z_cl (x_W cI cZ cJ ad done h0 o) H) (hi : ids = o :: done) (h8 : o % 8 = 0) (hd : ∀ f ∈ x_fl o, f.all (fun t => decide (t ∈ done)) = true) (ha : ad o = h0) : va_P D z_cl (x_L cI cZ cJ ad ids) H := by
  rw [x_Wend hi h8 (x_kids hd) ha]; exact hP
theorem x_Dend {A : Nat → Prop} {cI cZ cJ : ClassId} {ad : Nat → Nat} {done ids : List Nat} {h0 o : Nat} (hD : va_D A (x_W cI cZ cJ ad done h0 o)) (hi : ids = o :: done) (h8 : o % 8 = 0) (hd : ∀ f ∈ x_fl o, f.all (fun t => decide (t ∈ done)) = true) (ha : ad o = h0) : va_D A (x_L cI cZ cJ ad ids) := by
  rw [x_Wend hi h8 (x_kids hd) ha]; exact hD
theorem dX0_init_0 : decode cX0_init 0 = .ok (.aload_n 0, 1) := by decide +kernel
theorem dX0_init_1 : decode cX0_init 1 = .ok (.invokespecial 3, 3) := by decide +kernel
theorem dX0_init_4 : decode cX0_init 4 = .ok (.aload_n 0, 1) := by decide +kernel
theorem dX0_init_5 : decode cX0_init 5 = .ok (.bipush 40, 2) := by decide +kernel
theorem dX0_init_7 : decode cX0_init 7 = .ok (.newarray .int, 2) := by decide +kernel
theorem dX0_init_9 : decode cX0_init 9 = .ok (.putfield 9, 3) := by decide +kernel
theorem dX0_init_12 : decode cX0_init 12 = .ok (.aload_n 0, 1) := by decide +kernel
theorem dX0_init_13 : decode cX0_init 13 = .ok (.bipush 40, 2) := by decide +kernel
theorem dX0_init_15 : decode cX0_init 15 = .ok (.newarray .int, 2) := by decide +kernel
theorem dX0_init_17 : decode cX0_init 17 = .ok (.putfield 15, 3) := by decide +kernel
theorem dX0_init_20 : decode cX0_init 20 = .ok (.aload_n 0, 1) := by decide +kernel
theorem dX0_init_21 : decode cX0_init 21 = .ok (.bipush 40, 2) := by decide +kernel
theorem dX0_init_23 : decode cX0_init 23 = .ok (.newarray .int, 2) := by decide +kernel
theorem dX0_init_25 : decode cX0_init 25 = .ok (.putfield 18, 3) := by decide +kernel
theorem dX0_init_28 : decode cX0_init 28 = .ok (.aload_n 0, 1) := by decide +kernel
theorem dX0_init_29 : decode cX0_init 29 = .ok (.bipush 40, 2) := by decide +kernel
theorem dX0_init_31 : decode cX0_init 31 = .ok (.newarray .int, 2) := by decide +kernel
theorem dX0_init_33 : decode cX0_init 33 = .ok (.putfield 21, 3) := by decide +kernel
theorem dX0_init_36 : decode cX0_init 36 = .ok (.aload_n 0, 1) := by decide +kernel
theorem dX0_init_37 : decode cX0_init 37 = .ok (.bipush 40, 2) := by decide +kernel
theorem dX0_init_39 : decode cX0_init 39 = .ok (.newarray .int, 2) := by decide +kernel
theorem dX0_init_41 : decode cX0_init 41 = .ok (.putfield 24, 3) := by decide +kernel
theorem dX0_init_44 : decode cX0_init 44 = .ok (.aload_n 0, 1) := by decide +kernel
theorem dX0_init_45 : decode cX0_init 45 = .ok (.bipush 40, 2) := by decide +kernel
theorem dX0_init_47 : decode cX0_init 47 = .ok (.newarray .int, 2) := by decide +kernel
theorem dX0_init_49 : decode cX0_init 49 = .ok (.putfield 27, 3) := by decide +kernel
theorem dX0_init_52 : decode cX0_init 52 = .ok (.aload_n 0, 1) := by decide +kernel
theorem dX0_init_53 : decode cX0_init 53 = .ok (.bipush 40, 2) := by decide +kernel
theorem dX0_init_55 : decode cX0_init 55 = .ok (.newarray .boolean, 2) := by decide +kernel
theorem dX0_init_57 : decode cX0_init 57 = .ok (.putfield 30, 3) := by decide +kernel
theorem dX0_init_60 : decode cX0_init 60 = .ok (.aload_n 0, 1) := by decide +kernel
theorem dX0_init_61 : decode cX0_init 61 = .ok (.bipush 40, 2) := by decide +kernel
theorem dX0_init_63 : decode cX0_init 63 = .ok (.newarray .boolean, 2) := by decide +kernel
theorem dX0_init_65 : decode cX0_init 65 = .ok (.putfield 34, 3) := by decide +kernel
theorem dX0_init_68 : decode cX0_init 68 = .ok (.return_, 1) := by decide +kernel
theorem dX1_init_0 : decode cX1_init 0 = .ok (.aload_n 0, 1) := by decide +kernel
theorem dX1_init_1 : decode cX1_init 1 = .ok (.invokespecial 3, 3) := by decide +kernel
theorem dX1_init_4 : decode cX1_init 4 = .ok (.aload_n 0, 1) := by decide +kernel
theorem dX1_init_5 : decode cX1_init 5 = .ok (.bipush 12, 2) := by decide +kernel
theorem dX1_init_7 : decode cX1_init 7 = .ok (.newarray .int, 2) := by decide +kernel
theorem dX1_init_9 : decode cX1_init 9 = .ok (.putfield 9, 3) := by decide +kernel
theorem dX1_init_12 : decode cX1_init 12 = .ok (.aload_n 0, 1) := by decide +kernel
theorem dX1_init_13 : decode cX1_init 13 = .ok (.bipush 12, 2) := by decide +kernel
theorem dX1_init_15 : decode cX1_init 15 = .ok (.newarray .int, 2) := by decide +kernel
theorem dX1_init_17 : decode cX1_init 17 = .ok (.putfield 15, 3) := by decide +kernel
theorem dX1_init_20 : decode cX1_init 20 = .ok (.aload_n 0, 1) := by decide +kernel
theorem dX1_init_21 : decode cX1_init 21 = .ok (.bipush 12, 2) := by decide +kernel
theorem dX1_init_23 : decode cX1_init 23 = .ok (.newarray .int, 2) := by decide +kernel
theorem dX1_init_25 : decode cX1_init 25 = .ok (.putfield 18, 3) := by decide +kernel
theorem dX1_init_28 : decode cX1_init 28 = .ok (.aload_n 0, 1) := by decide +kernel
theorem dX1_init_29 : decode cX1_init 29 = .ok (.bipush 12, 2) := by decide +kernel
theorem dX1_init_31 : decode cX1_init 31 = .ok (.newarray .int, 2) := by decide +kernel
theorem dX1_init_33 : decode cX1_init 33 = .ok (.putfield 21, 3) := by decide +kernel
theorem dX1_init_36 : decode cX1_init 36 = .ok (.aload_n 0, 1) := by decide +kernel
theorem dX1_init_37 : decode cX1_init 37 = .ok (.bipush 12, 2) := by decide +kernel
theorem dX1_init_39 : decode cX1_init 39 = .ok (.newarray .int, 2) := by decide +kernel
theorem dX1_init_41 : decode cX1_init 41 = .ok (.putfield 24, 3) := by decide +kernel
theorem dX1_init_44 : decode cX1_init 44 = .ok (.aload_n 0, 1) := by decide +kernel
theorem dX1_init_45 : decode cX1_init 45 = .ok (.bipush 12, 2) := by decide +kernel
theorem dX1_init_47 : decode cX1_init 47 = .ok (.newarray .int, 2) := by decide +kernel
theorem dX1_init_49 : decode cX1_init 49 = .ok (.putfield 27, 3) := by decide +kernel
theorem dX1_init_52 : decode cX1_init 52 = .ok (.aload_n 0, 1) := by decide +kernel
theorem dX1_init_53 : decode cX1_init 53 = .ok (.bipush 12, 2) := by decide +kernel
theorem dX1_init_55 : decode cX1_init 55 = .ok (.newarray .int, 2) := by decide +kernel
theorem dX1_init_57 : decode cX1_init 57 = .ok (.putfield 30, 3) := by decide +kernel
theorem dX1_init_60 : decode cX1_init 60 = .ok (.aload_n 0, 1) := by decide +kernel
theorem dX1_init_61 : decode cX1_init 61 = .ok (.bipush 12, 2) := by decide +kernel
theorem dX1_init_63 : decode cX1_init 63 = .ok (.newarray .int, 2) := by decide +kernel
theorem dX1_init_65 : decode cX1_init 65 = .ok (.putfield 33, 3) := by decide +kernel
theorem dX1_init_68 : decode cX1_init 68 = .ok (.return_, 1) := by decide +kernel
theorem dX2_init_0 : decode cX2_init 0 = .ok (.aload_n 0, 1) := by decide +kernel
theorem dX2_init_1 : decode cX2_init 1 = .ok (.invokespecial 3, 3) := by decide +kernel
theorem dX2_init_4 : decode cX2_init 4 = .ok (.aload_n 0, 1) := by decide +kernel
theorem dX2_init_5 : decode cX2_init 5 = .ok (.bipush 6, 2) := by decide +kernel
theorem dX2_init_7 : decode cX2_init 7 = .ok (.newarray .int, 2) := by decide +kernel
theorem dX2_init_9 : decode cX2_init 9 = .ok (.putfield 9, 3) := by decide +kernel
theorem dX2_init_12 : decode cX2_init 12 = .ok (.aload_n 0, 1) := by decide +kernel
theorem dX2_init_13 : decode cX2_init 13 = .ok (.bipush 6, 2) := by decide +kernel
theorem dX2_init_15 : decode cX2_init 15 = .ok (.newarray .int, 2) := by decide +kernel
theorem dX2_init_17 : decode cX2_init 17 = .ok (.putfield 15, 3) := by decide +kernel
theorem dX2_init_20 : decode cX2_init 20 = .ok (.aload_n 0, 1) := by decide +kernel
theorem dX2_init_21 : decode cX2_init 21 = .ok (.bipush 30, 2) := by decide +kernel
theorem dX2_init_23 : decode cX2_init 23 = .ok (.newarray .int, 2) := by decide +kernel
theorem dX2_init_25 : decode cX2_init 25 = .ok (.putfield 18, 3) := by decide +kernel
theorem dX2_init_28 : decode cX2_init 28 = .ok (.aload_n 0, 1) := by decide +kernel
theorem dX2_init_29 : decode cX2_init 29 = .ok (.bipush 30, 2) := by decide +kernel
theorem dX2_init_31 : decode cX2_init 31 = .ok (.newarray .int, 2) := by decide +kernel
theorem dX2_init_33 : decode cX2_init 33 = .ok (.putfield 21, 3) := by decide +kernel
theorem dX2_init_36 : decode cX2_init 36 = .ok (.aload_n 0, 1) := by decide +kernel
theorem dX2_init_37 : decode cX2_init 37 = .ok (.bipush 30, 2) := by decide +kernel
theorem dX2_init_39 : decode cX2_init 39 = .ok (.newarray .int, 2) := by decide +kernel
theorem dX2_init_41 : decode cX2_init 41 = .ok (.putfield 24, 3) := by decide +kernel
theorem dX2_init_44 : decode cX2_init 44 = .ok (.aload_n 0, 1) := by decide +kernel
theorem dX2_init_45 : decode cX2_init 45 = .ok (.bipush 30, 2) := by decide +kernel
theorem dX2_init_47 : decode cX2_init 47 = .ok (.newarray .int, 2) := by decide +kernel
theorem dX2_init_49 : decode cX2_init 49 = .ok (.putfield 27, 3) := by decide +kernel
theorem dX2_init_52 : decode cX2_init 52 = .ok (.return_, 1) := by decide +kernel
theorem dX3_init_0 : decode cX3_init 0 = .ok (.aload_n 0, 1) := by decide +kernel
theorem dX3_init_1 : decode cX3_init 1 = .ok (.invokespecial 3, 3) := by decide +kernel
theorem dX3_init_4 : decode cX3_init 4 = .ok (.aload_n 0, 1) := by decide +kernel
theorem dX3_init_5 : decode cX3_init 5 = .ok (.bipush 60, 2) := by decide +kernel
theorem dX3_init_7 : decode cX3_init 7 = .ok (.newarray .int, 2) := by decide +kernel
theorem dX3_init_9 : decode cX3_init 9 = .ok (.putfield 9, 3) := by decide +kernel
theorem dX3_init_12 : decode cX3_init 12 = .ok (.aload_n 0, 1) := by decide +kernel
theorem dX3_init_13 : decode cX3_init 13 = .ok (.bipush 60, 2) := by decide +kernel
theorem dX3_init_15 : decode cX3_init 15 = .ok (.newarray .int, 2) := by decide +kernel
theorem dX3_init_17 : decode cX3_init 17 = .ok (.putfield 15, 3) := by decide +kernel
theorem dX3_init_20 : decode cX3_init 20 = .ok (.aload_n 0, 1) := by decide +kernel
theorem dX3_init_21 : decode cX3_init 21 = .ok (.bipush 60, 2) := by decide +kernel
theorem dX3_init_23 : decode cX3_init 23 = .ok (.newarray .int, 2) := by decide +kernel
theorem dX3_init_25 : decode cX3_init 25 = .ok (.putfield 18, 3) := by decide +kernel
theorem dX3_init_28 : decode cX3_init 28 = .ok (.aload_n 0, 1) := by decide +kernel
theorem dX3_init_29 : decode cX3_init 29 = .ok (.bipush 60, 2) := by decide +kernel
theorem dX3_init_31 : decode cX3_init 31 = .ok (.newarray .int, 2) := by decide +kernel
theorem dX3_init_33 : decode cX3_init 33 = .ok (.putfield 21, 3) := by decide +kernel
theorem dX3_init_36 : decode cX3_init 36 = .ok (.aload_n 0, 1) := by decide +kernel
theorem dX3_init_37 : decode cX3_init 37 = .ok (.bipush 6, 2) := by decide +kernel
theorem dX3_init_39 : decode cX3_init 39 = .ok (.newarray .int, 2) := by decide +kernel
theorem dX3_init_41 : decode cX3_init 41 = .ok (.putfield 24, 3) := by decide +kernel
theorem dX3_init_44 : decode cX3_init 44 = .ok (.aload_n 0, 1) := by decide +kernel
theorem dX3_init_45 : decode cX3_init 45 = .ok (.bipush 48, 2) := by decide +kernel
theorem dX3_init_47 : decode cX3_init 47 = .ok (.newarray .int, 2) := by decide +kernel
theorem dX3_init_49 : decode cX3_init 49 = .ok (.putfield 27, 3) := by decide +kernel
theorem dX3_init_52 : decode cX3_init 52 = .ok (.aload_n 0, 1) := by decide +kernel
theorem dX3_init_53 : decode cX3_init 53 = .ok (.bipush 48, 2) := by decide +kernel
theorem dX3_init_55 : decode cX3_init 55 = .ok (.newarray .int, 2) := by decide +kernel
theorem dX3_init_57 : decode cX3_init 57 = .ok (.putfield 30, 3) := by decide +kernel
theorem dX3_init_60 : decode cX3_init 60 = .ok (.return_, 1) := by decide +kernel
theorem dX4_init_0 : decode cX4_init 0 = .ok (.aload_n 0, 1) := by decide +kernel
theorem dX4_init_1 : decode cX4_init 1 = .ok (.invokespecial 3, 3) := by decide +kernel
theorem dX4_init_4 : decode cX4_init 4 = .ok (.aload_n 0, 1) := by decide +kernel
theorem dX4_init_5 : decode cX4_init 5 = .ok (.bipush 12, 2) := by decide +kernel
theorem dX4_init_7 : decode cX4_init 7 = .ok (.newarray .int, 2) := by decide +kernel
theorem dX4_init_9 : decode cX4_init 9 = .ok (.putfield 9, 3) := by decide +kernel
theorem dX4_init_12 : decode cX4_init 12 = .ok (.aload_n 0, 1) := by decide +kernel
theorem dX4_init_13 : decode cX4_init 13 = .ok (.bipush 12, 2) := by decide +kernel
theorem dX4_init_15 : decode cX4_init 15 = .ok (.newarray .int, 2) := by decide +kernel
theorem dX4_init_17 : decode cX4_init 17 = .ok (.putfield 15, 3) := by decide +kernel
theorem dX4_init_20 : decode cX4_init 20 = .ok (.aload_n 0, 1) := by decide +kernel
theorem dX4_init_21 : decode cX4_init 21 = .ok (.bipush 12, 2) := by decide +kernel
theorem dX4_init_23 : decode cX4_init 23 = .ok (.newarray .int, 2) := by decide +kernel
theorem dX4_init_25 : decode cX4_init 25 = .ok (.putfield 18, 3) := by decide +kernel
theorem dX4_init_28 : decode cX4_init 28 = .ok (.aload_n 0, 1) := by decide +kernel
theorem dX4_init_29 : decode cX4_init 29 = .ok (.bipush 12, 2) := by decide +kernel
theorem dX4_init_31 : decode cX4_init 31 = .ok (.newarray .int, 2) := by decide +kernel
theorem dX4_init_33 : decode cX4_init 33 = .ok (.putfield 21, 3) := by decide +kernel
theorem dX4_init_36 : decode cX4_init 36 = .ok (.aload_n 0, 1) := by decide +kernel
theorem dX4_init_37 : decode cX4_init 37 = .ok (.bipush 12, 2) := by decide +kernel
theorem dX4_init_39 : decode cX4_init 39 = .ok (.newarray .int, 2) := by decide +kernel
theorem dX4_init_41 : decode cX4_init 41 = .ok (.putfield 24, 3) := by decide +kernel
theorem dX4_init_44 : decode cX4_init 44 = .ok (.aload_n 0, 1) := by decide +kernel
theorem dX4_init_45 : decode cX4_init 45 = .ok (.bipush 12, 2) := by decide +kernel
theorem dX4_init_47 : decode cX4_init 47 = .ok (.newarray .int, 2) := by decide +kernel
theorem dX4_init_49 : decode cX4_init 49 = .ok (.putfield 27, 3) := by decide +kernel
theorem dX4_init_52 : decode cX4_init 52 = .ok (.aload_n 0, 1) := by decide +kernel
theorem dX4_init_53 : decode cX4_init 53 = .ok (.bipush 12, 2) := by decide +kernel
theorem dX4_init_55 : decode cX4_init 55 = .ok (.newarray .int, 2) := by decide +kernel
theorem dX4_init_57 : decode cX4_init 57 = .ok (.putfield 30, 3) := by decide +kernel
theorem dX4_init_60 : decode cX4_init 60 = .ok (.aload_n 0, 1) := by decide +kernel
theorem dX4_init_61 : decode cX4_init 61 = .ok (.bipush 12, 2) := by decide +kernel
theorem dX4_init_63 : decode cX4_init 63 = .ok (.newarray .int, 2) := by decide +kernel
theorem dX4_init_65 : decode cX4_init 65 = .ok (.putfield 33, 3) := by decide +kernel
theorem dX4_init_68 : decode cX4_init 68 = .ok (.aload_n 0, 1) := by decide +kernel
theorem dX4_init_69 : decode cX4_init 69 = .ok (.bipush 12, 2) := by decide +kernel
theorem dX4_init_71 : decode cX4_init 71 = .ok (.newarray .int, 2) := by decide +kernel
theorem dX4_init_73 : decode cX4_init 73 = .ok (.putfield 36, 3) := by decide +kernel
theorem dX4_init_76 : decode cX4_init 76 = .ok (.aload_n 0, 1) := by decide +kernel
theorem dX4_init_77 : decode cX4_init 77 = .ok (.bipush 12, 2) := by decide +kernel
theorem dX4_init_79 : decode cX4_init 79 = .ok (.newarray .boolean, 2) := by decide +kernel
theorem dX4_init_81 : decode cX4_init 81 = .ok (.putfield 39, 3) := by decide +kernel
theorem dX4_init_84 : decode cX4_init 84 = .ok (.aload_n 0, 1) := by decide +kernel
theorem dX4_init_85 : decode cX4_init 85 = .ok (.bipush 12, 2) := by decide +kernel
theorem dX4_init_87 : decode cX4_init 87 = .ok (.newarray .boolean, 2) := by decide +kernel
theorem dX4_init_89 : decode cX4_init 89 = .ok (.putfield 43, 3) := by decide +kernel
theorem dX4_init_92 : decode cX4_init 92 = .ok (.return_, 1) := by decide +kernel
theorem dX5_init_0 : decode cX5_init 0 = .ok (.aload_n 0, 1) := by decide +kernel
theorem dX5_init_1 : decode cX5_init 1 = .ok (.invokespecial 3, 3) := by decide +kernel
theorem dX5_init_4 : decode cX5_init 4 = .ok (.aload_n 0, 1) := by decide +kernel
theorem dX5_init_5 : decode cX5_init 5 = .ok (.bipush 10, 2) := by decide +kernel
theorem dX5_init_7 : decode cX5_init 7 = .ok (.newarray .int, 2) := by decide +kernel
theorem dX5_init_9 : decode cX5_init 9 = .ok (.putfield 9, 3) := by decide +kernel
theorem dX5_init_12 : decode cX5_init 12 = .ok (.aload_n 0, 1) := by decide +kernel
theorem dX5_init_13 : decode cX5_init 13 = .ok (.bipush 10, 2) := by decide +kernel
theorem dX5_init_15 : decode cX5_init 15 = .ok (.newarray .int, 2) := by decide +kernel
theorem dX5_init_17 : decode cX5_init 17 = .ok (.putfield 15, 3) := by decide +kernel
theorem dX5_init_20 : decode cX5_init 20 = .ok (.aload_n 0, 1) := by decide +kernel
theorem dX5_init_21 : decode cX5_init 21 = .ok (.bipush 120, 2) := by decide +kernel
theorem dX5_init_23 : decode cX5_init 23 = .ok (.newarray .int, 2) := by decide +kernel
theorem dX5_init_25 : decode cX5_init 25 = .ok (.putfield 18, 3) := by decide +kernel
theorem dX5_init_28 : decode cX5_init 28 = .ok (.aload_n 0, 1) := by decide +kernel
theorem dX5_init_29 : decode cX5_init 29 = .ok (.bipush 120, 2) := by decide +kernel
theorem dX5_init_31 : decode cX5_init 31 = .ok (.newarray .int, 2) := by decide +kernel
theorem dX5_init_33 : decode cX5_init 33 = .ok (.putfield 21, 3) := by decide +kernel
theorem dX5_init_36 : decode cX5_init 36 = .ok (.return_, 1) := by decide +kernel
theorem dX7_init_0 : decode cX7_init 0 = .ok (.aload_n 0, 1) := by decide +kernel
theorem dX7_init_1 : decode cX7_init 1 = .ok (.invokespecial 1, 3) := by decide +kernel
theorem dX7_init_4 : decode cX7_init 4 = .ok (.aload_n 0, 1) := by decide +kernel
theorem dX7_init_5 : decode cX7_init 5 = .ok (.bipush 6, 2) := by decide +kernel
theorem dX7_init_7 : decode cX7_init 7 = .ok (.newarray .int, 2) := by decide +kernel
theorem dX7_init_9 : decode cX7_init 9 = .ok (.putfield 7, 3) := by decide +kernel
theorem dX7_init_12 : decode cX7_init 12 = .ok (.aload_n 0, 1) := by decide +kernel
theorem dX7_init_13 : decode cX7_init 13 = .ok (.bipush 6, 2) := by decide +kernel
theorem dX7_init_15 : decode cX7_init 15 = .ok (.newarray .int, 2) := by decide +kernel
theorem dX7_init_17 : decode cX7_init 17 = .ok (.putfield 13, 3) := by decide +kernel
theorem dX7_init_20 : decode cX7_init 20 = .ok (.aload_n 0, 1) := by decide +kernel
theorem dX7_init_21 : decode cX7_init 21 = .ok (.bipush 6, 2) := by decide +kernel
theorem dX7_init_23 : decode cX7_init 23 = .ok (.newarray .long, 2) := by decide +kernel
theorem dX7_init_25 : decode cX7_init 25 = .ok (.putfield 16, 3) := by decide +kernel
theorem dX7_init_28 : decode cX7_init 28 = .ok (.aload_n 0, 1) := by decide +kernel
theorem dX7_init_29 : decode cX7_init 29 = .ok (.bipush 30, 2) := by decide +kernel
theorem dX7_init_31 : decode cX7_init 31 = .ok (.newarray .int, 2) := by decide +kernel
theorem dX7_init_33 : decode cX7_init 33 = .ok (.putfield 20, 3) := by decide +kernel
theorem dX7_init_36 : decode cX7_init 36 = .ok (.aload_n 0, 1) := by decide +kernel
theorem dX7_init_37 : decode cX7_init 37 = .ok (.bipush 30, 2) := by decide +kernel
theorem dX7_init_39 : decode cX7_init 39 = .ok (.newarray .int, 2) := by decide +kernel
theorem dX7_init_41 : decode cX7_init 41 = .ok (.putfield 23, 3) := by decide +kernel
theorem dX7_init_44 : decode cX7_init 44 = .ok (.aload_n 0, 1) := by decide +kernel
theorem dX7_init_45 : decode cX7_init 45 = .ok (.bipush 30, 2) := by decide +kernel
theorem dX7_init_47 : decode cX7_init 47 = .ok (.newarray .int, 2) := by decide +kernel
theorem dX7_init_49 : decode cX7_init 49 = .ok (.putfield 26, 3) := by decide +kernel
theorem dX7_init_52 : decode cX7_init 52 = .ok (.aload_n 0, 1) := by decide +kernel
theorem dX7_init_53 : decode cX7_init 53 = .ok (.bipush 30, 2) := by decide +kernel
theorem dX7_init_55 : decode cX7_init 55 = .ok (.newarray .int, 2) := by decide +kernel
theorem dX7_init_57 : decode cX7_init 57 = .ok (.putfield 29, 3) := by decide +kernel
theorem dX7_init_60 : decode cX7_init 60 = .ok (.aload_n 0, 1) := by decide +kernel
theorem dX7_init_61 : decode cX7_init 61 = .ok (.bipush 10, 2) := by decide +kernel
theorem dX7_init_63 : decode cX7_init 63 = .ok (.newarray .int, 2) := by decide +kernel
theorem dX7_init_65 : decode cX7_init 65 = .ok (.putfield 32, 3) := by decide +kernel
theorem dX7_init_68 : decode cX7_init 68 = .ok (.aload_n 0, 1) := by decide +kernel
theorem dX7_init_69 : decode cX7_init 69 = .ok (.bipush 10, 2) := by decide +kernel
theorem dX7_init_71 : decode cX7_init 71 = .ok (.newarray .int, 2) := by decide +kernel
theorem dX7_init_73 : decode cX7_init 73 = .ok (.putfield 35, 3) := by decide +kernel
theorem dX7_init_76 : decode cX7_init 76 = .ok (.aload_n 0, 1) := by decide +kernel
theorem dX7_init_77 : decode cX7_init 77 = .ok (.bipush 120, 2) := by decide +kernel
theorem dX7_init_79 : decode cX7_init 79 = .ok (.newarray .int, 2) := by decide +kernel
theorem dX7_init_81 : decode cX7_init 81 = .ok (.putfield 38, 3) := by decide +kernel
theorem dX7_init_84 : decode cX7_init 84 = .ok (.aload_n 0, 1) := by decide +kernel
theorem dX7_init_85 : decode cX7_init 85 = .ok (.bipush 120, 2) := by decide +kernel
theorem dX7_init_87 : decode cX7_init 87 = .ok (.newarray .int, 2) := by decide +kernel
theorem dX7_init_89 : decode cX7_init 89 = .ok (.putfield 41, 3) := by decide +kernel
theorem dX7_init_92 : decode cX7_init 92 = .ok (.aload_n 0, 1) := by decide +kernel
theorem dX7_init_93 : decode cX7_init 93 = .ok (.bipush 60, 2) := by decide +kernel
theorem dX7_init_95 : decode cX7_init 95 = .ok (.newarray .int, 2) := by decide +kernel
theorem dX7_init_97 : decode cX7_init 97 = .ok (.putfield 44, 3) := by decide +kernel
theorem dX7_init_100 : decode cX7_init 100 = .ok (.aload_n 0, 1) := by decide +kernel
theorem dX7_init_101 : decode cX7_init 101 = .ok (.bipush 60, 2) := by decide +kernel
theorem dX7_init_103 : decode cX7_init 103 = .ok (.newarray .int, 2) := by decide +kernel
theorem dX7_init_105 : decode cX7_init 105 = .ok (.putfield 47, 3) := by decide +kernel
theorem dX7_init_108 : decode cX7_init 108 = .ok (.aload_n 0, 1) := by decide +kernel
theorem dX7_init_109 : decode cX7_init 109 = .ok (.bipush 60, 2) := by decide +kernel
theorem dX7_init_111 : decode cX7_init 111 = .ok (.newarray .int, 2) := by decide +kernel
theorem dX7_init_113 : decode cX7_init 113 = .ok (.putfield 50, 3) := by decide +kernel
theorem dX7_init_116 : decode cX7_init 116 = .ok (.aload_n 0, 1) := by decide +kernel
theorem dX7_init_117 : decode cX7_init 117 = .ok (.bipush 60, 2) := by decide +kernel
theorem dX7_init_119 : decode cX7_init 119 = .ok (.newarray .int, 2) := by decide +kernel
theorem dX7_init_121 : decode cX7_init 121 = .ok (.putfield 53, 3) := by decide +kernel
theorem dX7_init_124 : decode cX7_init 124 = .ok (.aload_n 0, 1) := by decide +kernel
theorem dX7_init_125 : decode cX7_init 125 = .ok (.bipush 6, 2) := by decide +kernel
theorem dX7_init_127 : decode cX7_init 127 = .ok (.newarray .int, 2) := by decide +kernel
theorem dX7_init_129 : decode cX7_init 129 = .ok (.putfield 56, 3) := by decide +kernel
theorem dX7_init_132 : decode cX7_init 132 = .ok (.aload_n 0, 1) := by decide +kernel
theorem dX7_init_133 : decode cX7_init 133 = .ok (.bipush 48, 2) := by decide +kernel
theorem dX7_init_135 : decode cX7_init 135 = .ok (.newarray .int, 2) := by decide +kernel
theorem dX7_init_137 : decode cX7_init 137 = .ok (.putfield 59, 3) := by decide +kernel
theorem dX7_init_140 : decode cX7_init 140 = .ok (.aload_n 0, 1) := by decide +kernel
theorem dX7_init_141 : decode cX7_init 141 = .ok (.bipush 48, 2) := by decide +kernel
theorem dX7_init_143 : decode cX7_init 143 = .ok (.newarray .int, 2) := by decide +kernel
theorem dX7_init_145 : decode cX7_init 145 = .ok (.putfield 62, 3) := by decide +kernel
theorem dX7_init_148 : decode cX7_init 148 = .ok (.aload_n 0, 1) := by decide +kernel
theorem dX7_init_149 : decode cX7_init 149 = .ok (.bipush 40, 2) := by decide +kernel
theorem dX7_init_151 : decode cX7_init 151 = .ok (.newarray .int, 2) := by decide +kernel
theorem dX7_init_153 : decode cX7_init 153 = .ok (.putfield 65, 3) := by decide +kernel
theorem dX7_init_156 : decode cX7_init 156 = .ok (.aload_n 0, 1) := by decide +kernel
theorem dX7_init_157 : decode cX7_init 157 = .ok (.bipush 40, 2) := by decide +kernel
theorem dX7_init_159 : decode cX7_init 159 = .ok (.newarray .int, 2) := by decide +kernel
theorem dX7_init_161 : decode cX7_init 161 = .ok (.putfield 68, 3) := by decide +kernel
theorem dX7_init_164 : decode cX7_init 164 = .ok (.aload_n 0, 1) := by decide +kernel
theorem dX7_init_165 : decode cX7_init 165 = .ok (.bipush 40, 2) := by decide +kernel
theorem dX7_init_167 : decode cX7_init 167 = .ok (.newarray .int, 2) := by decide +kernel
theorem dX7_init_169 : decode cX7_init 169 = .ok (.putfield 71, 3) := by decide +kernel
theorem dX7_init_172 : decode cX7_init 172 = .ok (.aload_n 0, 1) := by decide +kernel
theorem dX7_init_173 : decode cX7_init 173 = .ok (.bipush 40, 2) := by decide +kernel
theorem dX7_init_175 : decode cX7_init 175 = .ok (.newarray .int, 2) := by decide +kernel
theorem dX7_init_177 : decode cX7_init 177 = .ok (.putfield 74, 3) := by decide +kernel
theorem dX7_init_180 : decode cX7_init 180 = .ok (.aload_n 0, 1) := by decide +kernel
theorem dX7_init_181 : decode cX7_init 181 = .ok (.bipush 40, 2) := by decide +kernel
theorem dX7_init_183 : decode cX7_init 183 = .ok (.newarray .int, 2) := by decide +kernel
theorem dX7_init_185 : decode cX7_init 185 = .ok (.putfield 77, 3) := by decide +kernel
theorem dX7_init_188 : decode cX7_init 188 = .ok (.aload_n 0, 1) := by decide +kernel
theorem dX7_init_189 : decode cX7_init 189 = .ok (.bipush 40, 2) := by decide +kernel
theorem dX7_init_191 : decode cX7_init 191 = .ok (.newarray .boolean, 2) := by decide +kernel
theorem dX7_init_193 : decode cX7_init 193 = .ok (.putfield 80, 3) := by decide +kernel
theorem dX7_init_196 : decode cX7_init 196 = .ok (.aload_n 0, 1) := by decide +kernel
theorem dX7_init_197 : decode cX7_init 197 = .ok (.bipush 40, 2) := by decide +kernel
theorem dX7_init_199 : decode cX7_init 199 = .ok (.newarray .int, 2) := by decide +kernel
theorem dX7_init_201 : decode cX7_init 201 = .ok (.putfield 84, 3) := by decide +kernel
theorem dX7_init_204 : decode cX7_init 204 = .ok (.aload_n 0, 1) := by decide +kernel
theorem dX7_init_205 : decode cX7_init 205 = .ok (.bipush 40, 2) := by decide +kernel
theorem dX7_init_207 : decode cX7_init 207 = .ok (.newarray .boolean, 2) := by decide +kernel
theorem dX7_init_209 : decode cX7_init 209 = .ok (.putfield 87, 3) := by decide +kernel
theorem dX7_init_212 : decode cX7_init 212 = .ok (.aload_n 0, 1) := by decide +kernel
theorem dX7_init_213 : decode cX7_init 213 = .ok (.bipush 12, 2) := by decide +kernel
theorem dX7_init_215 : decode cX7_init 215 = .ok (.newarray .int, 2) := by decide +kernel
theorem dX7_init_217 : decode cX7_init 217 = .ok (.putfield 90, 3) := by decide +kernel
theorem dX7_init_220 : decode cX7_init 220 = .ok (.aload_n 0, 1) := by decide +kernel
theorem dX7_init_221 : decode cX7_init 221 = .ok (.bipush 12, 2) := by decide +kernel
theorem dX7_init_223 : decode cX7_init 223 = .ok (.newarray .int, 2) := by decide +kernel
theorem dX7_init_225 : decode cX7_init 225 = .ok (.putfield 93, 3) := by decide +kernel
theorem dX7_init_228 : decode cX7_init 228 = .ok (.aload_n 0, 1) := by decide +kernel
theorem dX7_init_229 : decode cX7_init 229 = .ok (.bipush 12, 2) := by decide +kernel
theorem dX7_init_231 : decode cX7_init 231 = .ok (.newarray .int, 2) := by decide +kernel
theorem dX7_init_233 : decode cX7_init 233 = .ok (.putfield 96, 3) := by decide +kernel
theorem dX7_init_236 : decode cX7_init 236 = .ok (.aload_n 0, 1) := by decide +kernel
theorem dX7_init_237 : decode cX7_init 237 = .ok (.bipush 12, 2) := by decide +kernel
theorem dX7_init_239 : decode cX7_init 239 = .ok (.newarray .int, 2) := by decide +kernel
theorem dX7_init_241 : decode cX7_init 241 = .ok (.putfield 99, 3) := by decide +kernel
theorem dX7_init_244 : decode cX7_init 244 = .ok (.aload_n 0, 1) := by decide +kernel
theorem dX7_init_245 : decode cX7_init 245 = .ok (.bipush 12, 2) := by decide +kernel
theorem dX7_init_247 : decode cX7_init 247 = .ok (.newarray .int, 2) := by decide +kernel
theorem dX7_init_249 : decode cX7_init 249 = .ok (.putfield 102, 3) := by decide +kernel
theorem dX7_init_252 : decode cX7_init 252 = .ok (.aload_n 0, 1) := by decide +kernel
theorem dX7_init_253 : decode cX7_init 253 = .ok (.bipush 12, 2) := by decide +kernel
theorem dX7_init_255 : decode cX7_init 255 = .ok (.newarray .int, 2) := by decide +kernel
theorem dX7_init_257 : decode cX7_init 257 = .ok (.putfield 105, 3) := by decide +kernel
theorem dX7_init_260 : decode cX7_init 260 = .ok (.aload_n 0, 1) := by decide +kernel
theorem dX7_init_261 : decode cX7_init 261 = .ok (.bipush 12, 2) := by decide +kernel
theorem dX7_init_263 : decode cX7_init 263 = .ok (.newarray .int, 2) := by decide +kernel
theorem dX7_init_265 : decode cX7_init 265 = .ok (.putfield 108, 3) := by decide +kernel
theorem dX7_init_268 : decode cX7_init 268 = .ok (.aload_n 0, 1) := by decide +kernel
theorem dX7_init_269 : decode cX7_init 269 = .ok (.bipush 12, 2) := by decide +kernel
theorem dX7_init_271 : decode cX7_init 271 = .ok (.newarray .int, 2) := by decide +kernel
theorem dX7_init_273 : decode cX7_init 273 = .ok (.putfield 111, 3) := by decide +kernel
theorem dX7_init_276 : decode cX7_init 276 = .ok (.aload_n 0, 1) := by decide +kernel
theorem dX7_init_277 : decode cX7_init 277 = .ok (.bipush 12, 2) := by decide +kernel
theorem dX7_init_279 : decode cX7_init 279 = .ok (.newarray .int, 2) := by decide +kernel
theorem dX7_init_281 : decode cX7_init 281 = .ok (.putfield 114, 3) := by decide +kernel
theorem dX7_init_284 : decode cX7_init 284 = .ok (.aload_n 0, 1) := by decide +kernel
theorem dX7_init_285 : decode cX7_init 285 = .ok (.bipush 12, 2) := by decide +kernel
theorem dX7_init_287 : decode cX7_init 287 = .ok (.newarray .int, 2) := by decide +kernel
theorem dX7_init_289 : decode cX7_init 289 = .ok (.putfield 117, 3) := by decide +kernel
theorem dX7_init_292 : decode cX7_init 292 = .ok (.aload_n 0, 1) := by decide +kernel
theorem dX7_init_293 : decode cX7_init 293 = .ok (.bipush 12, 2) := by decide +kernel
theorem dX7_init_295 : decode cX7_init 295 = .ok (.newarray .int, 2) := by decide +kernel
theorem dX7_init_297 : decode cX7_init 297 = .ok (.putfield 120, 3) := by decide +kernel
theorem dX7_init_300 : decode cX7_init 300 = .ok (.aload_n 0, 1) := by decide +kernel
theorem dX7_init_301 : decode cX7_init 301 = .ok (.bipush 12, 2) := by decide +kernel
theorem dX7_init_303 : decode cX7_init 303 = .ok (.newarray .int, 2) := by decide +kernel
theorem dX7_init_305 : decode cX7_init 305 = .ok (.putfield 123, 3) := by decide +kernel
theorem dX7_init_308 : decode cX7_init 308 = .ok (.aload_n 0, 1) := by decide +kernel
theorem dX7_init_309 : decode cX7_init 309 = .ok (.bipush 12, 2) := by decide +kernel
theorem dX7_init_311 : decode cX7_init 311 = .ok (.newarray .int, 2) := by decide +kernel
theorem dX7_init_313 : decode cX7_init 313 = .ok (.putfield 126, 3) := by decide +kernel
theorem dX7_init_316 : decode cX7_init 316 = .ok (.aload_n 0, 1) := by decide +kernel
theorem dX7_init_317 : decode cX7_init 317 = .ok (.bipush 12, 2) := by decide +kernel
theorem dX7_init_319 : decode cX7_init 319 = .ok (.newarray .boolean, 2) := by decide +kernel
theorem dX7_init_321 : decode cX7_init 321 = .ok (.putfield 129, 3) := by decide +kernel
theorem dX7_init_324 : decode cX7_init 324 = .ok (.aload_n 0, 1) := by decide +kernel
theorem dX7_init_325 : decode cX7_init 325 = .ok (.bipush 12, 2) := by decide +kernel
theorem dX7_init_327 : decode cX7_init 327 = .ok (.newarray .int, 2) := by decide +kernel
theorem dX7_init_329 : decode cX7_init 329 = .ok (.putfield 132, 3) := by decide +kernel
theorem dX7_init_332 : decode cX7_init 332 = .ok (.aload_n 0, 1) := by decide +kernel
theorem dX7_init_333 : decode cX7_init 333 = .ok (.bipush 12, 2) := by decide +kernel
theorem dX7_init_335 : decode cX7_init 335 = .ok (.newarray .boolean, 2) := by decide +kernel
theorem dX7_init_337 : decode cX7_init 337 = .ok (.putfield 135, 3) := by decide +kernel
theorem dX7_init_340 : decode cX7_init 340 = .ok (.aload_n 0, 1) := by decide +kernel
theorem dX7_init_341 : decode cX7_init 341 = .ok (.bipush 12, 2) := by decide +kernel
theorem dX7_init_343 : decode cX7_init 343 = .ok (.newarray .int, 2) := by decide +kernel
theorem dX7_init_345 : decode cX7_init 345 = .ok (.putfield 138, 3) := by decide +kernel
theorem dX7_init_348 : decode cX7_init 348 = .ok (.aload_n 0, 1) := by decide +kernel
theorem dX7_init_349 : decode cX7_init 349 = .ok (.bipush 12, 2) := by decide +kernel
theorem dX7_init_351 : decode cX7_init 351 = .ok (.newarray .int, 2) := by decide +kernel
theorem dX7_init_353 : decode cX7_init 353 = .ok (.putfield 141, 3) := by decide +kernel
theorem dX7_init_356 : decode cX7_init 356 = .ok (.aload_n 0, 1) := by decide +kernel
theorem dX7_init_357 : decode cX7_init 357 = .ok (.bipush 12, 2) := by decide +kernel
theorem dX7_init_359 : decode cX7_init 359 = .ok (.newarray .int, 2) := by decide +kernel
theorem dX7_init_361 : decode cX7_init 361 = .ok (.putfield 144, 3) := by decide +kernel
theorem dX7_init_364 : decode cX7_init 364 = .ok (.aload_n 0, 1) := by decide +kernel
theorem dX7_init_365 : decode cX7_init 365 = .ok (.bipush 16, 2) := by decide +kernel
theorem dX7_init_367 : decode cX7_init 367 = .ok (.newarray .int, 2) := by decide +kernel
theorem dX7_init_369 : decode cX7_init 369 = .ok (.putfield 147, 3) := by decide +kernel
theorem dX7_init_372 : decode cX7_init 372 = .ok (.return_, 1) := by decide +kernel
theorem xa_int : Jvm.Cond.arrayClass .int ∈ z_T := z_mT 112 (by decide +kernel) rfl
theorem xa_boolean : Jvm.Cond.arrayClass .boolean ∈ z_T := z_mT 211 (by decide +kernel) rfl
theorem xa_long : Jvm.Cond.arrayClass .long ∈ z_T := z_mT 336 (by decide +kernel) rfl
def xi_2 : List Nat := [4112, 20529, 22577, 24817, 26865, 28913, 30961]
set_option maxRecDepth 20000 in
set_option maxHeartbeats 8000000 in
theorem kt_2 (l : Launch) : x_KT l yX2_init cX2_init 4112 xi_2 1 12 6 132 := by
  intro D cI cZ cJ h0 sz
  refine Met.ofW (cc := cX2_init) (maxL := 1) (ret := none) (by decide) rfl ?_
  intro p e s m args below meth c s₁ B hml hv
  obtain ⟨rfl, hsz, hP, hK, hNest⟩ := hv
  subst hsz
  have hts0 := atoms_spec (ws := Jvm.Cond.code yX2_init cX2_init 1 none :: z_T) B.pre
  have hown : s.vm.findClass RX2 = some m.cls := findClass_of_methodNamed B.named
  have hr := B.returns
  have hlocks := B.notSynchronized
  have hin : meth.name = "<init>" := (name_of_methodNamed B.named B.method).1
  have hts : ∀ w ∈ z_T, w.before _ s = true := fun w hw => hts0 w (List.mem_cons_of_mem _ hw)
  have F : CallFix p m c cX2_init 1 s _ z_T RX2 := ⟨B.exec, B.bytes, hml, hown, hts⟩
  have hP : va_P D z_cl (x_W cI cZ cJ (fun _ => h0) [] h0 4112) s.heap := by rw [x_W_0]; exact hP
  have hD : va_D (va_A (x_c0 h0 4112) s.heap.size) (x_W cI cZ cJ (fun _ => h0) [] h0 4112) := by rw [x_W_0]; exact x_D0
  have hA : ∀ q : Nat, s.heap.size ≤ q → va_A (x_c0 h0 4112) s.heap.size q := fun q h => Or.inr h
  have hS : va_S (va_A (x_c0 h0 4112) s.heap.size) s.heap s.heap [] := va_S.rf
  have hl := lv_entry ([.ref h0]) (n := 1) (Nat.le_of_ble_eq_true rfl)
  rw [lg_entry_eq]
  generalize (lg_sl ([.ref h0]) ++ List.replicate (1 - (lg_sl ([.ref h0])).length) Slot.unset).toArray = ls at hl ⊢
  have hl : lv_has ls 1 [(0, .ref h0)] := hl
  refine lv_aload_n B.exec B.bytes dX2_init_0 rfl (lv_at hl 0 rfl) ?_
  refine W.objInit B.exec B.bytes hown (hts _ (z_mT 81 (by decide +kernel) rfl)) (hts _ (z_mT 74 (by decide +kernel) rfl)) (hts _ (z_mT 75 (by decide +kernel) rfl)) rfl (by rw [hml]; exact hl.1) rfl dX2_init_1 (Nat.le_of_ble_eq_true rfl) (Nat.le_of_ble_eq_true rfl) ?_
  refine W.eq (g2 := F0 m 4 ls []) rfl ?_
  refine x_arr (t := 20529) (k := 0) (idx := 9) (N := 8) (j := 0) (n := 6) (T := TX2) (at_ := .int) (ty := .int) (fty := .array .int) (cX := cI) (a0 := (6, .inl (x_0 20529))) F hin hK hP hD hS hA hl dX2_init_4 dX2_init_5 dX2_init_7 dX2_init_9 (by decide) rfl (fun _ h => by cases h) rfl (by decide) (fun _ => rfl) (fun _ => rfl) xa_int rfl (by decide) (z_mT 82 (by decide +kernel) rfl) rfl rfl (by decide +kernel) (fun _ => rfl) (fun _ => rfl) rfl (x_uniq (by decide +kernel)) (by decide) (x_hdk (by decide)) (Nat.le_of_ble_eq_true rfl) (Nat.le_of_ble_eq_true rfl) (fun q0 H locs hP hD hS => ?_)
  refine x_arr (t := 22577) (k := 1) (idx := 15) (N := 8) (j := 0) (n := 6) (T := TX2) (at_ := .int) (ty := .int) (fty := .array .int) (cX := cI) (a0 := (6, .inl (x_0 22577))) F hin hK hP hD hS hA hl dX2_init_12 dX2_init_13 dX2_init_15 dX2_init_17 (by decide) rfl (fun _ h => by cases h) rfl (by decide) (fun _ => rfl) (fun _ => rfl) xa_int rfl (by decide) (z_mT 83 (by decide +kernel) rfl) rfl rfl (by decide +kernel) (fun _ => rfl) (fun _ => rfl) rfl (x_uniq (by decide +kernel)) (by decide) (x_hdk (by decide)) (Nat.le_of_ble_eq_true rfl) (Nat.le_of_ble_eq_true rfl) (fun q1 H locs hP hD hS => ?_)
  refine x_arr (t := 24817) (k := 2) (idx := 18) (N := 8) (j := 0) (n := 30) (T := TX2) (at_ := .int) (ty := .int) (fty := .array .int) (cX := cI) (a0 := (30, .inl (x_0 24817))) F hin hK hP hD hS hA hl dX2_init_20 dX2_init_21 dX2_init_23 dX2_init_25 (by decide) rfl (fun _ h => by cases h) rfl (by decide) (fun _ => rfl) (fun _ => rfl) xa_int rfl (by decide) (z_mT 85 (by decide +kernel) rfl) rfl rfl (by decide +kernel) (fun _ => rfl) (fun _ => rfl) rfl (x_uniq (by decide +kernel)) (by decide) (x_hdk (by decide)) (Nat.le_of_ble_eq_true rfl) (Nat.le_of_ble_eq_true rfl) (fun q2 H locs hP hD hS => ?_)
  refine x_arr (t := 26865) (k := 3) (idx := 21) (N := 8) (j := 0) (n := 30) (T := TX2) (at_ := .int) (ty := .int) (fty := .array .int) (cX := cI) (a0 := (30, .inl (x_0 26865))) F hin hK hP hD hS hA hl dX2_init_28 dX2_init_29 dX2_init_31 dX2_init_33 (by decide) rfl (fun _ h => by cases h) rfl (by decide) (fun _ => rfl) (fun _ => rfl) xa_int rfl (by decide) (z_mT 86 (by decide +kernel) rfl) rfl rfl (by decide +kernel) (fun _ => rfl) (fun _ => rfl) rfl (x_uniq (by decide +kernel)) (by decide) (x_hdk (by decide)) (Nat.le_of_ble_eq_true rfl) (Nat.le_of_ble_eq_true rfl) (fun q3 H locs hP hD hS => ?_)
  refine x_arr (t := 28913) (k := 4) (idx := 24) (N := 8) (j := 0) (n := 30) (T := TX2) (at_ := .int) (ty := .int) (fty := .array .int) (cX := cI) (a0 := (30, .inl (x_0 28913))) F hin hK hP hD hS hA hl dX2_init_36 dX2_init_37 dX2_init_39 dX2_init_41 (by decide) rfl (fun _ h => by cases h) rfl (by decide) (fun _ => rfl) (fun _ => rfl) xa_int rfl (by decide) (z_mT 87 (by decide +kernel) rfl) rfl rfl (by decide +kernel) (fun _ => rfl) (fun _ => rfl) rfl (x_uniq (by decide +kernel)) (by decide) (x_hdk (by decide)) (Nat.le_of_ble_eq_true rfl) (Nat.le_of_ble_eq_true rfl) (fun q4 H locs hP hD hS => ?_)
  refine x_arr (t := 30961) (k := 5) (idx := 27) (N := 8) (j := 0) (n := 30) (T := TX2) (at_ := .int) (ty := .int) (fty := .array .int) (cX := cI) (a0 := (30, .inl (x_0 30961))) F hin hK hP hD hS hA hl dX2_init_44 dX2_init_45 dX2_init_47 dX2_init_49 (by decide) rfl (fun _ h => by cases h) rfl (by decide) (fun _ => rfl) (fun _ => rfl) xa_int rfl (by decide) (z_mT 89 (by decide +kernel) rfl) rfl rfl (by decide +kernel) (fun _ => rfl) (fun _ => rfl) rfl (x_uniq (by decide +kernel)) (by decide) (x_hdk (by decide)) (Nat.le_of_ble_eq_true rfl) (Nat.le_of_ble_eq_true rfl) (fun q5 H locs hP hD hS => ?_)
  refine W.widen (k := 6) (n := 132) (Nat.le_of_ble_eq_true rfl) (Nat.le_of_ble_eq_true rfl) ?_
  have hP := x_Pend (ids := xi_2) hP rfl (by decide) (by decide +kernel) rfl
  have hD := x_Dend (ids := xi_2) hD rfl (by decide) (by decide +kernel) rfl
  exact W.vret B.exec B.bytes hr (fun t ht hW => ⟨⟨_, rfl, rfl, by rw [ht]; exact hP, hD⟩, hS.F ht⟩) hS.2.2 dX2_init_52
def xi_5 : List Nat := [6184, 32849, 34897, 37825, 39873]
set_option maxRecDepth 20000 in
set_option maxHeartbeats 8000000 in
theorem kt_5 (l : Launch) : x_KT l yX5_init cX5_init 6184 xi_5 1 12 4 260 := by
  intro D cI cZ cJ h0 sz
  refine Met.ofW (cc := cX5_init) (maxL := 1) (ret := none) (by decide) rfl ?_
  intro p e s m args below meth c s₁ B hml hv
  obtain ⟨rfl, hsz, hP, hK, hNest⟩ := hv
  subst hsz
  have hts0 := atoms_spec (ws := Jvm.Cond.code yX5_init cX5_init 1 none :: z_T) B.pre
  have hown : s.vm.findClass RX5 = some m.cls := findClass_of_methodNamed B.named
  have hr := B.returns
  have hlocks := B.notSynchronized
  have hin : meth.name = "<init>" := (name_of_methodNamed B.named B.method).1
  have hts : ∀ w ∈ z_T, w.before _ s = true := fun w hw => hts0 w (List.mem_cons_of_mem _ hw)
  have F : CallFix p m c cX5_init 1 s _ z_T RX5 := ⟨B.exec, B.bytes, hml, hown, hts⟩
  have hP : va_P D z_cl (x_W cI cZ cJ (fun _ => h0) [] h0 6184) s.heap := by rw [x_W_0]; exact hP
  have hD : va_D (va_A (x_c0 h0 6184) s.heap.size) (x_W cI cZ cJ (fun _ => h0) [] h0 6184) := by rw [x_W_0]; exact x_D0
  have hA : ∀ q : Nat, s.heap.size ≤ q → va_A (x_c0 h0 6184) s.heap.size q := fun q h => Or.inr h
  have hS : va_S (va_A (x_c0 h0 6184) s.heap.size) s.heap s.heap [] := va_S.rf
  have hl := lv_entry ([.ref h0]) (n := 1) (Nat.le_of_ble_eq_true rfl)
  rw [lg_entry_eq]
  generalize (lg_sl ([.ref h0]) ++ List.replicate (1 - (lg_sl ([.ref h0])).length) Slot.unset).toArray = ls at hl ⊢
  have hl : lv_has ls 1 [(0, .ref h0)] := hl
  refine lv_aload_n B.exec B.bytes dX5_init_0 rfl (lv_at hl 0 rfl) ?_
  refine W.objInit B.exec B.bytes hown (hts _ (z_mT 118 (by decide +kernel) rfl)) (hts _ (z_mT 74 (by decide +kernel) rfl)) (hts _ (z_mT 75 (by decide +kernel) rfl)) rfl (by rw [hml]; exact hl.1) rfl dX5_init_1 (Nat.le_of_ble_eq_true rfl) (Nat.le_of_ble_eq_true rfl) ?_
  refine W.eq (g2 := F0 m 4 ls []) rfl ?_
  refine x_arr (t := 32849) (k := 0) (idx := 9) (N := 5) (j := 0) (n := 10) (T := TX5) (at_ := .int) (ty := .int) (fty := .array .int) (cX := cI) (a0 := (10, .inl (x_0 32849))) F hin hK hP hD hS hA hl dX5_init_4 dX5_init_5 dX5_init_7 dX5_init_9 (by decide) rfl (fun _ h => by cases h) rfl (by decide) (fun _ => rfl) (fun _ => rfl) xa_int rfl (by decide) (z_mT 119 (by decide +kernel) rfl) rfl rfl (by decide +kernel) (fun _ => rfl) (fun _ => rfl) rfl (x_uniq (by decide +kernel)) (by decide) (x_hdk (by decide)) (Nat.le_of_ble_eq_true rfl) (Nat.le_of_ble_eq_true rfl) (fun q0 H locs hP hD hS => ?_)
  refine x_arr (t := 34897) (k := 1) (idx := 15) (N := 5) (j := 0) (n := 10) (T := TX5) (at_ := .int) (ty := .int) (fty := .array .int) (cX := cI) (a0 := (10, .inl (x_0 34897))) F hin hK hP hD hS hA hl dX5_init_12 dX5_init_13 dX5_init_15 dX5_init_17 (by decide) rfl (fun _ h => by cases h) rfl (by decide) (fun _ => rfl) (fun _ => rfl) xa_int rfl (by decide) (z_mT 121 (by decide +kernel) rfl) rfl rfl (by decide +kernel) (fun _ => rfl) (fun _ => rfl) rfl (x_uniq (by decide +kernel)) (by decide) (x_hdk (by decide)) (Nat.le_of_ble_eq_true rfl) (Nat.le_of_ble_eq_true rfl) (fun q1 H locs hP hD hS => ?_)
  refine x_arr (t := 37825) (k := 2) (idx := 18) (N := 5) (j := 0) (n := 120) (T := TX5) (at_ := .int) (ty := .int) (fty := .array .int) (cX := cI) (a0 := (120, .inl (x_0 37825))) F hin hK hP hD hS hA hl dX5_init_20 dX5_init_21 dX5_init_23 dX5_init_25 (by decide) rfl (fun _ h => by cases h) rfl (by decide) (fun _ => rfl) (fun _ => rfl) xa_int rfl (by decide) (z_mT 123 (by decide +kernel) rfl) rfl rfl (by decide +kernel) (fun _ => rfl) (fun _ => rfl) rfl (x_uniq (by decide +kernel)) (by decide) (x_hdk (by decide)) (Nat.le_of_ble_eq_true rfl) (Nat.le_of_ble_eq_true rfl) (fun q2 H locs hP hD hS => ?_)
  refine x_arr (t := 39873) (k := 3) (idx := 21) (N := 5) (j := 0) (n := 120) (T := TX5) (at_ := .int) (ty := .int) (fty := .array .int) (cX := cI) (a0 := (120, .inl (x_0 39873))) F hin hK hP hD hS hA hl dX5_init_28 dX5_init_29 dX5_init_31 dX5_init_33 (by decide) rfl (fun _ h => by cases h) rfl (by decide) (fun _ => rfl) (fun _ => rfl) xa_int rfl (by decide) (z_mT 124 (by decide +kernel) rfl) rfl rfl (by decide +kernel) (fun _ => rfl) (fun _ => rfl) rfl (x_uniq (by decide +kernel)) (by decide) (x_hdk (by decide)) (Nat.le_of_ble_eq_true rfl) (Nat.le_of_ble_eq_true rfl) (fun q3 H locs hP hD hS => ?_)
  refine W.widen (k := 4) (n := 260) (Nat.le_of_ble_eq_true rfl) (Nat.le_of_ble_eq_true rfl) ?_
  have hP := x_Pend (ids := xi_5) hP rfl (by decide) (by decide +kernel) rfl
  have hD := x_Dend (ids := xi_5) hD rfl (by decide) (by decide +kernel) rfl
  exact W.vret B.exec B.bytes hr (fun t ht hW => ⟨⟨_, rfl, rfl, by rw [ht]; exact hP, hD⟩, hS.F ht⟩) hS.2.2 dX5_init_36
def xi_3 : List Nat := [8216, 41441, 43489, 45537, 47585, 49201, 51585, 53633]
set_option maxRecDepth 20000 in
set_option maxHeartbeats 8000000 in
theorem kt_3 (l : Launch) : x_KT l yX3_init cX3_init 8216 xi_3 1 12 7 342 := by
  intro D cI cZ cJ h0 sz
  refine Met.ofW (cc := cX3_init) (maxL := 1) (ret := none) (by decide) rfl ?_
  intro p e s m args below meth c s₁ B hml hv
  obtain ⟨rfl, hsz, hP, hK, hNest⟩ := hv
  subst hsz
  have hts0 := atoms_spec (ws := Jvm.Cond.code yX3_init cX3_init 1 none :: z_T) B.pre
  have hown : s.vm.findClass RX3 = some m.cls := findClass_of_methodNamed B.named
  have hr := B.returns
  have hlocks := B.notSynchronized
  have hin : meth.name = "<init>" := (name_of_methodNamed B.named B.method).1
  have hts : ∀ w ∈ z_T, w.before _ s = true := fun w hw => hts0 w (List.mem_cons_of_mem _ hw)
  have F : CallFix p m c cX3_init 1 s _ z_T RX3 := ⟨B.exec, B.bytes, hml, hown, hts⟩
  have hP : va_P D z_cl (x_W cI cZ cJ (fun _ => h0) [] h0 8216) s.heap := by rw [x_W_0]; exact hP
  have hD : va_D (va_A (x_c0 h0 8216) s.heap.size) (x_W cI cZ cJ (fun _ => h0) [] h0 8216) := by rw [x_W_0]; exact x_D0
  have hA : ∀ q : Nat, s.heap.size ≤ q → va_A (x_c0 h0 8216) s.heap.size q := fun q h => Or.inr h
  have hS : va_S (va_A (x_c0 h0 8216) s.heap.size) s.heap s.heap [] := va_S.rf
  have hl := lv_entry ([.ref h0]) (n := 1) (Nat.le_of_ble_eq_true rfl)
  rw [lg_entry_eq]
  generalize (lg_sl ([.ref h0]) ++ List.replicate (1 - (lg_sl ([.ref h0])).length) Slot.unset).toArray = ls at hl ⊢
  have hl : lv_has ls 1 [(0, .ref h0)] := hl
  refine lv_aload_n B.exec B.bytes dX3_init_0 rfl (lv_at hl 0 rfl) ?_
  refine W.objInit B.exec B.bytes hown (hts _ (z_mT 143 (by decide +kernel) rfl)) (hts _ (z_mT 74 (by decide +kernel) rfl)) (hts _ (z_mT 75 (by decide +kernel) rfl)) rfl (by rw [hml]; exact hl.1) rfl dX3_init_1 (Nat.le_of_ble_eq_true rfl) (Nat.le_of_ble_eq_true rfl) ?_
  refine W.eq (g2 := F0 m 4 ls []) rfl ?_
  refine x_arr (t := 41441) (k := 0) (idx := 9) (N := 8) (j := 0) (n := 60) (T := TX3) (at_ := .int) (ty := .int) (fty := .array .int) (cX := cI) (a0 := (60, .inl (x_0 41441))) F hin hK hP hD hS hA hl dX3_init_4 dX3_init_5 dX3_init_7 dX3_init_9 (by decide) rfl (fun _ h => by cases h) rfl (by decide) (fun _ => rfl) (fun _ => rfl) xa_int rfl (by decide) (z_mT 144 (by decide +kernel) rfl) rfl rfl (by decide +kernel) (fun _ => rfl) (fun _ => rfl) rfl (x_uniq (by decide +kernel)) (by decide) (x_hdk (by decide)) (Nat.le_of_ble_eq_true rfl) (Nat.le_of_ble_eq_true rfl) (fun q0 H locs hP hD hS => ?_)
  refine x_arr (t := 43489) (k := 1) (idx := 15) (N := 8) (j := 0) (n := 60) (T := TX3) (at_ := .int) (ty := .int) (fty := .array .int) (cX := cI) (a0 := (60, .inl (x_0 43489))) F hin hK hP hD hS hA hl dX3_init_12 dX3_init_13 dX3_init_15 dX3_init_17 (by decide) rfl (fun _ h => by cases h) rfl (by decide) (fun _ => rfl) (fun _ => rfl) xa_int rfl (by decide) (z_mT 145 (by decide +kernel) rfl) rfl rfl (by decide +kernel) (fun _ => rfl) (fun _ => rfl) rfl (x_uniq (by decide +kernel)) (by decide) (x_hdk (by decide)) (Nat.le_of_ble_eq_true rfl) (Nat.le_of_ble_eq_true rfl) (fun q1 H locs hP hD hS => ?_)
  refine x_arr (t := 45537) (k := 2) (idx := 18) (N := 8) (j := 0) (n := 60) (T := TX3) (at_ := .int) (ty := .int) (fty := .array .int) (cX := cI) (a0 := (60, .inl (x_0 45537))) F hin hK hP hD hS hA hl dX3_init_20 dX3_init_21 dX3_init_23 dX3_init_25 (by decide) rfl (fun _ h => by cases h) rfl (by decide) (fun _ => rfl) (fun _ => rfl) xa_int rfl (by decide) (z_mT 146 (by decide +kernel) rfl) rfl rfl (by decide +kernel) (fun _ => rfl) (fun _ => rfl) rfl (x_uniq (by decide +kernel)) (by decide) (x_hdk (by decide)) (Nat.le_of_ble_eq_true rfl) (Nat.le_of_ble_eq_true rfl) (fun q2 H locs hP hD hS => ?_)
  refine x_arr (t := 47585) (k := 3) (idx := 21) (N := 8) (j := 0) (n := 60) (T := TX3) (at_ := .int) (ty := .int) (fty := .array .int) (cX := cI) (a0 := (60, .inl (x_0 47585))) F hin hK hP hD hS hA hl dX3_init_28 dX3_init_29 dX3_init_31 dX3_init_33 (by decide) rfl (fun _ h => by cases h) rfl (by decide) (fun _ => rfl) (fun _ => rfl) xa_int rfl (by decide) (z_mT 147 (by decide +kernel) rfl) rfl rfl (by decide +kernel) (fun _ => rfl) (fun _ => rfl) rfl (x_uniq (by decide +kernel)) (by decide) (x_hdk (by decide)) (Nat.le_of_ble_eq_true rfl) (Nat.le_of_ble_eq_true rfl) (fun q3 H locs hP hD hS => ?_)
  refine x_arr (t := 49201) (k := 4) (idx := 24) (N := 8) (j := 0) (n := 6) (T := TX3) (at_ := .int) (ty := .int) (fty := .array .int) (cX := cI) (a0 := (6, .inl (x_0 49201))) F hin hK hP hD hS hA hl dX3_init_36 dX3_init_37 dX3_init_39 dX3_init_41 (by decide) rfl (fun _ h => by cases h) rfl (by decide) (fun _ => rfl) (fun _ => rfl) xa_int rfl (by decide) (z_mT 148 (by decide +kernel) rfl) rfl rfl (by decide +kernel) (fun _ => rfl) (fun _ => rfl) rfl (x_uniq (by decide +kernel)) (by decide) (x_hdk (by decide)) (Nat.le_of_ble_eq_true rfl) (Nat.le_of_ble_eq_true rfl) (fun q4 H locs hP hD hS => ?_)
  refine x_arr (t := 51585) (k := 5) (idx := 27) (N := 8) (j := 0) (n := 48) (T := TX3) (at_ := .int) (ty := .int) (fty := .array .int) (cX := cI) (a0 := (48, .inl (x_0 51585))) F hin hK hP hD hS hA hl dX3_init_44 dX3_init_45 dX3_init_47 dX3_init_49 (by decide) rfl (fun _ h => by cases h) rfl (by decide) (fun _ => rfl) (fun _ => rfl) xa_int rfl (by decide) (z_mT 150 (by decide +kernel) rfl) rfl rfl (by decide +kernel) (fun _ => rfl) (fun _ => rfl) rfl (x_uniq (by decide +kernel)) (by decide) (x_hdk (by decide)) (Nat.le_of_ble_eq_true rfl) (Nat.le_of_ble_eq_true rfl) (fun q5 H locs hP hD hS => ?_)
  refine x_arr (t := 53633) (k := 6) (idx := 30) (N := 8) (j := 0) (n := 48) (T := TX3) (at_ := .int) (ty := .int) (fty := .array .int) (cX := cI) (a0 := (48, .inl (x_0 53633))) F hin hK hP hD hS hA hl dX3_init_52 dX3_init_53 dX3_init_55 dX3_init_57 (by decide) rfl (fun _ h => by cases h) rfl (by decide) (fun _ => rfl) (fun _ => rfl) xa_int rfl (by decide) (z_mT 151 (by decide +kernel) rfl) rfl rfl (by decide +kernel) (fun _ => rfl) (fun _ => rfl) rfl (x_uniq (by decide +kernel)) (by decide) (x_hdk (by decide)) (Nat.le_of_ble_eq_true rfl) (Nat.le_of_ble_eq_true rfl) (fun q6 H locs hP hD hS => ?_)
  refine W.widen (k := 7) (n := 342) (Nat.le_of_ble_eq_true rfl) (Nat.le_of_ble_eq_true rfl) ?_
  have hP := x_Pend (ids := xi_3) hP rfl (by decide) (by decide +kernel) rfl
  have hD := x_Dend (ids := xi_3) hD rfl (by decide) (by decide +kernel) rfl
  exact W.vret B.exec B.bytes hr (fun t ht hW => ⟨⟨_, rfl, rfl, by rw [ht]; exact hP, hD⟩, hS.F ht⟩) hS.2.2 dX3_init_60
def xi_0 : List Nat := [10240, 55617, 57665, 59713, 61761, 63809, 65857, 67906, 69954]
set_option maxRecDepth 20000 in
set_option maxHeartbeats 8000000 in
theorem kt_0 (l : Launch) : x_KT l yX0_init cX0_init 10240 xi_0 1 12 8 320 := by
  intro D cI cZ cJ h0 sz
  refine Met.ofW (cc := cX0_init) (maxL := 1) (ret := none) (by decide) rfl ?_
  intro p e s m args below meth c s₁ B hml hv
  obtain ⟨rfl, hsz, hP, hK, hNest⟩ := hv
  subst hsz
  have hts0 := atoms_spec (ws := Jvm.Cond.code yX0_init cX0_init 1 none :: z_T) B.pre
  have hown : s.vm.findClass RX0 = some m.cls := findClass_of_methodNamed B.named
  have hr := B.returns
  have hlocks := B.notSynchronized
  have hin : meth.name = "<init>" := (name_of_methodNamed B.named B.method).1
  have hts : ∀ w ∈ z_T, w.before _ s = true := fun w hw => hts0 w (List.mem_cons_of_mem _ hw)
  have F : CallFix p m c cX0_init 1 s _ z_T RX0 := ⟨B.exec, B.bytes, hml, hown, hts⟩
  have hP : va_P D z_cl (x_W cI cZ cJ (fun _ => h0) [] h0 10240) s.heap := by rw [x_W_0]; exact hP
  have hD : va_D (va_A (x_c0 h0 10240) s.heap.size) (x_W cI cZ cJ (fun _ => h0) [] h0 10240) := by rw [x_W_0]; exact x_D0
  have hA : ∀ q : Nat, s.heap.size ≤ q → va_A (x_c0 h0 10240) s.heap.size q := fun q h => Or.inr h
  have hS : va_S (va_A (x_c0 h0 10240) s.heap.size) s.heap s.heap [] := va_S.rf
  have hl := lv_entry ([.ref h0]) (n := 1) (Nat.le_of_ble_eq_true rfl)
  rw [lg_entry_eq]
  generalize (lg_sl ([.ref h0]) ++ List.replicate (1 - (lg_sl ([.ref h0])).length) Slot.unset).toArray = ls at hl ⊢
  have hl : lv_has ls 1 [(0, .ref h0)] := hl
  refine lv_aload_n B.exec B.bytes dX0_init_0 rfl (lv_at hl 0 rfl) ?_
  refine W.objInit B.exec B.bytes hown (hts _ (z_mT 176 (by decide +kernel) rfl)) (hts _ (z_mT 74 (by decide +kernel) rfl)) (hts _ (z_mT 75 (by decide +kernel) rfl)) rfl (by rw [hml]; exact hl.1) rfl dX0_init_1 (Nat.le_of_ble_eq_true rfl) (Nat.le_of_ble_eq_true rfl) ?_
  refine W.eq (g2 := F0 m 4 ls []) rfl ?_
  refine x_arr (t := 55617) (k := 0) (idx := 9) (N := 9) (j := 0) (n := 40) (T := TX0) (at_ := .int) (ty := .int) (fty := .array .int) (cX := cI) (a0 := (40, .inl (x_0 55617))) F hin hK hP hD hS hA hl dX0_init_4 dX0_init_5 dX0_init_7 dX0_init_9 (by decide) rfl (fun _ h => by cases h) rfl (by decide) (fun _ => rfl) (fun _ => rfl) xa_int rfl (by decide) (z_mT 177 (by decide +kernel) rfl) rfl rfl (by decide +kernel) (fun _ => rfl) (fun _ => rfl) rfl (x_uniq (by decide +kernel)) (by decide) (x_hdk (by decide)) (Nat.le_of_ble_eq_true rfl) (Nat.le_of_ble_eq_true rfl) (fun q0 H locs hP hD hS => ?_)
  refine x_arr (t := 57665) (k := 1) (idx := 15) (N := 9) (j := 0) (n := 40) (T := TX0) (at_ := .int) (ty := .int) (fty := .array .int) (cX := cI) (a0 := (40, .inl (x_0 57665))) F hin hK hP hD hS hA hl dX0_init_12 dX0_init_13 dX0_init_15 dX0_init_17 (by decide) rfl (fun _ h => by cases h) rfl (by decide) (fun _ => rfl) (fun _ => rfl) xa_int rfl (by decide) (z_mT 179 (by decide +kernel) rfl) rfl rfl (by decide +kernel) (fun _ => rfl) (fun _ => rfl) rfl (x_uniq (by decide +kernel)) (by decide) (x_hdk (by decide)) (Nat.le_of_ble_eq_true rfl) (Nat.le_of_ble_eq_true rfl) (fun q1 H locs hP hD hS => ?_)
  refine x_arr (t := 59713) (k := 2) (idx := 18) (N := 9) (j := 0) (n := 40) (T := TX0) (at_ := .int) (ty := .int) (fty := .array .int) (cX := cI) (a0 := (40, .inl (x_0 59713))) F hin hK hP hD hS hA hl dX0_init_20 dX0_init_21 dX0_init_23 dX0_init_25 (by decide) rfl (fun _ h => by cases h) rfl (by decide) (fun _ => rfl) (fun _ => rfl) xa_int rfl (by decide) (z_mT 181 (by decide +kernel) rfl) rfl rfl (by decide +kernel) (fun _ => rfl) (fun _ => rfl) rfl (x_uniq (by decide +kernel)) (by decide) (x_hdk (by decide)) (Nat.le_of_ble_eq_true rfl) (Nat.le_of_ble_eq_true rfl) (fun q2 H locs hP hD hS => ?_)
  refine x_arr (t := 61761) (k := 3) (idx := 21) (N := 9) (j := 0) (n := 40) (T := TX0) (at_ := .int) (ty := .int) (fty := .array .int) (cX := cI) (a0 := (40, .inl (x_0 61761))) F hin hK hP hD hS hA hl dX0_init_28 dX0_init_29 dX0_init_31 dX0_init_33 (by decide) rfl (fun _ h => by cases h) rfl (by decide) (fun _ => rfl) (fun _ => rfl) xa_int rfl (by decide) (z_mT 182 (by decide +kernel) rfl) rfl rfl (by decide +kernel) (fun _ => rfl) (fun _ => rfl) rfl (x_uniq (by decide +kernel)) (by decide) (x_hdk (by decide)) (Nat.le_of_ble_eq_true rfl) (Nat.le_of_ble_eq_true rfl) (fun q3 H locs hP hD hS => ?_)
  refine x_arr (t := 63809) (k := 4) (idx := 24) (N := 9) (j := 0) (n := 40) (T := TX0) (at_ := .int) (ty := .int) (fty := .array .int) (cX := cI) (a0 := (40, .inl (x_0 63809))) F hin hK hP hD hS hA hl dX0_init_36 dX0_init_37 dX0_init_39 dX0_init_41 (by decide) rfl (fun _ h => by cases h) rfl (by decide) (fun _ => rfl) (fun _ => rfl) xa_int rfl (by decide) (z_mT 183 (by decide +kernel) rfl) rfl rfl (by decide +kernel) (fun _ => rfl) (fun _ => rfl) rfl (x_uniq (by decide +kernel)) (by decide) (x_hdk (by decide)) (Nat.le_of_ble_eq_true rfl) (Nat.le_of_ble_eq_true rfl) (fun q4 H locs hP hD hS => ?_)
  refine x_arr (t := 65857) (k := 5) (idx := 27) (N := 9) (j := 0) (n := 40) (T := TX0) (at_ := .int) (ty := .int) (fty := .array .int) (cX := cI) (a0 := (40, .inl (x_0 65857))) F hin hK hP hD hS hA hl dX0_init_44 dX0_init_45 dX0_init_47 dX0_init_49 (by decide) rfl (fun _ h => by cases h) rfl (by decide) (fun _ => rfl) (fun _ => rfl) xa_int rfl (by decide) (z_mT 184 (by decide +kernel) rfl) rfl rfl (by decide +kernel) (fun _ => rfl) (fun _ => rfl) rfl (x_uniq (by decide +kernel)) (by decide) (x_hdk (by decide)) (Nat.le_of_ble_eq_true rfl) (Nat.le_of_ble_eq_true rfl) (fun q5 H locs hP hD hS => ?_)
  refine x_arr (t := 67906) (k := 6) (idx := 30) (N := 9) (j := 1) (n := 40) (T := TX0) (at_ := .boolean) (ty := .boolean) (fty := .array .boolean) (cX := cZ) (a0 := (40, .inl (x_0 67906))) F hin hK hP hD hS hA hl dX0_init_52 dX0_init_53 dX0_init_55 dX0_init_57 (by decide) rfl (fun _ h => by cases h) rfl (by decide) (fun _ => rfl) (fun _ => rfl) xa_boolean rfl (by decide) (z_mT 186 (by decide +kernel) rfl) rfl rfl (by decide +kernel) (fun _ => rfl) (fun _ => rfl) rfl (x_uniq (by decide +kernel)) (by decide) (x_hdk (by decide)) (Nat.le_of_ble_eq_true rfl) (Nat.le_of_ble_eq_true rfl) (fun q6 H locs hP hD hS => ?_)
  refine x_arr (t := 69954) (k := 7) (idx := 34) (N := 9) (j := 1) (n := 40) (T := TX0) (at_ := .boolean) (ty := .boolean) (fty := .array .boolean) (cX := cZ) (a0 := (40, .inl (x_0 69954))) F hin hK hP hD hS hA hl dX0_init_60 dX0_init_61 dX0_init_63 dX0_init_65 (by decide) rfl (fun _ h => by cases h) rfl (by decide) (fun _ => rfl) (fun _ => rfl) xa_boolean rfl (by decide) (z_mT 188 (by decide +kernel) rfl) rfl rfl (by decide +kernel) (fun _ => rfl) (fun _ => rfl) rfl (x_uniq (by decide +kernel)) (by decide) (x_hdk (by decide)) (Nat.le_of_ble_eq_true rfl) (Nat.le_of_ble_eq_true rfl) (fun q7 H locs hP hD hS => ?_)
  refine W.widen (k := 8) (n := 320) (Nat.le_of_ble_eq_true rfl) (Nat.le_of_ble_eq_true rfl) ?_
  have hP := x_Pend (ids := xi_0) hP rfl (by decide) (by decide +kernel) rfl
  have hD := x_Dend (ids := xi_0) hD rfl (by decide) (by decide +kernel) rfl
  exact W.vret B.exec B.bytes hr (fun t ht hW => ⟨⟨_, rfl, rfl, by rw [ht]; exact hP, hD⟩, hS.F ht⟩) hS.2.2 dX0_init_68
def xi_1 : List Nat := [12296, 71777, 73825, 75873, 77921, 79969, 82017, 84065, 86113]
set_option maxRecDepth 20000 in
set_option maxHeartbeats 8000000 in
theorem kt_1 (l : Launch) : x_KT l yX1_init cX1_init 12296 xi_1 1 12 8 96 := by
  intro D cI cZ cJ h0 sz
  refine Met.ofW (cc := cX1_init) (maxL := 1) (ret := none) (by decide) rfl ?_
  intro p e s m args below meth c s₁ B hml hv
  obtain ⟨rfl, hsz, hP, hK, hNest⟩ := hv
  subst hsz
  have hts0 := atoms_spec (ws := Jvm.Cond.code yX1_init cX1_init 1 none :: z_T) B.pre
  have hown : s.vm.findClass RX1 = some m.cls := findClass_of_methodNamed B.named
  have hr := B.returns
  have hlocks := B.notSynchronized
  have hin : meth.name = "<init>" := (name_of_methodNamed B.named B.method).1
  have hts : ∀ w ∈ z_T, w.before _ s = true := fun w hw => hts0 w (List.mem_cons_of_mem _ hw)
  have F : CallFix p m c cX1_init 1 s _ z_T RX1 := ⟨B.exec, B.bytes, hml, hown, hts⟩
  have hP : va_P D z_cl (x_W cI cZ cJ (fun _ => h0) [] h0 12296) s.heap := by rw [x_W_0]; exact hP
  have hD : va_D (va_A (x_c0 h0 12296) s.heap.size) (x_W cI cZ cJ (fun _ => h0) [] h0 12296) := by rw [x_W_0]; exact x_D0
  have hA : ∀ q : Nat, s.heap.size ≤ q → va_A (x_c0 h0 12296) s.heap.size q := fun q h => Or.inr h
  have hS : va_S (va_A (x_c0 h0 12296) s.heap.size) s.heap s.heap [] := va_S.rf
  have hl := lv_entry ([.ref h0]) (n := 1) (Nat.le_of_ble_eq_true rfl)
  rw [lg_entry_eq]
  generalize (lg_sl ([.ref h0]) ++ List.replicate (1 - (lg_sl ([.ref h0])).length) Slot.unset).toArray = ls at hl ⊢
  have hl : lv_has ls 1 [(0, .ref h0)] := hl
  refine lv_aload_n B.exec B.bytes dX1_init_0 rfl (lv_at hl 0 rfl) ?_
  refine W.objInit B.exec B.bytes hown (hts _ (z_mT 217 (by decide +kernel) rfl)) (hts _ (z_mT 74 (by decide +kernel) rfl)) (hts _ (z_mT 75 (by decide +kernel) rfl)) rfl (by rw [hml]; exact hl.1) rfl dX1_init_1 (Nat.le_of_ble_eq_true rfl) (Nat.le_of_ble_eq_true rfl) ?_
  refine W.eq (g2 := F0 m 4 ls []) rfl ?_
  refine x_arr (t := 71777) (k := 0) (idx := 9) (N := 9) (j := 0) (n := 12) (T := TX1) (at_ := .int) (ty := .int) (fty := .array .int) (cX := cI) (a0 := (12, .inl (x_0 71777))) F hin hK hP hD hS hA hl dX1_init_4 dX1_init_5 dX1_init_7 dX1_init_9 (by decide) rfl (fun _ h => by cases h) rfl (by decide) (fun _ => rfl) (fun _ => rfl) xa_int rfl (by decide) (z_mT 218 (by decide +kernel) rfl) rfl rfl (by decide +kernel) (fun _ => rfl) (fun _ => rfl) rfl (x_uniq (by decide +kernel)) (by decide) (x_hdk (by decide)) (Nat.le_of_ble_eq_true rfl) (Nat.le_of_ble_eq_true rfl) (fun q0 H locs hP hD hS => ?_)
  refine x_arr (t := 73825) (k := 1) (idx := 15) (N := 9) (j := 0) (n := 12) (T := TX1) (at_ := .int) (ty := .int) (fty := .array .int) (cX := cI) (a0 := (12, .inl (x_0 73825))) F hin hK hP hD hS hA hl dX1_init_12 dX1_init_13 dX1_init_15 dX1_init_17 (by decide) rfl (fun _ h => by cases h) rfl (by decide) (fun _ => rfl) (fun _ => rfl) xa_int rfl (by decide) (z_mT 220 (by decide +kernel) rfl) rfl rfl (by decide +kernel) (fun _ => rfl) (fun _ => rfl) rfl (x_uniq (by decide +kernel)) (by decide) (x_hdk (by decide)) (Nat.le_of_ble_eq_true rfl) (Nat.le_of_ble_eq_true rfl) (fun q1 H locs hP hD hS => ?_)
  refine x_arr (t := 75873) (k := 2) (idx := 18) (N := 9) (j := 0) (n := 12) (T := TX1) (at_ := .int) (ty := .int) (fty := .array .int) (cX := cI) (a0 := (12, .inl (x_0 75873))) F hin hK hP hD hS hA hl dX1_init_20 dX1_init_21 dX1_init_23 dX1_init_25 (by decide) rfl (fun _ h => by cases h) rfl (by decide) (fun _ => rfl) (fun _ => rfl) xa_int rfl (by decide) (z_mT 222 (by decide +kernel) rfl) rfl rfl (by decide +kernel) (fun _ => rfl) (fun _ => rfl) rfl (x_uniq (by decide +kernel)) (by decide) (x_hdk (by decide)) (Nat.le_of_ble_eq_true rfl) (Nat.le_of_ble_eq_true rfl) (fun q2 H locs hP hD hS => ?_)
  refine x_arr (t := 77921) (k := 3) (idx := 21) (N := 9) (j := 0) (n := 12) (T := TX1) (at_ := .int) (ty := .int) (fty := .array .int) (cX := cI) (a0 := (12, .inl (x_0 77921))) F hin hK hP hD hS hA hl dX1_init_28 dX1_init_29 dX1_init_31 dX1_init_33 (by decide) rfl (fun _ h => by cases h) rfl (by decide) (fun _ => rfl) (fun _ => rfl) xa_int rfl (by decide) (z_mT 223 (by decide +kernel) rfl) rfl rfl (by decide +kernel) (fun _ => rfl) (fun _ => rfl) rfl (x_uniq (by decide +kernel)) (by decide) (x_hdk (by decide)) (Nat.le_of_ble_eq_true rfl) (Nat.le_of_ble_eq_true rfl) (fun q3 H locs hP hD hS => ?_)
  refine x_arr (t := 79969) (k := 4) (idx := 24) (N := 9) (j := 0) (n := 12) (T := TX1) (at_ := .int) (ty := .int) (fty := .array .int) (cX := cI) (a0 := (12, .inl (x_0 79969))) F hin hK hP hD hS hA hl dX1_init_36 dX1_init_37 dX1_init_39 dX1_init_41 (by decide) rfl (fun _ h => by cases h) rfl (by decide) (fun _ => rfl) (fun _ => rfl) xa_int rfl (by decide) (z_mT 225 (by decide +kernel) rfl) rfl rfl (by decide +kernel) (fun _ => rfl) (fun _ => rfl) rfl (x_uniq (by decide +kernel)) (by decide) (x_hdk (by decide)) (Nat.le_of_ble_eq_true rfl) (Nat.le_of_ble_eq_true rfl) (fun q4 H locs hP hD hS => ?_)
  refine x_arr (t := 82017) (k := 5) (idx := 27) (N := 9) (j := 0) (n := 12) (T := TX1) (at_ := .int) (ty := .int) (fty := .array .int) (cX := cI) (a0 := (12, .inl (x_0 82017))) F hin hK hP hD hS hA hl dX1_init_44 dX1_init_45 dX1_init_47 dX1_init_49 (by decide) rfl (fun _ h => by cases h) rfl (by decide) (fun _ => rfl) (fun _ => rfl) xa_int rfl (by decide) (z_mT 227 (by decide +kernel) rfl) rfl rfl (by decide +kernel) (fun _ => rfl) (fun _ => rfl) rfl (x_uniq (by decide +kernel)) (by decide) (x_hdk (by decide)) (Nat.le_of_ble_eq_true rfl) (Nat.le_of_ble_eq_true rfl) (fun q5 H locs hP hD hS => ?_)
  refine x_arr (t := 84065) (k := 6) (idx := 30) (N := 9) (j := 0) (n := 12) (T := TX1) (at_ := .int) (ty := .int) (fty := .array .int) (cX := cI) (a0 := (12, .inl (x_0 84065))) F hin hK hP hD hS hA hl dX1_init_52 dX1_init_53 dX1_init_55 dX1_init_57 (by decide) rfl (fun _ h => by cases h) rfl (by decide) (fun _ => rfl) (fun _ => rfl) xa_int rfl (by decide) (z_mT 229 (by decide +kernel) rfl) rfl rfl (by decide +kernel) (fun _ => rfl) (fun _ => rfl) rfl (x_uniq (by decide +kernel)) (by decide) (x_hdk (by decide)) (Nat.le_of_ble_eq_true rfl) (Nat.le_of_ble_eq_true rfl) (fun q6 H locs hP hD hS => ?_)
  refine x_arr (t := 86113) (k := 7) (idx := 33) (N := 9) (j := 0) (n := 12) (T := TX1) (at_ := .int) (ty := .int) (fty := .array .int) (cX := cI) (a0 := (12, .inl (x_0 86113))) F hin hK hP hD hS hA hl dX1_init_60 dX1_init_61 dX1_init_63 dX1_init_65 (by decide) rfl (fun _ h => by cases h) rfl (by decide) (fun _ => rfl) (fun _ => rfl) xa_int rfl (by decide) (z_mT 231 (by decide +kernel) rfl) rfl rfl (by decide +kernel) (fun _ => rfl) (fun _ => rfl) rfl (x_uniq (by decide +kernel)) (by decide) (x_hdk (by decide)) (Nat.le_of_ble_eq_true rfl) (Nat.le_of_ble_eq_true rfl) (fun q7 H locs hP hD hS => ?_)
  refine W.widen (k := 8) (n := 96) (Nat.le_of_ble_eq_true rfl) (Nat.le_of_ble_eq_true rfl) ?_
  have hP := x_Pend (ids := xi_1) hP rfl (by decide) (by decide +kernel) rfl
  have hD := x_Dend (ids := xi_1) hD rfl (by decide) (by decide +kernel) rfl
  exact W.vret B.exec B.bytes hr (fun t ht hW => ⟨⟨_, rfl, rfl, by rw [ht]; exact hP, hD⟩, hS.F ht⟩) hS.2.2 dX1_init_68
def xi_4 : List Nat := [14368, 88161, 90209, 92257, 94305, 96353, 98401, 100449, 102497, 104545, 106594, 108642]
set_option maxRecDepth 20000 in
set_option maxHeartbeats 8000000 in
theorem kt_4 (l : Launch) : x_KT l yX4_init cX4_init 14368 xi_4 1 12 11 132 := by
  intro D cI cZ cJ h0 sz
  refine Met.ofW (cc := cX4_init) (maxL := 1) (ret := none) (by decide) rfl ?_
  intro p e s m args below meth c s₁ B hml hv
  obtain ⟨rfl, hsz, hP, hK, hNest⟩ := hv
  subst hsz
  have hts0 := atoms_spec (ws := Jvm.Cond.code yX4_init cX4_init 1 none :: z_T) B.pre
  have hown : s.vm.findClass RX4 = some m.cls := findClass_of_methodNamed B.named
  have hr := B.returns
  have hlocks := B.notSynchronized
  have hin : meth.name = "<init>" := (name_of_methodNamed B.named B.method).1
  have hts : ∀ w ∈ z_T, w.before _ s = true := fun w hw => hts0 w (List.mem_cons_of_mem _ hw)
  have F : CallFix p m c cX4_init 1 s _ z_T RX4 := ⟨B.exec, B.bytes, hml, hown, hts⟩
  have hP : va_P D z_cl (x_W cI cZ cJ (fun _ => h0) [] h0 14368) s.heap := by rw [x_W_0]; exact hP
  have hD : va_D (va_A (x_c0 h0 14368) s.heap.size) (x_W cI cZ cJ (fun _ => h0) [] h0 14368) := by rw [x_W_0]; exact x_D0
  have hA : ∀ q : Nat, s.heap.size ≤ q → va_A (x_c0 h0 14368) s.heap.size q := fun q h => Or.inr h
  have hS : va_S (va_A (x_c0 h0 14368) s.heap.size) s.heap s.heap [] := va_S.rf
  have hl := lv_entry ([.ref h0]) (n := 1) (Nat.le_of_ble_eq_true rfl)
  rw [lg_entry_eq]
  generalize (lg_sl ([.ref h0]) ++ List.replicate (1 - (lg_sl ([.ref h0])).length) Slot.unset).toArray = ls at hl ⊢
  have hl : lv_has ls 1 [(0, .ref h0)] := hl
  refine lv_aload_n B.exec B.bytes dX4_init_0 rfl (lv_at hl 0 rfl) ?_
  refine W.objInit B.exec B.bytes hown (hts _ (z_mT 259 (by decide +kernel) rfl)) (hts _ (z_mT 74 (by decide +kernel) rfl)) (hts _ (z_mT 75 (by decide +kernel) rfl)) rfl (by rw [hml]; exact hl.1) rfl dX4_init_1 (Nat.le_of_ble_eq_true rfl) (Nat.le_of_ble_eq_true rfl) ?_
  refine W.eq (g2 := F0 m 4 ls []) rfl ?_
  refine x_arr (t := 88161) (k := 0) (idx := 9) (N := 12) (j := 0) (n := 12) (T := TX4) (at_ := .int) (ty := .int) (fty := .array .int) (cX := cI) (a0 := (12, .inl (x_0 88161))) F hin hK hP hD hS hA hl dX4_init_4 dX4_init_5 dX4_init_7 dX4_init_9 (by decide) rfl (fun _ h => by cases h) rfl (by decide) (fun _ => rfl) (fun _ => rfl) xa_int rfl (by decide) (z_mT 260 (by decide +kernel) rfl) rfl rfl (by decide +kernel) (fun _ => rfl) (fun _ => rfl) rfl (x_uniq (by decide +kernel)) (by decide) (x_hdk (by decide)) (Nat.le_of_ble_eq_true rfl) (Nat.le_of_ble_eq_true rfl) (fun q0 H locs hP hD hS => ?_)
  refine x_arr (t := 90209) (k := 1) (idx := 15) (N := 12) (j := 0) (n := 12) (T := TX4) (at_ := .int) (ty := .int) (fty := .array .int) (cX := cI) (a0 := (12, .inl (x_0 90209))) F hin hK hP hD hS hA hl dX4_init_12 dX4_init_13 dX4_init_15 dX4_init_17 (by decide) rfl (fun _ h => by cases h) rfl (by decide) (fun _ => rfl) (fun _ => rfl) xa_int rfl (by decide) (z_mT 262 (by decide +kernel) rfl) rfl rfl (by decide +kernel) (fun _ => rfl) (fun _ => rfl) rfl (x_uniq (by decide +kernel)) (by decide) (x_hdk (by decide)) (Nat.le_of_ble_eq_true rfl) (Nat.le_of_ble_eq_true rfl) (fun q1 H locs hP hD hS => ?_)
  refine x_arr (t := 92257) (k := 2) (idx := 18) (N := 12) (j := 0) (n := 12) (T := TX4) (at_ := .int) (ty := .int) (fty := .array .int) (cX := cI) (a0 := (12, .inl (x_0 92257))) F hin hK hP hD hS hA hl dX4_init_20 dX4_init_21 dX4_init_23 dX4_init_25 (by decide) rfl (fun _ h => by cases h) rfl (by decide) (fun _ => rfl) (fun _ => rfl) xa_int rfl (by decide) (z_mT 264 (by decide +kernel) rfl) rfl rfl (by decide +kernel) (fun _ => rfl) (fun _ => rfl) rfl (x_uniq (by decide +kernel)) (by decide) (x_hdk (by decide)) (Nat.le_of_ble_eq_true rfl) (Nat.le_of_ble_eq_true rfl) (fun q2 H locs hP hD hS => ?_)
  refine x_arr (t := 94305) (k := 3) (idx := 21) (N := 12) (j := 0) (n := 12) (T := TX4) (at_ := .int) (ty := .int) (fty := .array .int) (cX := cI) (a0 := (12, .inl (x_0 94305))) F hin hK hP hD hS hA hl dX4_init_28 dX4_init_29 dX4_init_31 dX4_init_33 (by decide) rfl (fun _ h => by cases h) rfl (by decide) (fun _ => rfl) (fun _ => rfl) xa_int rfl (by decide) (z_mT 266 (by decide +kernel) rfl) rfl rfl (by decide +kernel) (fun _ => rfl) (fun _ => rfl) rfl (x_uniq (by decide +kernel)) (by decide) (x_hdk (by decide)) (Nat.le_of_ble_eq_true rfl) (Nat.le_of_ble_eq_true rfl) (fun q3 H locs hP hD hS => ?_)
  refine x_arr (t := 96353) (k := 4) (idx := 24) (N := 12) (j := 0) (n := 12) (T := TX4) (at_ := .int) (ty := .int) (fty := .array .int) (cX := cI) (a0 := (12, .inl (x_0 96353))) F hin hK hP hD hS hA hl dX4_init_36 dX4_init_37 dX4_init_39 dX4_init_41 (by decide) rfl (fun _ h => by cases h) rfl (by decide) (fun _ => rfl) (fun _ => rfl) xa_int rfl (by decide) (z_mT 268 (by decide +kernel) rfl) rfl rfl (by decide +kernel) (fun _ => rfl) (fun _ => rfl) rfl (x_uniq (by decide +kernel)) (by decide) (x_hdk (by decide)) (Nat.le_of_ble_eq_true rfl) (Nat.le_of_ble_eq_true rfl) (fun q4 H locs hP hD hS => ?_)
  refine x_arr (t := 98401) (k := 5) (idx := 27) (N := 12) (j := 0) (n := 12) (T := TX4) (at_ := .int) (ty := .int) (fty := .array .int) (cX := cI) (a0 := (12, .inl (x_0 98401))) F hin hK hP hD hS hA hl dX4_init_44 dX4_init_45 dX4_init_47 dX4_init_49 (by decide) rfl (fun _ h => by cases h) rfl (by decide) (fun _ => rfl) (fun _ => rfl) xa_int rfl (by decide) (z_mT 270 (by decide +kernel) rfl) rfl rfl (by decide +kernel) (fun _ => rfl) (fun _ => rfl) rfl (x_uniq (by decide +kernel)) (by decide) (x_hdk (by decide)) (Nat.le_of_ble_eq_true rfl) (Nat.le_of_ble_eq_true rfl) (fun q5 H locs hP hD hS => ?_)
  refine x_arr (t := 100449) (k := 6) (idx := 30) (N := 12) (j := 0) (n := 12) (T := TX4) (at_ := .int) (ty := .int) (fty := .array .int) (cX := cI) (a0 := (12, .inl (x_0 100449))) F hin hK hP hD hS hA hl dX4_init_52 dX4_init_53 dX4_init_55 dX4_init_57 (by decide) rfl (fun _ h => by cases h) rfl (by decide) (fun _ => rfl) (fun _ => rfl) xa_int rfl (by decide) (z_mT 272 (by decide +kernel) rfl) rfl rfl (by decide +kernel) (fun _ => rfl) (fun _ => rfl) rfl (x_uniq (by decide +kernel)) (by decide) (x_hdk (by decide)) (Nat.le_of_ble_eq_true rfl) (Nat.le_of_ble_eq_true rfl) (fun q6 H locs hP hD hS => ?_)
  refine x_arr (t := 102497) (k := 7) (idx := 33) (N := 12) (j := 0) (n := 12) (T := TX4) (at_ := .int) (ty := .int) (fty := .array .int) (cX := cI) (a0 := (12, .inl (x_0 102497))) F hin hK hP hD hS hA hl dX4_init_60 dX4_init_61 dX4_init_63 dX4_init_65 (by decide) rfl (fun _ h => by cases h) rfl (by decide) (fun _ => rfl) (fun _ => rfl) xa_int rfl (by decide) (z_mT 274 (by decide +kernel) rfl) rfl rfl (by decide +kernel) (fun _ => rfl) (fun _ => rfl) rfl (x_uniq (by decide +kernel)) (by decide) (x_hdk (by decide)) (Nat.le_of_ble_eq_true rfl) (Nat.le_of_ble_eq_true rfl) (fun q7 H locs hP hD hS => ?_)
  refine x_arr (t := 104545) (k := 8) (idx := 36) (N := 12) (j := 0) (n := 12) (T := TX4) (at_ := .int) (ty := .int) (fty := .array .int) (cX := cI) (a0 := (12, .inl (x_0 104545))) F hin hK hP hD hS hA hl dX4_init_68 dX4_init_69 dX4_init_71 dX4_init_73 (by decide) rfl (fun _ h => by cases h) rfl (by decide) (fun _ => rfl) (fun _ => rfl) xa_int rfl (by decide) (z_mT 276 (by decide +kernel) rfl) rfl rfl (by decide +kernel) (fun _ => rfl) (fun _ => rfl) rfl (x_uniq (by decide +kernel)) (by decide) (x_hdk (by decide)) (Nat.le_of_ble_eq_true rfl) (Nat.le_of_ble_eq_true rfl) (fun q8 H locs hP hD hS => ?_)
  refine x_arr (t := 106594) (k := 9) (idx := 39) (N := 12) (j := 1) (n := 12) (T := TX4) (at_ := .boolean) (ty := .boolean) (fty := .array .boolean) (cX := cZ) (a0 := (12, .inl (x_0 106594))) F hin hK hP hD hS hA hl dX4_init_76 dX4_init_77 dX4_init_79 dX4_init_81 (by decide) rfl (fun _ h => by cases h) rfl (by decide) (fun _ => rfl) (fun _ => rfl) xa_boolean rfl (by decide) (z_mT 278 (by decide +kernel) rfl) rfl rfl (by decide +kernel) (fun _ => rfl) (fun _ => rfl) rfl (x_uniq (by decide +kernel)) (by decide) (x_hdk (by decide)) (Nat.le_of_ble_eq_true rfl) (Nat.le_of_ble_eq_true rfl) (fun q9 H locs hP hD hS => ?_)
  refine x_arr (t := 108642) (k := 10) (idx := 43) (N := 12) (j := 1) (n := 12) (T := TX4) (at_ := .boolean) (ty := .boolean) (fty := .array .boolean) (cX := cZ) (a0 := (12, .inl (x_0 108642))) F hin hK hP hD hS hA hl dX4_init_84 dX4_init_85 dX4_init_87 dX4_init_89 (by decide) rfl (fun _ h => by cases h) rfl (by decide) (fun _ => rfl) (fun _ => rfl) xa_boolean rfl (by decide) (z_mT 279 (by decide +kernel) rfl) rfl rfl (by decide +kernel) (fun _ => rfl) (fun _ => rfl) rfl (x_uniq (by decide +kernel)) (by decide) (x_hdk (by decide)) (Nat.le_of_ble_eq_true rfl) (Nat.le_of_ble_eq_true rfl) (fun q10 H locs hP hD hS => ?_)
  refine W.widen (k := 11) (n := 132) (Nat.le_of_ble_eq_true rfl) (Nat.le_of_ble_eq_true rfl) ?_
  have hP := x_Pend (ids := xi_4) hP rfl (by decide) (by decide +kernel) rfl
  have hD := x_Dend (ids := xi_4) hD rfl (by decide) (by decide +kernel) rfl
  exact W.vret B.exec B.bytes hr (fun t ht hW => ⟨⟨_, rfl, rfl, by rw [ht]; exact hP, hD⟩, hS.F ht⟩) hS.2.2 dX4_init_92
def xi_7 : List Nat := [110648, 112689, 114737, 116787, 119025, 121073, 123121, 125169, 127057, 129105, 132033, 134081, 135649, 137697, 139745, 141793, 143409, 145793, 147841, 149825, 151873, 153921, 155969, 158017, 160066, 162113, 164162, 165985, 168033, 170081, 172129, 174177, 176225, 178273, 180321, 182369, 184417, 186465, 188513, 190561, 192610, 194657, 196706, 198753, 200801, 202849, 204929]
set_option maxRecDepth 20000 in
set_option maxHeartbeats 8000000 in
theorem kt_7 (l : Launch) : x_KT l yX7_init cX7_init 110648 xi_7 1 12 46 1304 := by
  intro D cI cZ cJ h0 sz
  refine Met.ofW (cc := cX7_init) (maxL := 1) (ret := none) (by decide) rfl ?_
  intro p e s m args below meth c s₁ B hml hv
  obtain ⟨rfl, hsz, hP, hK, hNest⟩ := hv
  subst hsz
  have hts0 := atoms_spec (ws := Jvm.Cond.code yX7_init cX7_init 1 none :: z_T) B.pre
  have hown : s.vm.findClass RX7 = some m.cls := findClass_of_methodNamed B.named
  have hr := B.returns
  have hlocks := B.notSynchronized
  have hin : meth.name = "<init>" := (name_of_methodNamed B.named B.method).1
  have hts : ∀ w ∈ z_T, w.before _ s = true := fun w hw => hts0 w (List.mem_cons_of_mem _ hw)
  have F : CallFix p m c cX7_init 1 s _ z_T RX7 := ⟨B.exec, B.bytes, hml, hown, hts⟩
  have hP : va_P D z_cl (x_W cI cZ cJ (fun _ => h0) [] h0 110648) s.heap := by rw [x_W_0]; exact hP
  have hD : va_D (va_A (x_c0 h0 110648) s.heap.size) (x_W cI cZ cJ (fun _ => h0) [] h0 110648) := by rw [x_W_0]; exact x_D0
  have hA : ∀ q : Nat, s.heap.size ≤ q → va_A (x_c0 h0 110648) s.heap.size q := fun q h => Or.inr h
  have hS : va_S (va_A (x_c0 h0 110648) s.heap.size) s.heap s.heap [] := va_S.rf
  have hl := lv_entry ([.ref h0]) (n := 1) (Nat.le_of_ble_eq_true rfl)
  rw [lg_entry_eq]
  generalize (lg_sl ([.ref h0]) ++ List.replicate (1 - (lg_sl ([.ref h0])).length) Slot.unset).toArray = ls at hl ⊢
  have hl : lv_has ls 1 [(0, .ref h0)] := hl
  refine lv_aload_n B.exec B.bytes dX7_init_0 rfl (lv_at hl 0 rfl) ?_
  refine W.objInit B.exec B.bytes hown (hts _ (z_mT 1025 (by decide +kernel) rfl)) (hts _ (z_mT 74 (by decide +kernel) rfl)) (hts _ (z_mT 75 (by decide +kernel) rfl)) rfl (by rw [hml]; exact hl.1) rfl dX7_init_1 (Nat.le_of_ble_eq_true rfl) (Nat.le_of_ble_eq_true rfl) ?_
  refine W.eq (g2 := F0 m 4 ls []) rfl ?_
  refine x_arr (t := 112689) (k := 3) (idx := 7) (N := 55) (j := 0) (n := 6) (T := TX7) (at_ := .int) (ty := .int) (fty := .array .int) (cX := cI) (a0 := (6, .inl (x_0 112689))) F hin hK hP hD hS hA hl dX7_init_4 dX7_init_5 dX7_init_7 dX7_init_9 (by decide) rfl (fun _ h => by cases h) rfl (by decide) (fun _ => rfl) (fun _ => rfl) xa_int rfl (by decide) (z_mT 1029 (by decide +kernel) rfl) rfl rfl (by decide +kernel) (fun _ => rfl) (fun _ => rfl) rfl (x_uniq (by decide +kernel)) (by decide) (x_hdk (by decide)) (Nat.le_of_ble_eq_true rfl) (Nat.le_of_ble_eq_true rfl) (fun q0 H locs hP hD hS => ?_)
  refine x_arr (t := 114737) (k := 4) (idx := 13) (N := 55) (j := 0) (n := 6) (T := TX7) (at_ := .int) (ty := .int) (fty := .array .int) (cX := cI) (a0 := (6, .inl (x_0 114737))) F hin hK hP hD hS hA hl dX7_init_12 dX7_init_13 dX7_init_15 dX7_init_17 (by decide) rfl (fun _ h => by cases h) rfl (by decide) (fun _ => rfl) (fun _ => rfl) xa_int rfl (by decide) (z_mT 1030 (by decide +kernel) rfl) rfl rfl (by decide +kernel) (fun _ => rfl) (fun _ => rfl) rfl (x_uniq (by decide +kernel)) (by decide) (x_hdk (by decide)) (Nat.le_of_ble_eq_true rfl) (Nat.le_of_ble_eq_true rfl) (fun q1 H locs hP hD hS => ?_)
  refine x_arr (t := 116787) (k := 5) (idx := 16) (N := 55) (j := 2) (n := 6) (T := TX7) (at_ := .long) (ty := .long) (fty := .array .long) (cX := cJ) (a0 := (6, .inr (.inl (x_0L 116787)))) F hin hK hP hD hS hA hl dX7_init_20 dX7_init_21 dX7_init_23 dX7_init_25 (by decide) rfl (fun _ h => by cases h) rfl (by decide) (fun _ => rfl) (fun _ => rfl) xa_long rfl (by decide) (z_mT 1031 (by decide +kernel) rfl) rfl rfl (by decide +kernel) (fun _ => rfl) (fun _ => rfl) rfl (x_uniq (by decide +kernel)) (by decide) (x_hdk (by decide)) (Nat.le_of_ble_eq_true rfl) (Nat.le_of_ble_eq_true rfl) (fun q2 H locs hP hD hS => ?_)
  refine x_arr (t := 119025) (k := 7) (idx := 20) (N := 55) (j := 0) (n := 30) (T := TX7) (at_ := .int) (ty := .int) (fty := .array .int) (cX := cI) (a0 := (30, .inl (x_0 119025))) F hin hK hP hD hS hA hl dX7_init_28 dX7_init_29 dX7_init_31 dX7_init_33 (by decide) rfl (fun _ h => by cases h) rfl (by decide) (fun _ => rfl) (fun _ => rfl) xa_int rfl (by decide) (z_mT 1033 (by decide +kernel) rfl) rfl rfl (by decide +kernel) (fun _ => rfl) (fun _ => rfl) rfl (x_uniq (by decide +kernel)) (by decide) (x_hdk (by decide)) (Nat.le_of_ble_eq_true rfl) (Nat.le_of_ble_eq_true rfl) (fun q3 H locs hP hD hS => ?_)
  refine x_arr (t := 121073) (k := 8) (idx := 23) (N := 55) (j := 0) (n := 30) (T := TX7) (at_ := .int) (ty := .int) (fty := .array .int) (cX := cI) (a0 := (30, .inl (x_0 121073))) F hin hK hP hD hS hA hl dX7_init_36 dX7_init_37 dX7_init_39 dX7_init_41 (by decide) rfl (fun _ h => by cases h) rfl (by decide) (fun _ => rfl) (fun _ => rfl) xa_int rfl (by decide) (z_mT 1034 (by decide +kernel) rfl) rfl rfl (by decide +kernel) (fun _ => rfl) (fun _ => rfl) rfl (x_uniq (by decide +kernel)) (by decide) (x_hdk (by decide)) (Nat.le_of_ble_eq_true rfl) (Nat.le_of_ble_eq_true rfl) (fun q4 H locs hP hD hS => ?_)
  refine x_arr (t := 123121) (k := 9) (idx := 26) (N := 55) (j := 0) (n := 30) (T := TX7) (at_ := .int) (ty := .int) (fty := .array .int) (cX := cI) (a0 := (30, .inl (x_0 123121))) F hin hK hP hD hS hA hl dX7_init_44 dX7_init_45 dX7_init_47 dX7_init_49 (by decide) rfl (fun _ h => by cases h) rfl (by decide) (fun _ => rfl) (fun _ => rfl) xa_int rfl (by decide) (z_mT 1035 (by decide +kernel) rfl) rfl rfl (by decide +kernel) (fun _ => rfl) (fun _ => rfl) rfl (x_uniq (by decide +kernel)) (by decide) (x_hdk (by decide)) (Nat.le_of_ble_eq_true rfl) (Nat.le_of_ble_eq_true rfl) (fun q5 H locs hP hD hS => ?_)
  refine x_arr (t := 125169) (k := 10) (idx := 29) (N := 55) (j := 0) (n := 30) (T := TX7) (at_ := .int) (ty := .int) (fty := .array .int) (cX := cI) (a0 := (30, .inl (x_0 125169))) F hin hK hP hD hS hA hl dX7_init_52 dX7_init_53 dX7_init_55 dX7_init_57 (by decide) rfl (fun _ h => by cases h) rfl (by decide) (fun _ => rfl) (fun _ => rfl) xa_int rfl (by decide) (z_mT 1036 (by decide +kernel) rfl) rfl rfl (by decide +kernel) (fun _ => rfl) (fun _ => rfl) rfl (x_uniq (by decide +kernel)) (by decide) (x_hdk (by decide)) (Nat.le_of_ble_eq_true rfl) (Nat.le_of_ble_eq_true rfl) (fun q6 H locs hP hD hS => ?_)
  refine x_arr (t := 127057) (k := 12) (idx := 32) (N := 55) (j := 0) (n := 10) (T := TX7) (at_ := .int) (ty := .int) (fty := .array .int) (cX := cI) (a0 := (10, .inl (x_0 127057))) F hin hK hP hD hS hA hl dX7_init_60 dX7_init_61 dX7_init_63 dX7_init_65 (by decide) rfl (fun _ h => by cases h) rfl (by decide) (fun _ => rfl) (fun _ => rfl) xa_int rfl (by decide) (z_mT 1038 (by decide +kernel) rfl) rfl rfl (by decide +kernel) (fun _ => rfl) (fun _ => rfl) rfl (x_uniq (by decide +kernel)) (by decide) (x_hdk (by decide)) (Nat.le_of_ble_eq_true rfl) (Nat.le_of_ble_eq_true rfl) (fun q7 H locs hP hD hS => ?_)
  refine x_arr (t := 129105) (k := 13) (idx := 35) (N := 55) (j := 0) (n := 10) (T := TX7) (at_ := .int) (ty := .int) (fty := .array .int) (cX := cI) (a0 := (10, .inl (x_0 129105))) F hin hK hP hD hS hA hl dX7_init_68 dX7_init_69 dX7_init_71 dX7_init_73 (by decide) rfl (fun _ h => by cases h) rfl (by decide) (fun _ => rfl) (fun _ => rfl) xa_int rfl (by decide) (z_mT 1039 (by decide +kernel) rfl) rfl rfl (by decide +kernel) (fun _ => rfl) (fun _ => rfl) rfl (x_uniq (by decide +kernel)) (by decide) (x_hdk (by decide)) (Nat.le_of_ble_eq_true rfl) (Nat.le_of_ble_eq_true rfl) (fun q8 H locs hP hD hS => ?_)
  refine x_arr (t := 132033) (k := 14) (idx := 38) (N := 55) (j := 0) (n := 120) (T := TX7) (at_ := .int) (ty := .int) (fty := .array .int) (cX := cI) (a0 := (120, .inl (x_0 132033))) F hin hK hP hD hS hA hl dX7_init_76 dX7_init_77 dX7_init_79 dX7_init_81 (by decide) rfl (fun _ h => by cases h) rfl (by decide) (fun _ => rfl) (fun _ => rfl) xa_int rfl (by decide) (z_mT 1040 (by decide +kernel) rfl) rfl rfl (by decide +kernel) (fun _ => rfl) (fun _ => rfl) rfl (x_uniq (by decide +kernel)) (by decide) (x_hdk (by decide)) (Nat.le_of_ble_eq_true rfl) (Nat.le_of_ble_eq_true rfl) (fun q9 H locs hP hD hS => ?_)
  refine x_arr (t := 134081) (k := 15) (idx := 41) (N := 55) (j := 0) (n := 120) (T := TX7) (at_ := .int) (ty := .int) (fty := .array .int) (cX := cI) (a0 := (120, .inl (x_0 134081))) F hin hK hP hD hS hA hl dX7_init_84 dX7_init_85 dX7_init_87 dX7_init_89 (by decide) rfl (fun _ h => by cases h) rfl (by decide) (fun _ => rfl) (fun _ => rfl) xa_int rfl (by decide) (z_mT 1041 (by decide +kernel) rfl) rfl rfl (by decide +kernel) (fun _ => rfl) (fun _ => rfl) rfl (x_uniq (by decide +kernel)) (by decide) (x_hdk (by decide)) (Nat.le_of_ble_eq_true rfl) (Nat.le_of_ble_eq_true rfl) (fun q10 H locs hP hD hS => ?_)
  refine x_arr (t := 135649) (k := 17) (idx := 44) (N := 55) (j := 0) (n := 60) (T := TX7) (at_ := .int) (ty := .int) (fty := .array .int) (cX := cI) (a0 := (60, .inl (x_0 135649))) F hin hK hP hD hS hA hl dX7_init_92 dX7_init_93 dX7_init_95 dX7_init_97 (by decide) rfl (fun _ h => by cases h) rfl (by decide) (fun _ => rfl) (fun _ => rfl) xa_int rfl (by decide) (z_mT 1043 (by decide +kernel) rfl) rfl rfl (by decide +kernel) (fun _ => rfl) (fun _ => rfl) rfl (x_uniq (by decide +kernel)) (by decide) (x_hdk (by decide)) (Nat.le_of_ble_eq_true rfl) (Nat.le_of_ble_eq_true rfl) (fun q11 H locs hP hD hS => ?_)
  refine x_arr (t := 137697) (k := 18) (idx := 47) (N := 55) (j := 0) (n := 60) (T := TX7) (at_ := .int) (ty := .int) (fty := .array .int) (cX := cI) (a0 := (60, .inl (x_0 137697))) F hin hK hP hD hS hA hl dX7_init_100 dX7_init_101 dX7_init_103 dX7_init_105 (by decide) rfl (fun _ h => by cases h) rfl (by decide) (fun _ => rfl) (fun _ => rfl) xa_int rfl (by decide) (z_mT 1044 (by decide +kernel) rfl) rfl rfl (by decide +kernel) (fun _ => rfl) (fun _ => rfl) rfl (x_uniq (by decide +kernel)) (by decide) (x_hdk (by decide)) (Nat.le_of_ble_eq_true rfl) (Nat.le_of_ble_eq_true rfl) (fun q12 H locs hP hD hS => ?_)
  refine x_arr (t := 139745) (k := 19) (idx := 50) (N := 55) (j := 0) (n := 60) (T := TX7) (at_ := .int) (ty := .int) (fty := .array .int) (cX := cI) (a0 := (60, .inl (x_0 139745))) F hin hK hP hD hS hA hl dX7_init_108 dX7_init_109 dX7_init_111 dX7_init_113 (by decide) rfl (fun _ h => by cases h) rfl (by decide) (fun _ => rfl) (fun _ => rfl) xa_int rfl (by decide) (z_mT 1045 (by decide +kernel) rfl) rfl rfl (by decide +kernel) (fun _ => rfl) (fun _ => rfl) rfl (x_uniq (by decide +kernel)) (by decide) (x_hdk (by decide)) (Nat.le_of_ble_eq_true rfl) (Nat.le_of_ble_eq_true rfl) (fun q13 H locs hP hD hS => ?_)
  refine x_arr (t := 141793) (k := 20) (idx := 53) (N := 55) (j := 0) (n := 60) (T := TX7) (at_ := .int) (ty := .int) (fty := .array .int) (cX := cI) (a0 := (60, .inl (x_0 141793))) F hin hK hP hD hS hA hl dX7_init_116 dX7_init_117 dX7_init_119 dX7_init_121 (by decide) rfl (fun _ h => by cases h) rfl (by decide) (fun _ => rfl) (fun _ => rfl) xa_int rfl (by decide) (z_mT 1046 (by decide +kernel) rfl) rfl rfl (by decide +kernel) (fun _ => rfl) (fun _ => rfl) rfl (x_uniq (by decide +kernel)) (by decide) (x_hdk (by decide)) (Nat.le_of_ble_eq_true rfl) (Nat.le_of_ble_eq_true rfl) (fun q14 H locs hP hD hS => ?_)
  refine x_arr (t := 143409) (k := 21) (idx := 56) (N := 55) (j := 0) (n := 6) (T := TX7) (at_ := .int) (ty := .int) (fty := .array .int) (cX := cI) (a0 := (6, .inl (x_0 143409))) F hin hK hP hD hS hA hl dX7_init_124 dX7_init_125 dX7_init_127 dX7_init_129 (by decide) rfl (fun _ h => by cases h) rfl (by decide) (fun _ => rfl) (fun _ => rfl) xa_int rfl (by decide) (z_mT 1047 (by decide +kernel) rfl) rfl rfl (by decide +kernel) (fun _ => rfl) (fun _ => rfl) rfl (x_uniq (by decide +kernel)) (by decide) (x_hdk (by decide)) (Nat.le_of_ble_eq_true rfl) (Nat.le_of_ble_eq_true rfl) (fun q15 H locs hP hD hS => ?_)
  refine x_arr (t := 145793) (k := 22) (idx := 59) (N := 55) (j := 0) (n := 48) (T := TX7) (at_ := .int) (ty := .int) (fty := .array .int) (cX := cI) (a0 := (48, .inl (x_0 145793))) F hin hK hP hD hS hA hl dX7_init_132 dX7_init_133 dX7_init_135 dX7_init_137 (by decide) rfl (fun _ h => by cases h) rfl (by decide) (fun _ => rfl) (fun _ => rfl) xa_int rfl (by decide) (z_mT 1048 (by decide +kernel) rfl) rfl rfl (by decide +kernel) (fun _ => rfl) (fun _ => rfl) rfl (x_uniq (by decide +kernel)) (by decide) (x_hdk (by decide)) (Nat.le_of_ble_eq_true rfl) (Nat.le_of_ble_eq_true rfl) (fun q16 H locs hP hD hS => ?_)
  refine x_arr (t := 147841) (k := 23) (idx := 62) (N := 55) (j := 0) (n := 48) (T := TX7) (at_ := .int) (ty := .int) (fty := .array .int) (cX := cI) (a0 := (48, .inl (x_0 147841))) F hin hK hP hD hS hA hl dX7_init_140 dX7_init_141 dX7_init_143 dX7_init_145 (by decide) rfl (fun _ h => by cases h) rfl (by decide) (fun _ => rfl) (fun _ => rfl) xa_int rfl (by decide) (z_mT 1049 (by decide +kernel) rfl) rfl rfl (by decide +kernel) (fun _ => rfl) (fun _ => rfl) rfl (x_uniq (by decide +kernel)) (by decide) (x_hdk (by decide)) (Nat.le_of_ble_eq_true rfl) (Nat.le_of_ble_eq_true rfl) (fun q17 H locs hP hD hS => ?_)
  refine x_arr (t := 149825) (k := 25) (idx := 65) (N := 55) (j := 0) (n := 40) (T := TX7) (at_ := .int) (ty := .int) (fty := .array .int) (cX := cI) (a0 := (40, .inl (x_0 149825))) F hin hK hP hD hS hA hl dX7_init_148 dX7_init_149 dX7_init_151 dX7_init_153 (by decide) rfl (fun _ h => by cases h) rfl (by decide) (fun _ => rfl) (fun _ => rfl) xa_int rfl (by decide) (z_mT 1051 (by decide +kernel) rfl) rfl rfl (by decide +kernel) (fun _ => rfl) (fun _ => rfl) rfl (x_uniq (by decide +kernel)) (by decide) (x_hdk (by decide)) (Nat.le_of_ble_eq_true rfl) (Nat.le_of_ble_eq_true rfl) (fun q18 H locs hP hD hS => ?_)
  refine x_arr (t := 151873) (k := 26) (idx := 68) (N := 55) (j := 0) (n := 40) (T := TX7) (at_ := .int) (ty := .int) (fty := .array .int) (cX := cI) (a0 := (40, .inl (x_0 151873))) F hin hK hP hD hS hA hl dX7_init_156 dX7_init_157 dX7_init_159 dX7_init_161 (by decide) rfl (fun _ h => by cases h) rfl (by decide) (fun _ => rfl) (fun _ => rfl) xa_int rfl (by decide) (z_mT 1052 (by decide +kernel) rfl) rfl rfl (by decide +kernel) (fun _ => rfl) (fun _ => rfl) rfl (x_uniq (by decide +kernel)) (by decide) (x_hdk (by decide)) (Nat.le_of_ble_eq_true rfl) (Nat.le_of_ble_eq_true rfl) (fun q19 H locs hP hD hS => ?_)
  refine x_arr (t := 153921) (k := 27) (idx := 71) (N := 55) (j := 0) (n := 40) (T := TX7) (at_ := .int) (ty := .int) (fty := .array .int) (cX := cI) (a0 := (40, .inl (x_0 153921))) F hin hK hP hD hS hA hl dX7_init_164 dX7_init_165 dX7_init_167 dX7_init_169 (by decide) rfl (fun _ h => by cases h) rfl (by decide) (fun _ => rfl) (fun _ => rfl) xa_int rfl (by decide) (z_mT 1053 (by decide +kernel) rfl) rfl rfl (by decide +kernel) (fun _ => rfl) (fun _ => rfl) rfl (x_uniq (by decide +kernel)) (by decide) (x_hdk (by decide)) (Nat.le_of_ble_eq_true rfl) (Nat.le_of_ble_eq_true rfl) (fun q20 H locs hP hD hS => ?_)
  refine x_arr (t := 155969) (k := 28) (idx := 74) (N := 55) (j := 0) (n := 40) (T := TX7) (at_ := .int) (ty := .int) (fty := .array .int) (cX := cI) (a0 := (40, .inl (x_0 155969))) F hin hK hP hD hS hA hl dX7_init_172 dX7_init_173 dX7_init_175 dX7_init_177 (by decide) rfl (fun _ h => by cases h) rfl (by decide) (fun _ => rfl) (fun _ => rfl) xa_int rfl (by decide) (z_mT 1054 (by decide +kernel) rfl) rfl rfl (by decide +kernel) (fun _ => rfl) (fun _ => rfl) rfl (x_uniq (by decide +kernel)) (by decide) (x_hdk (by decide)) (Nat.le_of_ble_eq_true rfl) (Nat.le_of_ble_eq_true rfl) (fun q21 H locs hP hD hS => ?_)
  refine x_arr (t := 158017) (k := 29) (idx := 77) (N := 55) (j := 0) (n := 40) (T := TX7) (at_ := .int) (ty := .int) (fty := .array .int) (cX := cI) (a0 := (40, .inl (x_0 158017))) F hin hK hP hD hS hA hl dX7_init_180 dX7_init_181 dX7_init_183 dX7_init_185 (by decide) rfl (fun _ h => by cases h) rfl (by decide) (fun _ => rfl) (fun _ => rfl) xa_int rfl (by decide) (z_mT 1055 (by decide +kernel) rfl) rfl rfl (by decide +kernel) (fun _ => rfl) (fun _ => rfl) rfl (x_uniq (by decide +kernel)) (by decide) (x_hdk (by decide)) (Nat.le_of_ble_eq_true rfl) (Nat.le_of_ble_eq_true rfl) (fun q22 H locs hP hD hS => ?_)
  refine x_arr (t := 160066) (k := 30) (idx := 80) (N := 55) (j := 1) (n := 40) (T := TX7) (at_ := .boolean) (ty := .boolean) (fty := .array .boolean) (cX := cZ) (a0 := (40, .inl (x_0 160066))) F hin hK hP hD hS hA hl dX7_init_188 dX7_init_189 dX7_init_191 dX7_init_193 (by decide) rfl (fun _ h => by cases h) rfl (by decide) (fun _ => rfl) (fun _ => rfl) xa_boolean rfl (by decide) (z_mT 1056 (by decide +kernel) rfl) rfl rfl (by decide +kernel) (fun _ => rfl) (fun _ => rfl) rfl (x_uniq (by decide +kernel)) (by decide) (x_hdk (by decide)) (Nat.le_of_ble_eq_true rfl) (Nat.le_of_ble_eq_true rfl) (fun q23 H locs hP hD hS => ?_)
  refine x_arr (t := 162113) (k := 31) (idx := 84) (N := 55) (j := 0) (n := 40) (T := TX7) (at_ := .int) (ty := .int) (fty := .array .int) (cX := cI) (a0 := (40, .inl (x_0 162113))) F hin hK hP hD hS hA hl dX7_init_196 dX7_init_197 dX7_init_199 dX7_init_201 (by decide) rfl (fun _ h => by cases h) rfl (by decide) (fun _ => rfl) (fun _ => rfl) xa_int rfl (by decide) (z_mT 1057 (by decide +kernel) rfl) rfl rfl (by decide +kernel) (fun _ => rfl) (fun _ => rfl) rfl (x_uniq (by decide +kernel)) (by decide) (x_hdk (by decide)) (Nat.le_of_ble_eq_true rfl) (Nat.le_of_ble_eq_true rfl) (fun q24 H locs hP hD hS => ?_)
  refine x_arr (t := 164162) (k := 32) (idx := 87) (N := 55) (j := 1) (n := 40) (T := TX7) (at_ := .boolean) (ty := .boolean) (fty := .array .boolean) (cX := cZ) (a0 := (40, .inl (x_0 164162))) F hin hK hP hD hS hA hl dX7_init_204 dX7_init_205 dX7_init_207 dX7_init_209 (by decide) rfl (fun _ h => by cases h) rfl (by decide) (fun _ => rfl) (fun _ => rfl) xa_boolean rfl (by decide) (z_mT 1058 (by decide +kernel) rfl) rfl rfl (by decide +kernel) (fun _ => rfl) (fun _ => rfl) rfl (x_uniq (by decide +kernel)) (by decide) (x_hdk (by decide)) (Nat.le_of_ble_eq_true rfl) (Nat.le_of_ble_eq_true rfl) (fun q25 H locs hP hD hS => ?_)
  refine x_arr (t := 165985) (k := 34) (idx := 90) (N := 55) (j := 0) (n := 12) (T := TX7) (at_ := .int) (ty := .int) (fty := .array .int) (cX := cI) (a0 := (12, .inl (x_0 165985))) F hin hK hP hD hS hA hl dX7_init_212 dX7_init_213 dX7_init_215 dX7_init_217 (by decide) rfl (fun _ h => by cases h) rfl (by decide) (fun _ => rfl) (fun _ => rfl) xa_int rfl (by decide) (z_mT 1060 (by decide +kernel) rfl) rfl rfl (by decide +kernel) (fun _ => rfl) (fun _ => rfl) rfl (x_uniq (by decide +kernel)) (by decide) (x_hdk (by decide)) (Nat.le_of_ble_eq_true rfl) (Nat.le_of_ble_eq_true rfl) (fun q26 H locs hP hD hS => ?_)
  refine x_arr (t := 168033) (k := 35) (idx := 93) (N := 55) (j := 0) (n := 12) (T := TX7) (at_ := .int) (ty := .int) (fty := .array .int) (cX := cI) (a0 := (12, .inl (x_0 168033))) F hin hK hP hD hS hA hl dX7_init_220 dX7_init_221 dX7_init_223 dX7_init_225 (by decide) rfl (fun _ h => by cases h) rfl (by decide) (fun _ => rfl) (fun _ => rfl) xa_int rfl (by decide) (z_mT 1061 (by decide +kernel) rfl) rfl rfl (by decide +kernel) (fun _ => rfl) (fun _ => rfl) rfl (x_uniq (by decide +kernel)) (by decide) (x_hdk (by decide)) (Nat.le_of_ble_eq_true rfl) (Nat.le_of_ble_eq_true rfl) (fun q27 H locs hP hD hS => ?_)
  refine x_arr (t := 170081) (k := 36) (idx := 96) (N := 55) (j := 0) (n := 12) (T := TX7) (at_ := .int) (ty := .int) (fty := .array .int) (cX := cI) (a0 := (12, .inl (x_0 170081))) F hin hK hP hD hS hA hl dX7_init_228 dX7_init_229 dX7_init_231 dX7_init_233 (by decide) rfl (fun _ h => by cases h) rfl (by decide) (fun _ => rfl) (fun _ => rfl) xa_int rfl (by decide) (z_mT 1062 (by decide +kernel) rfl) rfl rfl (by decide +kernel) (fun _ => rfl) (fun _ => rfl) rfl (x_uniq (by decide +kernel)) (by decide) (x_hdk (by decide)) (Nat.le_of_ble_eq_true rfl) (Nat.le_of_ble_eq_true rfl) (fun q28 H locs hP hD hS => ?_)
  refine x_arr (t := 172129) (k := 37) (idx := 99) (N := 55) (j := 0) (n := 12) (T := TX7) (at_ := .int) (ty := .int) (fty := .array .int) (cX := cI) (a0 := (12, .inl (x_0 172129))) F hin hK hP hD hS hA hl dX7_init_236 dX7_init_237 dX7_init_239 dX7_init_241 (by decide) rfl (fun _ h => by cases h) rfl (by decide) (fun _ => rfl) (fun _ => rfl) xa_int rfl (by decide) (z_mT 1063 (by decide +kernel) rfl) rfl rfl (by decide +kernel) (fun _ => rfl) (fun _ => rfl) rfl (x_uniq (by decide +kernel)) (by decide) (x_hdk (by decide)) (Nat.le_of_ble_eq_true rfl) (Nat.le_of_ble_eq_true rfl) (fun q29 H locs hP hD hS => ?_)
  refine x_arr (t := 174177) (k := 38) (idx := 102) (N := 55) (j := 0) (n := 12) (T := TX7) (at_ := .int) (ty := .int) (fty := .array .int) (cX := cI) (a0 := (12, .inl (x_0 174177))) F hin hK hP hD hS hA hl dX7_init_244 dX7_init_245 dX7_init_247 dX7_init_249 (by decide) rfl (fun _ h => by cases h) rfl (by decide) (fun _ => rfl) (fun _ => rfl) xa_int rfl (by decide) (z_mT 1064 (by decide +kernel) rfl) rfl rfl (by decide +kernel) (fun _ => rfl) (fun _ => rfl) rfl (x_uniq (by decide +kernel)) (by decide) (x_hdk (by decide)) (Nat.le_of_ble_eq_true rfl) (Nat.le_of_ble_eq_true rfl) (fun q30 H locs hP hD hS => ?_)
  refine x_arr (t := 176225) (k := 39) (idx := 105) (N := 55) (j := 0) (n := 12) (T := TX7) (at_ := .int) (ty := .int) (fty := .array .int) (cX := cI) (a0 := (12, .inl (x_0 176225))) F hin hK hP hD hS hA hl dX7_init_252 dX7_init_253 dX7_init_255 dX7_init_257 (by decide) rfl (fun _ h => by cases h) rfl (by decide) (fun _ => rfl) (fun _ => rfl) xa_int rfl (by decide) (z_mT 1065 (by decide +kernel) rfl) rfl rfl (by decide +kernel) (fun _ => rfl) (fun _ => rfl) rfl (x_uniq (by decide +kernel)) (by decide) (x_hdk (by decide)) (Nat.le_of_ble_eq_true rfl) (Nat.le_of_ble_eq_true rfl) (fun q31 H locs hP hD hS => ?_)
  refine x_arr (t := 178273) (k := 40) (idx := 108) (N := 55) (j := 0) (n := 12) (T := TX7) (at_ := .int) (ty := .int) (fty := .array .int) (cX := cI) (a0 := (12, .inl (x_0 178273))) F hin hK hP hD hS hA hl dX7_init_260 dX7_init_261 dX7_init_263 dX7_init_265 (by decide) rfl (fun _ h => by cases h) rfl (by decide) (fun _ => rfl) (fun _ => rfl) xa_int rfl (by decide) (z_mT 1066 (by decide +kernel) rfl) rfl rfl (by decide +kernel) (fun _ => rfl) (fun _ => rfl) rfl (x_uniq (by decide +kernel)) (by decide) (x_hdk (by decide)) (Nat.le_of_ble_eq_true rfl) (Nat.le_of_ble_eq_true rfl) (fun q32 H locs hP hD hS => ?_)
  refine x_arr (t := 180321) (k := 41) (idx := 111) (N := 55) (j := 0) (n := 12) (T := TX7) (at_ := .int) (ty := .int) (fty := .array .int) (cX := cI) (a0 := (12, .inl (x_0 180321))) F hin hK hP hD hS hA hl dX7_init_268 dX7_init_269 dX7_init_271 dX7_init_273 (by decide) rfl (fun _ h => by cases h) rfl (by decide) (fun _ => rfl) (fun _ => rfl) xa_int rfl (by decide) (z_mT 1067 (by decide +kernel) rfl) rfl rfl (by decide +kernel) (fun _ => rfl) (fun _ => rfl) rfl (x_uniq (by decide +kernel)) (by decide) (x_hdk (by decide)) (Nat.le_of_ble_eq_true rfl) (Nat.le_of_ble_eq_true rfl) (fun q33 H locs hP hD hS => ?_)
  refine x_arr (t := 182369) (k := 43) (idx := 114) (N := 55) (j := 0) (n := 12) (T := TX7) (at_ := .int) (ty := .int) (fty := .array .int) (cX := cI) (a0 := (12, .inl (x_0 182369))) F hin hK hP hD hS hA hl dX7_init_276 dX7_init_277 dX7_init_279 dX7_init_281 (by decide) rfl (fun _ h => by cases h) rfl (by decide) (fun _ => rfl) (fun _ => rfl) xa_int rfl (by decide) (z_mT 1069 (by decide +kernel) rfl) rfl rfl (by decide +kernel) (fun _ => rfl) (fun _ => rfl) rfl (x_uniq (by decide +kernel)) (by decide) (x_hdk (by decide)) (Nat.le_of_ble_eq_true rfl) (Nat.le_of_ble_eq_true rfl) (fun q34 H locs hP hD hS => ?_)
  refine x_arr (t := 184417) (k := 44) (idx := 117) (N := 55) (j := 0) (n := 12) (T := TX7) (at_ := .int) (ty := .int) (fty := .array .int) (cX := cI) (a0 := (12, .inl (x_0 184417))) F hin hK hP hD hS hA hl dX7_init_284 dX7_init_285 dX7_init_287 dX7_init_289 (by decide) rfl (fun _ h => by cases h) rfl (by decide) (fun _ => rfl) (fun _ => rfl) xa_int rfl (by decide) (z_mT 1070 (by decide +kernel) rfl) rfl rfl (by decide +kernel) (fun _ => rfl) (fun _ => rfl) rfl (x_uniq (by decide +kernel)) (by decide) (x_hdk (by decide)) (Nat.le_of_ble_eq_true rfl) (Nat.le_of_ble_eq_true rfl) (fun q35 H locs hP hD hS => ?_)
  refine x_arr (t := 186465) (k := 45) (idx := 120) (N := 55) (j := 0) (n := 12) (T := TX7) (at_ := .int) (ty := .int) (fty := .array .int) (cX := cI) (a0 := (12, .inl (x_0 186465))) F hin hK hP hD hS hA hl dX7_init_292 dX7_init_293 dX7_init_295 dX7_init_297 (by decide) rfl (fun _ h => by cases h) rfl (by decide) (fun _ => rfl) (fun _ => rfl) xa_int rfl (by decide) (z_mT 1071 (by decide +kernel) rfl) rfl rfl (by decide +kernel) (fun _ => rfl) (fun _ => rfl) rfl (x_uniq (by decide +kernel)) (by decide) (x_hdk (by decide)) (Nat.le_of_ble_eq_true rfl) (Nat.le_of_ble_eq_true rfl) (fun q36 H locs hP hD hS => ?_)
  refine x_arr (t := 188513) (k := 46) (idx := 123) (N := 55) (j := 0) (n := 12) (T := TX7) (at_ := .int) (ty := .int) (fty := .array .int) (cX := cI) (a0 := (12, .inl (x_0 188513))) F hin hK hP hD hS hA hl dX7_init_300 dX7_init_301 dX7_init_303 dX7_init_305 (by decide) rfl (fun _ h => by cases h) rfl (by decide) (fun _ => rfl) (fun _ => rfl) xa_int rfl (by decide) (z_mT 1072 (by decide +kernel) rfl) rfl rfl (by decide +kernel) (fun _ => rfl) (fun _ => rfl) rfl (x_uniq (by decide +kernel)) (by decide) (x_hdk (by decide)) (Nat.le_of_ble_eq_true rfl) (Nat.le_of_ble_eq_true rfl) (fun q37 H locs hP hD hS => ?_)
  refine x_arr (t := 190561) (k := 47) (idx := 126) (N := 55) (j := 0) (n := 12) (T := TX7) (at_ := .int) (ty := .int) (fty := .array .int) (cX := cI) (a0 := (12, .inl (x_0 190561))) F hin hK hP hD hS hA hl dX7_init_308 dX7_init_309 dX7_init_311 dX7_init_313 (by decide) rfl (fun _ h => by cases h) rfl (by decide) (fun _ => rfl) (fun _ => rfl) xa_int rfl (by decide) (z_mT 1073 (by decide +kernel) rfl) rfl rfl (by decide +kernel) (fun _ => rfl) (fun _ => rfl) rfl (x_uniq (by decide +kernel)) (by decide) (x_hdk (by decide)) (Nat.le_of_ble_eq_true rfl) (Nat.le_of_ble_eq_true rfl) (fun q38 H locs hP hD hS => ?_)
  refine x_arr (t := 192610) (k := 48) (idx := 129) (N := 55) (j := 1) (n := 12) (T := TX7) (at_ := .boolean) (ty := .boolean) (fty := .array .boolean) (cX := cZ) (a0 := (12, .inl (x_0 192610))) F hin hK hP hD hS hA hl dX7_init_316 dX7_init_317 dX7_init_319 dX7_init_321 (by decide) rfl (fun _ h => by cases h) rfl (by decide) (fun _ => rfl) (fun _ => rfl) xa_boolean rfl (by decide) (z_mT 1074 (by decide +kernel) rfl) rfl rfl (by decide +kernel) (fun _ => rfl) (fun _ => rfl) rfl (x_uniq (by decide +kernel)) (by decide) (x_hdk (by decide)) (Nat.le_of_ble_eq_true rfl) (Nat.le_of_ble_eq_true rfl) (fun q39 H locs hP hD hS => ?_)
  refine x_arr (t := 194657) (k := 49) (idx := 132) (N := 55) (j := 0) (n := 12) (T := TX7) (at_ := .int) (ty := .int) (fty := .array .int) (cX := cI) (a0 := (12, .inl (x_0 194657))) F hin hK hP hD hS hA hl dX7_init_324 dX7_init_325 dX7_init_327 dX7_init_329 (by decide) rfl (fun _ h => by cases h) rfl (by decide) (fun _ => rfl) (fun _ => rfl) xa_int rfl (by decide) (z_mT 1075 (by decide +kernel) rfl) rfl rfl (by decide +kernel) (fun _ => rfl) (fun _ => rfl) rfl (x_uniq (by decide +kernel)) (by decide) (x_hdk (by decide)) (Nat.le_of_ble_eq_true rfl) (Nat.le_of_ble_eq_true rfl) (fun q40 H locs hP hD hS => ?_)
  refine x_arr (t := 196706) (k := 50) (idx := 135) (N := 55) (j := 1) (n := 12) (T := TX7) (at_ := .boolean) (ty := .boolean) (fty := .array .boolean) (cX := cZ) (a0 := (12, .inl (x_0 196706))) F hin hK hP hD hS hA hl dX7_init_332 dX7_init_333 dX7_init_335 dX7_init_337 (by decide) rfl (fun _ h => by cases h) rfl (by decide) (fun _ => rfl) (fun _ => rfl) xa_boolean rfl (by decide) (z_mT 1076 (by decide +kernel) rfl) rfl rfl (by decide +kernel) (fun _ => rfl) (fun _ => rfl) rfl (x_uniq (by decide +kernel)) (by decide) (x_hdk (by decide)) (Nat.le_of_ble_eq_true rfl) (Nat.le_of_ble_eq_true rfl) (fun q41 H locs hP hD hS => ?_)
  refine x_arr (t := 198753) (k := 51) (idx := 138) (N := 55) (j := 0) (n := 12) (T := TX7) (at_ := .int) (ty := .int) (fty := .array .int) (cX := cI) (a0 := (12, .inl (x_0 198753))) F hin hK hP hD hS hA hl dX7_init_340 dX7_init_341 dX7_init_343 dX7_init_345 (by decide) rfl (fun _ h => by cases h) rfl (by decide) (fun _ => rfl) (fun _ => rfl) xa_int rfl (by decide) (z_mT 1077 (by decide +kernel) rfl) rfl rfl (by decide +kernel) (fun _ => rfl) (fun _ => rfl) rfl (x_uniq (by decide +kernel)) (by decide) (x_hdk (by decide)) (Nat.le_of_ble_eq_true rfl) (Nat.le_of_ble_eq_true rfl) (fun q42 H locs hP hD hS => ?_)
  refine x_arr (t := 200801) (k := 52) (idx := 141) (N := 55) (j := 0) (n := 12) (T := TX7) (at_ := .int) (ty := .int) (fty := .array .int) (cX := cI) (a0 := (12, .inl (x_0 200801))) F hin hK hP hD hS hA hl dX7_init_348 dX7_init_349 dX7_init_351 dX7_init_353 (by decide) rfl (fun _ h => by cases h) rfl (by decide) (fun _ => rfl) (fun _ => rfl) xa_int rfl (by decide) (z_mT 1078 (by decide +kernel) rfl) rfl rfl (by decide +kernel) (fun _ => rfl) (fun _ => rfl) rfl (x_uniq (by decide +kernel)) (by decide) (x_hdk (by decide)) (Nat.le_of_ble_eq_true rfl) (Nat.le_of_ble_eq_true rfl) (fun q43 H locs hP hD hS => ?_)
  refine x_arr (t := 202849) (k := 53) (idx := 144) (N := 55) (j := 0) (n := 12) (T := TX7) (at_ := .int) (ty := .int) (fty := .array .int) (cX := cI) (a0 := (12, .inl (x_0 202849))) F hin hK hP hD hS hA hl dX7_init_356 dX7_init_357 dX7_init_359 dX7_init_361 (by decide) rfl (fun _ h => by cases h) rfl (by decide) (fun _ => rfl) (fun _ => rfl) xa_int rfl (by decide) (z_mT 1079 (by decide +kernel) rfl) rfl rfl (by decide +kernel) (fun _ => rfl) (fun _ => rfl) rfl (x_uniq (by decide +kernel)) (by decide) (x_hdk (by decide)) (Nat.le_of_ble_eq_true rfl) (Nat.le_of_ble_eq_true rfl) (fun q44 H locs hP hD hS => ?_)
  refine x_arr (t := 204929) (k := 54) (idx := 147) (N := 55) (j := 0) (n := 16) (T := TX7) (at_ := .int) (ty := .int) (fty := .array .int) (cX := cI) (a0 := (16, .inl (x_0 204929))) F hin hK hP hD hS hA hl dX7_init_364 dX7_init_365 dX7_init_367 dX7_init_369 (by decide) rfl (fun _ h => by cases h) rfl (by decide) (fun _ => rfl) (fun _ => rfl) xa_int rfl (by decide) (z_mT 1080 (by decide +kernel) rfl) rfl rfl (by decide +kernel) (fun _ => rfl) (fun _ => rfl) rfl (x_uniq (by decide +kernel)) (by decide) (x_hdk (by decide)) (Nat.le_of_ble_eq_true rfl) (Nat.le_of_ble_eq_true rfl) (fun q45 H locs hP hD hS => ?_)
  refine W.widen (k := 46) (n := 1304) (Nat.le_of_ble_eq_true rfl) (Nat.le_of_ble_eq_true rfl) ?_
  have hP := x_Pend (ids := xi_7) hP rfl (by decide) (by decide +kernel) rfl
  have hD := x_Dend (ids := xi_7) hD rfl (by decide) (by decide +kernel) rfl
  exact W.vret B.exec B.bytes hr (fun t ht hW => ⟨⟨_, rfl, rfl, by rw [ht]; exact hP, hD⟩, hS.F ht⟩) hS.2.2 dX7_init_372
