theorem t_isPlace {S : z_MI} {P : z_ML} {x : Int32} (h : f_X6_isPlace S P x = true) : vp_in x 16 := by
  unfold f_X6_isPlace at h
  split at h
  · cases h
  · split at h
    · cases h
    · exact z_ck ‹_› ‹_› ⟨16, Nat.le_refl _, rfl⟩ (by decide)
