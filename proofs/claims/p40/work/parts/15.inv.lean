/-! what holds of the memory at all times, as far as the walks want it -/
def z_J (S : z_MI) : Prop := (z_le (S 4112 6) 6) ∧ (z_le (S 4112 7) 30) ∧ (z_le (S 6184 4) 10) ∧ (z_le (S 8216 7) 60) ∧ (z_le (S 10240 8) 40) ∧ (z_le (S 12296 8) 12) ∧ (z_le (S 14368 11) 12) ∧ (z_le (S 2096 8) 5000) ∧ (∀ i, vp_in (S 32849 i) 6) ∧ (∀ i, z_le (S 34897 i) 12) ∧ (∀ i, z_le (S 49201 i) 8) ∧ (∀ i, vp_in (S 71777 i) 6)
theorem z_J_peoples {S : z_MI} (h : z_J S) : z_le (S 4112 6) 6 := h.1
theorem z_J_persons {S : z_MI} (h : z_J S) : z_le (S 4112 7) 30 := h.2.1
theorem z_J_stories {S : z_MI} (h : z_J S) : z_le (S 6184 4) 10 := h.2.2.1
theorem z_J_marks {S : z_MI} (h : z_J S) : z_le (S 8216 7) 60 := h.2.2.2.1
theorem z_J_acts {S : z_MI} (h : z_J S) : z_le (S 10240 8) 40 := h.2.2.2.2.1
theorem z_J_claims {S : z_MI} (h : z_J S) : z_le (S 12296 8) 12 := h.2.2.2.2.2.1
theorem z_J_notices {S : z_MI} (h : z_J S) : z_le (S 14368 11) 12 := h.2.2.2.2.2.2.1
theorem z_J_now {S : z_MI} (h : z_J S) : z_le (S 2096 8) 5000 := h.2.2.2.2.2.2.2.1
theorem z_J_stp {S : z_MI} (h : z_J S) : ∀ i, vp_in (S 32849 i) 6 := h.2.2.2.2.2.2.2.2.1
theorem z_J_parts {S : z_MI} (h : z_J S) : ∀ i, z_le (S 34897 i) 12 := h.2.2.2.2.2.2.2.2.2.1
theorem z_J_expl {S : z_MI} (h : z_J S) : ∀ i, z_le (S 49201 i) 8 := h.2.2.2.2.2.2.2.2.2.2.1
theorem z_J_clp {S : z_MI} (h : z_J S) : ∀ i, vp_in (S 71777 i) 6 := h.2.2.2.2.2.2.2.2.2.2.2
theorem z_room {c : Int32} {n N : Nat} (h : ¬ nI n ≤ c) (hc : z_le c N) (hN : N < 2 ^ 31) (hn : n < 2 ^ 31) : vp_in c n := by
  obtain ⟨k, hk, rfl⟩ := hc
  have h1 : ¬ n ≤ k := fun q => h ((nI_leI hn (by omega)).mpr q)
  exact vp_in_nI (by omega) hn
theorem t_isPeople {S : z_MI} {P : z_ML} {x : Int32} (hJ : z_J S) (h : f_X2_isPeople S P x = true) : vp_in x 6 := by
  unfold f_X2_isPeople at h
  split at h
  · cases h
  · split at h
    · cases h
    · exact z_ck ‹_› ‹_› (z_J_peoples hJ) (by decide)
theorem t_isPerson {S : z_MI} {P : z_ML} {x : Int32} (hJ : z_J S) (h : f_X2_isPerson S P x = true) : vp_in x 30 := by
  unfold f_X2_isPerson at h
  split at h
  · cases h
  · split at h
    · cases h
    · exact z_ck ‹_› ‹_› (z_J_persons hJ) (by decide)
theorem t_isStory {S : z_MI} {P : z_ML} {x : Int32} (hJ : z_J S) (h : f_X5_isStory S P x = true) : vp_in x 10 := by
  unfold f_X5_isStory at h
  split at h
  · cases h
  · split at h
    · cases h
    · exact z_ck ‹_› ‹_› (z_J_stories hJ) (by decide)
theorem t_isAct {S : z_MI} {P : z_ML} {x : Int32} (hJ : z_J S) (h : f_X0_isAct S P x = true) : vp_in x 40 := by
  unfold f_X0_isAct at h
  split at h
  · cases h
  · split at h
    · cases h
    · exact z_ck ‹_› ‹_› (z_J_acts hJ) (by decide)
theorem t_isClaim {S : z_MI} {P : z_ML} {x : Int32} (hJ : z_J S) (h : f_X1_isClaim S P x = true) : vp_in x 12 := by
  unfold f_X1_isClaim at h
  split at h
  · cases h
  · split at h
    · cases h
    · exact z_ck ‹_› ‹_› (z_J_claims hJ) (by decide)
theorem t_isNotice {S : z_MI} {P : z_ML} {x : Int32} (hJ : z_J S) (h : f_X4_isNotice S P x = true) : vp_in x 12 := by
  unfold f_X4_isNotice at h
  split at h
  · cases h
  · split at h
    · cases h
    · exact z_ck ‹_› ‹_› (z_J_notices hJ) (by decide)
theorem z_roomL {c : Int32} {n N : Nat} (h : c < nI n) (hc : z_le c N) (hN : N < 2 ^ 31) (hn : n < 2 ^ 31) : vp_in c n := by
  obtain ⟨k, hk, rfl⟩ := hc
  exact vp_in_nI ((nI_ltI (by omega) hn).mp h) hn
theorem z_room1L {c x : Int32} (h : c < nI 12) (hc : z_le c 12) (hx : vp_in x 10) : vp_in (x * nI 12 + c) 120 := by
  obtain ⟨k, hk, rfl⟩ := hc
  exact z_in_ma hx ((nI_ltI (by omega) (by omega)).mp h) (by decide)
theorem z_room2L {c x : Int32} (h : c < nI 8) (hc : z_le c 8) (hx : vp_in x 6) : vp_in (x * nI 8 + c) 48 := by
  obtain ⟨k, hk, rfl⟩ := hc
  exact z_in_ma hx ((nI_ltI (by omega) (by omega)).mp h) (by decide)
theorem z_room1 {c x : Int32} (h : ¬ nI 12 ≤ c) (hc : z_le c 12) (hx : vp_in x 10) : vp_in (x * nI 12 + c) 120 := by
  obtain ⟨k, hk, rfl⟩ := hc
  have h1 : ¬ 12 ≤ k := fun q => h ((nI_leI (by omega) (by omega)).mpr q)
  exact z_in_ma hx (by omega) (by decide)
theorem z_room2 {c x : Int32} (h : ¬ nI 8 ≤ c) (hc : z_le c 8) (hx : vp_in x 6) : vp_in (x * nI 8 + c) 48 := by
  obtain ⟨k, hk, rfl⟩ := hc
  have h1 : ¬ 8 ≤ k := fun q => h ((nI_leI (by omega) (by omega)).mpr q)
  exact z_in_ma hx (by omega) (by decide)
theorem t_isPartB {S : z_MI} {P : z_ML} {x y : Int32} (hJ : z_J S) (h : f_X5_isPart S P x y = true) : vp_in x 10 ∧ vp_in (x * nI 12 + y) 120 := by
  unfold f_X5_isPart at h
  split at h
  · rename_i hs
    split at h
    · cases h
    · split at h
      · cases h
      · rename_i h1 h2
        have hx := t_isStory hJ hs
        have hy := z_ck h1 h2 (z_J_parts hJ _) (by decide)
        obtain ⟨j, hj, rfl⟩ := vp_in_of hy (by decide)
        exact ⟨hx, z_in_ma hx hj (by decide)⟩
  · cases h
theorem t_isPart {S : z_MI} {P : z_ML} {x y : Int32} (hJ : z_J S) (h : f_X5_isPart S P x y = true) : vp_in (x * nI 12 + y) 120 := (t_isPartB hJ h).2
theorem t_isPartS {S : z_MI} {P : z_ML} {x y : Int32} (hJ : z_J S) (h : f_X5_isPart S P x y = true) : vp_in x 10 := (t_isPartB hJ h).1
