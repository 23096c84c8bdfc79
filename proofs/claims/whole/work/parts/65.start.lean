/-! the world at the loop's start -/
def y_ad (ad6 ad7 : Nat → Nat) (q3 b aw : Nat) : Nat → Nat := fun a => if a ∈ xi_6 then ad6 a else if a ∈ xi_7 then ad7 a else if a = 206859 then q3 else if a = z_SC then b else aw
theorem y_ad6 {ad6 ad7 : Nat → Nat} {q3 b aw a : Nat} (h : a ∈ xi_6) : y_ad ad6 ad7 q3 b aw a = ad6 a := if_pos h
theorem y_67 : ∀ a ∈ xi_7, a ∉ xi_6 := by decide +kernel
theorem y_ad7 {ad6 ad7 : Nat → Nat} {q3 b aw a : Nat} (h : a ∈ xi_7) : y_ad ad6 ad7 q3 b aw a = ad7 a := (if_neg (y_67 a h)).trans (if_pos h)
theorem y_ad3 {ad6 ad7 : Nat → Nat} {q3 b aw : Nat} : y_ad ad6 ad7 q3 b aw 206859 = q3 := (if_neg (by decide +kernel)).trans ((if_neg (by decide +kernel)).trans (if_pos rfl))
theorem y_adS {ad6 ad7 : Nat → Nat} {q3 b aw : Nat} : y_ad ad6 ad7 q3 b aw z_SC = b := (if_neg (by decide +kernel)).trans ((if_neg (by decide +kernel)).trans ((if_neg (by decide)).trans (if_pos rfl)))
theorem y_adW {ad6 ad7 : Nat → Nat} {q3 b aw : Nat} : y_ad ad6 ad7 q3 b aw z_WT = aw := (if_neg (by decide +kernel)).trans ((if_neg (by decide +kernel)).trans ((if_neg (by decide)).trans (if_neg (by decide))))
def y_all : List Nat := xi_6 ++ xi_7 ++ [206859]
theorem y_mem : ∀ a ∈ z_ids, a ∈ y_all := by decide +kernel
theorem y_in6 : ∀ a ∈ xi_6, a % 8 = 0 → x_in xi_6 a = true := by decide +kernel
theorem y_in7 : ∀ a ∈ xi_7, a % 8 = 0 → x_in xi_7 a = true := by decide +kernel
theorem y_world {cI cZ cJ : ClassId} {ad6 ad7 : Nat → Nat} {q3 b aw : Nat} : x_L cI cZ cJ ad6 xi_6 ++ x_L cI cZ cJ ad7 xi_7 ++ [(q3, .inl (cJ, 1, .inr (.inl (x_0L 206859))))] = x_L cI cZ cJ (y_ad ad6 ad7 q3 b aw) y_all := by
  have e6 : x_L cI cZ cJ (y_ad ad6 ad7 q3 b aw) xi_6 = x_L cI cZ cJ ad6 xi_6 := x_L_fr (fun a ha => ⟨y_ad6 ha, fun h8 u hu => y_ad6 (x_in_of (y_in6 a ha h8) hu)⟩)
  have e7 : x_L cI cZ cJ (y_ad ad6 ad7 q3 b aw) xi_7 = x_L cI cZ cJ ad7 xi_7 := x_L_fr (fun a ha => ⟨y_ad7 ha, fun h8 u hu => y_ad7 (x_in_of (y_in7 a ha h8) hu)⟩)
  rw [← e6, ← e7]
  unfold y_all x_L
  rw [List.map_append, List.map_append, List.map_cons, List.map_nil, y_ad3]
  rfl
theorem y_join {D : va_G} {A : Nat → Prop} {cI cZ cJ : ClassId} {ad : Nat → Nat} {H : Heap} (hP : va_P D z_cl (x_L cI cZ cJ ad y_all) H) (hD : va_D A (x_L cI cZ cJ ad y_all)) : va_P D z_cl (z_w cI cZ cJ ad (fun _ _ => 0) (fun _ _ => 0)) H ∧ z_inj ad ∧ ∀ a ∈ z_ids, A (ad a) := by
  have key : ∀ a, a ∈ z_ids → ∃ k : Nat, y_all[k]? = some a ∧ (x_L cI cZ cJ ad y_all)[k]? = some (ad a, z_e cI cZ cJ ad x_0 x_0L a) := by
    intro a ha
    obtain ⟨k, hk⟩ := List.getElem?_of_mem (y_mem a ha)
    refine ⟨k, hk, ?_⟩
    unfold x_L
    rw [List.getElem?_map, hk]
    rfl
  refine ⟨fun k q hq => ?_, fun a ha a' ha' hh => ?_, fun a ha => ?_⟩
  · unfold z_w at hq
    rw [List.getElem?_map] at hq
    obtain ⟨a, h1, h2⟩ := Option.map_eq_some_iff.mp hq
    obtain ⟨j, -, hj⟩ := key a (List.mem_of_getElem? h1)
    rw [← h2]
    exact hP j _ hj
  · obtain ⟨i, hi1, hi2⟩ := key a ha
    obtain ⟨j, hj1, hj2⟩ := key a' ha'
    have := hD.1 i j _ _ hi2 hj2 hh
    subst this
    exact Option.some.inj (hi1.symm.trans hj1)
  · obtain ⟨i, -, hi2⟩ := key a ha
    exact hD.2 i _ hi2
/-! the rules of the loop -/
section YV
variable {p : Program} {l : Launch} {e : Env} {s : State} {m : MethodId} {below : List Frame} {meth : Method} {c : Code} {b : Nat} {D : va_G} {cI cZ cJ : ClassId} {ad : Nat → Nat}
def y_V (p : Program) (l : Launch) (e : Env) (s : State) (m : MethodId) (below : List Frame) (meth : Method) (c : Code) (b : Nat) (D : va_G) (cI cZ cJ : ClassId) (ad : Nat → Nat) (Q : State → Prop) (k : Nat) : z_KT := z_V p l e room_1 s m #[Value.ref b] below meth c (101 + k) (2724 + 6 * k) Q 8 D cI cZ cJ ad (fun q => s.heap.size ≤ q)
def y_C (p : Program) (s : State) (m : MethodId) (meth : Method) (c : Code) (b : Nat) (D : va_G) (cI cZ cJ : ClassId) (ad : Nat → Nat) (L : Nat) (xs : Nat → Int32) : Prop := z_C p s m #[Value.ref b] meth c cL_law 8 "SonglinebenchLaw" D cI cZ cJ ad (fun q => s.heap.size ≤ q) (some (L, xs))
theorem y_cwr {Q : State → Prop} {L : Nat} {xs : Nat → Int32} (C : y_C p s m meth c b D cI cZ cJ ad L xs) {sp : z_SP} {y : MethodName} {bb : ByteArray} {maxL n i pc : Nat} {hh : List (Nat × Nat × Nat × Nat)} (ct : z_CW l y bb maxL hh sp 7) (hB : z_kC y bb maxL hh n = true) (hV : z_kS "SonglinebenchLaw" i y = true) (hm : maxL ≤ 8) (hd : decode cL_law pc = .ok (.invokestatic i, 3)) : ∀ k, k < 512 → z_cwr sp pc n (y_V p l e s m below meth c b D cI cZ cJ ad Q k) (y_V p l e s m below meth c b D cI cZ cJ ad Q (k + 1)) := by
  intro k hk lv as r S P po hn hr hsp hK
  exact z_callW ct hB hV C (Nat.le_of_ble_eq_true rfl) (by show 8 + (maxL + 11) + 28 * 7 ≤ 362; omega) (by show 101 + k + 1 ≤ 1197; omega) (by show 2724 + 6 * k + 6 ≤ 11348; omega) hd hn hr hsp hK
theorem y_keep {Q : State → Prop} (k : Nat) : z_kp (y_V p l e s m below meth c b D cI cZ cJ ad Q k) := fun _ _ _ _ _ _ h => z_V_keep h
theorem dY_212 : decode cL_law 212 = .ok (.invokestatic 143, 3) := by decide +kernel
theorem dY_274 : decode cL_law 274 = .ok (.invokestatic 153, 3) := by decide +kernel
theorem dY_356 : decode cL_law 356 = .ok (.invokestatic 157, 3) := by decide +kernel
theorem dY_438 : decode cL_law 438 = .ok (.invokestatic 161, 3) := by decide +kernel
theorem dY_500 : decode cL_law 500 = .ok (.invokestatic 164, 3) := by decide +kernel
theorem dY_556 : decode cL_law 556 = .ok (.invokestatic 167, 3) := by decide +kernel
theorem dY_612 : decode cL_law 612 = .ok (.invokestatic 170, 3) := by decide +kernel
theorem dY_680 : decode cL_law 680 = .ok (.invokestatic 173, 3) := by decide +kernel
theorem dY_760 : decode cL_law 760 = .ok (.invokestatic 177, 3) := by decide +kernel
theorem dY_828 : decode cL_law 828 = .ok (.invokestatic 180, 3) := by decide +kernel
theorem dY_902 : decode cL_law 902 = .ok (.invokestatic 183, 3) := by decide +kernel
theorem dY_988 : decode cL_law 988 = .ok (.invokestatic 187, 3) := by decide +kernel
theorem dY_1062 : decode cL_law 1062 = .ok (.invokestatic 190, 3) := by decide +kernel
theorem dY_1155 : decode cL_law 1155 = .ok (.invokestatic 193, 3) := by decide +kernel
theorem dY_1249 : decode cL_law 1249 = .ok (.invokestatic 197, 3) := by decide +kernel
theorem dY_1326 : decode cL_law 1326 = .ok (.invokestatic 201, 3) := by decide +kernel
theorem dY_1388 : decode cL_law 1388 = .ok (.invokestatic 204, 3) := by decide +kernel
theorem dY_1456 : decode cL_law 1456 = .ok (.invokestatic 207, 3) := by decide +kernel
theorem dY_1530 : decode cL_law 1530 = .ok (.invokestatic 210, 3) := by decide +kernel
theorem dY_1617 : decode cL_law 1617 = .ok (.invokestatic 213, 3) := by decide +kernel
theorem dY_1674 : decode cL_law 1674 = .ok (.invokestatic 217, 3) := by decide +kernel
theorem dY_1730 : decode cL_law 1730 = .ok (.invokestatic 220, 3) := by decide +kernel
theorem dY_1786 : decode cL_law 1786 = .ok (.invokestatic 223, 3) := by decide +kernel
theorem dY_1848 : decode cL_law 1848 = .ok (.invokestatic 226, 3) := by decide +kernel
theorem dY_1910 : decode cL_law 1910 = .ok (.invokestatic 229, 3) := by decide +kernel
theorem dY_1978 : decode cL_law 1978 = .ok (.invokestatic 232, 3) := by decide +kernel
theorem dY_2078 : decode cL_law 2078 = .ok (.invokestatic 235, 3) := by decide +kernel
theorem dY_2172 : decode cL_law 2172 = .ok (.invokestatic 239, 3) := by decide +kernel
theorem dY_2239 : decode cL_law 2239 = .ok (.invokestatic 242, 3) := by decide +kernel
theorem dY_2296 : decode cL_law 2296 = .ok (.invokestatic 246, 3) := by decide +kernel
theorem dY_2366 : decode cL_law 2366 = .ok (.invokestatic 249, 3) := by decide +kernel
theorem dY_2428 : decode cL_law 2428 = .ok (.invokestatic 252, 3) := by decide +kernel
theorem dY_2496 : decode cL_law 2496 = .ok (.invokestatic 255, 3) := by decide +kernel
theorem dY_2558 : decode cL_law 2558 = .ok (.invokestatic 258, 3) := by decide +kernel
theorem dY_2613 : decode cL_law 2613 = .ok (.invokestatic 261, 3) := by decide +kernel
theorem dY_2668 : decode cL_law 2668 = .ok (.invokestatic 264, 3) := by decide +kernel
theorem dY_2723 : decode cL_law 2723 = .ok (.invokestatic 267, 3) := by decide +kernel
theorem y_CW {Q : State → Prop} {L : Nat} {xs : Nat → Int32} (h9 : l.stackTraces = false) (C : y_C p s m meth c b D cI cZ cJ ad L xs) : l_CW 512 (y_V p l e s m below meth c b D cI cZ cJ ad Q) :=
  ⟨y_cwr C (cw_L_people l h9) kc_L_people ks_L_143 (Nat.le_of_ble_eq_true rfl) dY_212, y_cwr C (cw_L_person l h9) kc_L_person ks_L_153 (Nat.le_of_ble_eq_true rfl) dY_274, y_cwr C (cw_L_root l h9) kc_L_root ks_L_157 (Nat.le_of_ble_eq_true rfl) dY_356, y_cwr C (cw_L_adopt l h9) kc_L_adopt ks_L_161 (Nat.le_of_ble_eq_true rfl) dY_438, y_cwr C (cw_L_raise l h9) kc_L_raise ks_L_164 (Nat.le_of_ble_eq_true rfl) dY_500, y_cwr C (cw_L_members l h9) kc_L_members ks_L_167 (Nat.le_of_ble_eq_true rfl) dY_556, y_cwr C (cw_L_story l h9) kc_L_story ks_L_170 (Nat.le_of_ble_eq_true rfl) dY_612, y_cwr C (cw_L_part l h9) kc_L_part ks_L_173 (Nat.le_of_ble_eq_true rfl) dY_680, y_cwr C (cw_L_hears l h9) kc_L_hears ks_L_177 (Nat.le_of_ble_eq_true rfl) dY_760, y_cwr C (cw_L_told l h9) kc_L_told ks_L_180 (Nat.le_of_ble_eq_true rfl) dY_828, y_cwr C (cw_L_mark l h9) kc_L_mark ks_L_183 (Nat.le_of_ble_eq_true rfl) dY_902, y_cwr C (cw_L_explain l h9) kc_L_explain ks_L_187 (Nat.le_of_ble_eq_true rfl) dY_988, y_cwr C (cw_L_isProved l h9) kc_L_isProved ks_L_190 (Nat.le_of_ble_eq_true rfl) dY_1062, y_cwr C (cw_L_act l h9) kc_L_act ks_L_193 (Nat.le_of_ble_eq_true rfl) dY_1155, y_cwr C (cw_L_voids l h9) kc_L_voids ks_L_197 (Nat.le_of_ble_eq_true rfl) dY_1249, y_cwr C (cw_L_giveUp l h9) kc_L_giveUp ks_L_201 (Nat.le_of_ble_eq_true rfl) dY_1326, y_cwr C (cw_L_left l h9) kc_L_left ks_L_204 (Nat.le_of_ble_eq_true rfl) dY_1388, y_cwr C (cw_L_leftAnew l h9) kc_L_leftAnew ks_L_207 (Nat.le_of_ble_eq_true rfl) dY_1456, y_cwr C (cw_L_claim l h9) kc_L_claim ks_L_210 (Nat.le_of_ble_eq_true rfl) dY_1530, y_cwr C (cw_L_vote l h9) kc_L_vote ks_L_213 (Nat.le_of_ble_eq_true rfl) dY_1617, y_cwr C (cw_L_register l h9) kc_L_register ks_L_217 (Nat.le_of_ble_eq_true rfl) dY_1674, y_cwr C (cw_L_determine l h9) kc_L_determine ks_L_220 (Nat.le_of_ble_eq_true rfl) dY_1730, y_cwr C (cw_L_revise l h9) kc_L_revise ks_L_223 (Nat.le_of_ble_eq_true rfl) dY_1786, y_cwr C (cw_L_ofClaim l h9) kc_L_ofClaim ks_L_226 (Nat.le_of_ble_eq_true rfl) dY_1848, y_cwr C (cw_L_holders l h9) kc_L_holders ks_L_229 (Nat.le_of_ble_eq_true rfl) dY_1910, y_cwr C (cw_L_may l h9) kc_L_may ks_L_232 (Nat.le_of_ble_eq_true rfl) dY_1978, y_cwr C (cw_L_notice l h9) kc_L_notice ks_L_235 (Nat.le_of_ble_eq_true rfl) dY_2078, y_cwr C (cw_L_agree l h9) kc_L_agree ks_L_239 (Nat.le_of_ble_eq_true rfl) dY_2172, y_cwr C (cw_L_object l h9) kc_L_object ks_L_242 (Nat.le_of_ble_eq_true rfl) dY_2239, y_cwr C (cw_L_decide l h9) kc_L_decide ks_L_246 (Nat.le_of_ble_eq_true rfl) dY_2296, y_cwr C (cw_L_proceed l h9) kc_L_proceed ks_L_249 (Nat.le_of_ble_eq_true rfl) dY_2366, y_cwr C (cw_L_ofNotice l h9) kc_L_ofNotice ks_L_252 (Nat.le_of_ble_eq_true rfl) dY_2428, y_cwr C (cw_L_value l h9) kc_L_value ks_L_255 (Nat.le_of_ble_eq_true rfl) dY_2496, y_cwr C (cw_L_owed l h9) kc_L_owed ks_L_258 (Nat.le_of_ble_eq_true rfl) dY_2558, y_cwr C (cw_L_pay l h9) kc_L_pay ks_L_261 (Nat.le_of_ble_eq_true rfl) dY_2613, y_cwr C (cw_L_paid l h9) kc_L_paid ks_L_264 (Nat.le_of_ble_eq_true rfl) dY_2668, y_cwr C (cw_L_pass l h9) kc_L_pass ks_L_267 (Nat.le_of_ble_eq_true rfl) dY_2723⟩
theorem y_rule {Q : State → Prop} {L : Nat} {xs : Nat → Int32} (C : y_C p s m meth c b D cI cZ cJ ad L xs)
    (hq : ∀ (k pc : Nat) (H : Heap) (locs : List Loc) (ls : Array Slot), k ≤ 512 → decode cL_law pc = .ok (.ireturn, 1) → (∀ q ∈ locs, s.heap.size ≤ q.base) → W p l e room_1 s m #[Value.ref b] below meth c H locs (101 + k) (2724 + 6 * k) Q (F0 m pc ls [.int 1])) :
    ∀ k, k ≤ 512 → z_rule l (fun v _ _ => v = some (.int (nI 1))) xs L (y_V p l e s m below meth c b D cI cZ cJ ad Q k) := by
  intro k hk G hG cuts n pc lv st S P h
  refine z_lrule (d := 9) C (Nat.le_of_ble_eq_true rfl) (Nat.le_of_ble_eq_true rfl) (by show 101 + k ≤ 1197; omega) (by show 2724 + 6 * k ≤ 11348; omega) ?_ G hG cuts n pc lv st S P h
  intro pc H locs ls v S P hd _ hv _ hS
  cases hv
  exact hq k pc H locs ls hk hd hS.2.2
end YV
