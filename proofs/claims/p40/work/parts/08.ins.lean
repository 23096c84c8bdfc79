section ZST
variable {p : Program} {l : Launch} {e : Env} {R : Room} {s : State} {m : MethodId} {args : Array Value} {below : List Frame} {meth : Method} {c : Code} {cells slots : Nat} {Q : State → Prop} {cc : ByteArray} {nL : Nat} {own : String} {D : va_G} {cI cZ cJ : ClassId} {ad : Nat → Nat} {A : Nat → Prop} {sc : Option (Nat × (Nat → Int32))}
variable {G : z_G} {Po : z_PO} {Px : z_PX} {K : z_KT} {pc nx tg : Nat} {lv : z_LV} {st : List Value} {S : z_MI} {P : z_ML}
set_option maxHeartbeats 1000000 in
theorem z_x_iconst {n : Int} (C : z_C p s m args meth c cc nL own D cI cZ cJ ad A sc) (hd : decode cc pc = .ok (.iconst n, 1)) (hK : ∀ pc lv st S P, K pc lv st S P → z_V p l e R s m args below meth c cells slots Q nL D cI cZ cJ ad A pc lv st S P) (h : z_stp G Po Px sc (.iconst n) pc nx tg lv st S P K) (hn : nx = pc + 1) : z_V p l e R s m args below meth c cells slots Q nL D cI cZ cJ ad A pc lv st S P := by
  subst hn
  obtain ⟨⟨hx, hb, hml, hown, hts⟩, hinj, hAd, hA, hE, hlk, hsc⟩ := C
  simp only [z_stp] at h
  split at h
  · intro H locs ls hP hS hl hrl hrs
    exact lv_iconst hx hb hd (by first | rfl | exact Int32.ofInt_ofNat _ | simp [nI]) (hK _ _ _ _ _ h H locs ls hP hS hl hrl (by simpa [z_rs, z_rv] using hrs))
  · intro H locs ls hP hS hl hrl hrs
    exact lv_iconst hx hb hd (by decide) (hK _ _ _ _ _ h H locs ls hP hS hl hrl (by simpa [z_rs, z_rv] using hrs))
  · exact h.elim
theorem z_b8 : ∀ k, k ≤ 127 → (Int8.ofInt (Int.ofNat k)).toInt32 = nI k := by decide +kernel
theorem z_s16 (k : Nat) (h : k ≤ 32767) : (Int16.ofInt (Int.ofNat k)).toInt32 = nI k := by
  apply Int32.toInt_inj.mp
  rw [nI_toInt (by omega), Int16.toInt_toInt32]
  exact Int16.toInt_ofInt_of_le (by simp only [Int.ofNat_eq_natCast]; exact Int.le_trans (show (-32768 : Int) ≤ 0 by decide) (Int.natCast_nonneg k)) (by simp only [Int.ofNat_eq_natCast]; omega)
set_option maxHeartbeats 1000000 in
theorem z_x_bipush {n : Int} (C : z_C p s m args meth c cc nL own D cI cZ cJ ad A sc) (hd : decode cc pc = .ok (.bipush n, 2)) (hK : ∀ pc lv st S P, K pc lv st S P → z_V p l e R s m args below meth c cells slots Q nL D cI cZ cJ ad A pc lv st S P) (h : z_stp G Po Px sc (.bipush n) pc nx tg lv st S P K) (hn : nx = pc + 2) : z_V p l e R s m args below meth c cells slots Q nL D cI cZ cJ ad A pc lv st S P := by
  subst hn
  obtain ⟨⟨hx, hb, hml, hown, hts⟩, hinj, hAd, hA, hE, hlk, hsc⟩ := C
  simp only [z_stp] at h
  split at h
  · split at h
    · rename_i hk
      intro H locs ls hP hS hl hrl hrs
      exact lv_bipush hx hb hd (z_b8 _ (Nat.le_of_ble_eq_true hk)) (hK _ _ _ _ _ h H locs ls hP hS hl hrl (by simpa [z_rs, z_rv] using hrs))
    · exact h.elim
  · exact h.elim
set_option maxHeartbeats 1000000 in
theorem z_x_sipush {n : Int} (C : z_C p s m args meth c cc nL own D cI cZ cJ ad A sc) (hd : decode cc pc = .ok (.sipush n, 3)) (hK : ∀ pc lv st S P, K pc lv st S P → z_V p l e R s m args below meth c cells slots Q nL D cI cZ cJ ad A pc lv st S P) (h : z_stp G Po Px sc (.sipush n) pc nx tg lv st S P K) (hn : nx = pc + 3) : z_V p l e R s m args below meth c cells slots Q nL D cI cZ cJ ad A pc lv st S P := by
  subst hn
  obtain ⟨⟨hx, hb, hml, hown, hts⟩, hinj, hAd, hA, hE, hlk, hsc⟩ := C
  simp only [z_stp] at h
  split at h
  · split at h
    · rename_i hk
      intro H locs ls hP hS hl hrl hrs
      exact lv_sipush hx hb hd (z_s16 _ (Nat.le_of_ble_eq_true hk)) (hK _ _ _ _ _ h H locs ls hP hS hl hrl (by simpa [z_rs, z_rv] using hrs))
    · exact h.elim
  · exact h.elim
set_option maxHeartbeats 1000000 in
theorem z_x_lconst {n : Fin 2} (C : z_C p s m args meth c cc nL own D cI cZ cJ ad A sc) (hd : decode cc pc = .ok (.lconst n, 1)) (hK : ∀ pc lv st S P, K pc lv st S P → z_V p l e R s m args below meth c cells slots Q nL D cI cZ cJ ad A pc lv st S P) (h : z_stp G Po Px sc (.lconst n) pc nx tg lv st S P K) (hn : nx = pc + 1) : z_V p l e R s m args below meth c cells slots Q nL D cI cZ cJ ad A pc lv st S P := by
  subst hn
  obtain ⟨⟨hx, hb, hml, hown, hts⟩, hinj, hAd, hA, hE, hlk, hsc⟩ := C
  simp only [z_stp] at h
  intro H locs ls hP hS hl hrl hrs
  exact lv_lconst hx hb hd rfl (hK _ _ _ _ _ h H locs ls hP hS hl hrl (by simpa [z_rs, z_rv] using hrs))
set_option maxHeartbeats 1000000 in
theorem z_x_ldc {i : Nat} (hci : ∀ q ∈ z_ci G, Jvm.Cond.constant own q.1 (nI q.2) ∈ z_T) (C : z_C p s m args meth c cc nL own D cI cZ cJ ad A sc) (hd : decode cc pc = .ok (.ldc i, 2)) (hK : ∀ pc lv st S P, K pc lv st S P → z_V p l e R s m args below meth c cells slots Q nL D cI cZ cJ ad A pc lv st S P) (h : z_stp G Po Px sc (.ldc i) pc nx tg lv st S P K) (hn : nx = pc + 2) : z_V p l e R s m args below meth c cells slots Q nL D cI cZ cJ ad A pc lv st S P := by
  subst hn
  obtain ⟨⟨hx, hb, hml, hown, hts⟩, hinj, hAd, hA, hE, hlk, hsc⟩ := C
  simp only [z_stp] at h
  split at h
  · rename_i v hv
    intro H locs ls hP hS hl hrl hrs
    exact lv_ldc hx hb hown (hts _ (hci _ (z_fnd_mem _ _ _ hv))) hd (hK _ _ _ _ _ h H locs ls hP hS hl hrl (by simpa [z_rs, z_rv] using hrs))
  · exact h.elim
set_option maxHeartbeats 1000000 in
theorem z_x_ldc_w {i : Nat} (hci : ∀ q ∈ z_ci G, Jvm.Cond.constant own q.1 (nI q.2) ∈ z_T) (C : z_C p s m args meth c cc nL own D cI cZ cJ ad A sc) (hd : decode cc pc = .ok (.ldc_w i, 3)) (hK : ∀ pc lv st S P, K pc lv st S P → z_V p l e R s m args below meth c cells slots Q nL D cI cZ cJ ad A pc lv st S P) (h : z_stp G Po Px sc (.ldc_w i) pc nx tg lv st S P K) (hn : nx = pc + 3) : z_V p l e R s m args below meth c cells slots Q nL D cI cZ cJ ad A pc lv st S P := by
  subst hn
  obtain ⟨⟨hx, hb, hml, hown, hts⟩, hinj, hAd, hA, hE, hlk, hsc⟩ := C
  simp only [z_stp] at h
  split at h
  · rename_i v hv
    intro H locs ls hP hS hl hrl hrs
    exact lv_ldcw hx hb hown (hts _ (hci _ (z_fnd_mem _ _ _ hv))) hd (hK _ _ _ _ _ h H locs ls hP hS hl hrl (by simpa [z_rs, z_rv] using hrs))
  · exact h.elim
set_option maxHeartbeats 1000000 in
theorem z_x_ldc2_w {i : Nat} (hci : ∀ q ∈ z_cL G, Jvm.Cond.constantLong own q.1 (lN q.2) ∈ z_T) (C : z_C p s m args meth c cc nL own D cI cZ cJ ad A sc) (hd : decode cc pc = .ok (.ldc2_w i, 3)) (hK : ∀ pc lv st S P, K pc lv st S P → z_V p l e R s m args below meth c cells slots Q nL D cI cZ cJ ad A pc lv st S P) (h : z_stp G Po Px sc (.ldc2_w i) pc nx tg lv st S P K) (hn : nx = pc + 3) : z_V p l e R s m args below meth c cells slots Q nL D cI cZ cJ ad A pc lv st S P := by
  subst hn
  obtain ⟨⟨hx, hb, hml, hown, hts⟩, hinj, hAd, hA, hE, hlk, hsc⟩ := C
  simp only [z_stp] at h
  split at h
  · rename_i v hv
    intro H locs ls hP hS hl hrl hrs
    exact lv_ldc2 hx hb hown (hts _ (hci _ (z_fnd_mem _ _ _ hv))) hd (hK _ _ _ _ _ h H locs ls hP hS hl hrl (by simpa [z_rs, z_rv] using hrs))
  · exact h.elim
set_option maxHeartbeats 1000000 in
theorem z_x_iload_n {k : Fin 4} (C : z_C p s m args meth c cc nL own D cI cZ cJ ad A sc) (hd : decode cc pc = .ok (.iload_n k, 1)) (hK : ∀ pc lv st S P, K pc lv st S P → z_V p l e R s m args below meth c cells slots Q nL D cI cZ cJ ad A pc lv st S P) (h : z_stp G Po Px sc (.iload_n k) pc nx tg lv st S P K) (hn : nx = pc + 1) : z_V p l e R s m args below meth c cells slots Q nL D cI cZ cJ ad A pc lv st S P := by
  subst hn
  obtain ⟨⟨hx, hb, hml, hown, hts⟩, hinj, hAd, hA, hE, hlk, hsc⟩ := C
  simp only [z_stp] at h
  split at h
  · rename_i v hv
    intro H locs ls hP hS hl hrl hrs
    exact lv_iload_n hx hb hd rfl (z_lv_get hl hv) (hK _ _ _ _ _ h H locs ls hP hS hl hrl (z_rs_cons.mpr ⟨rfl, hrs⟩))
  · exact h.elim
set_option maxHeartbeats 1000000 in
theorem z_x_iload {k : Nat} (C : z_C p s m args meth c cc nL own D cI cZ cJ ad A sc) (hd : decode cc pc = .ok (.iload k, 2)) (hK : ∀ pc lv st S P, K pc lv st S P → z_V p l e R s m args below meth c cells slots Q nL D cI cZ cJ ad A pc lv st S P) (h : z_stp G Po Px sc (.iload k) pc nx tg lv st S P K) (hn : nx = pc + 2) : z_V p l e R s m args below meth c cells slots Q nL D cI cZ cJ ad A pc lv st S P := by
  subst hn
  obtain ⟨⟨hx, hb, hml, hown, hts⟩, hinj, hAd, hA, hE, hlk, hsc⟩ := C
  simp only [z_stp] at h
  split at h
  · rename_i v hv
    intro H locs ls hP hS hl hrl hrs
    exact lv_iload hx hb hd (z_lv_get hl hv) (hK _ _ _ _ _ h H locs ls hP hS hl hrl (z_rs_cons.mpr ⟨rfl, hrs⟩))
  · exact h.elim
set_option maxHeartbeats 1000000 in
theorem z_x_lload_n {k : Fin 4} (C : z_C p s m args meth c cc nL own D cI cZ cJ ad A sc) (hd : decode cc pc = .ok (.lload_n k, 1)) (hK : ∀ pc lv st S P, K pc lv st S P → z_V p l e R s m args below meth c cells slots Q nL D cI cZ cJ ad A pc lv st S P) (h : z_stp G Po Px sc (.lload_n k) pc nx tg lv st S P K) (hn : nx = pc + 1) : z_V p l e R s m args below meth c cells slots Q nL D cI cZ cJ ad A pc lv st S P := by
  subst hn
  obtain ⟨⟨hx, hb, hml, hown, hts⟩, hinj, hAd, hA, hE, hlk, hsc⟩ := C
  simp only [z_stp] at h
  split at h
  · rename_i v hv
    intro H locs ls hP hS hl hrl hrs
    exact lv_lload_n hx hb hd rfl (z_lv_get hl hv) (hK _ _ _ _ _ h H locs ls hP hS hl hrl (z_rs_cons.mpr ⟨rfl, hrs⟩))
  · exact h.elim
set_option maxHeartbeats 1000000 in
theorem z_x_lload {k : Nat} (C : z_C p s m args meth c cc nL own D cI cZ cJ ad A sc) (hd : decode cc pc = .ok (.lload k, 2)) (hK : ∀ pc lv st S P, K pc lv st S P → z_V p l e R s m args below meth c cells slots Q nL D cI cZ cJ ad A pc lv st S P) (h : z_stp G Po Px sc (.lload k) pc nx tg lv st S P K) (hn : nx = pc + 2) : z_V p l e R s m args below meth c cells slots Q nL D cI cZ cJ ad A pc lv st S P := by
  subst hn
  obtain ⟨⟨hx, hb, hml, hown, hts⟩, hinj, hAd, hA, hE, hlk, hsc⟩ := C
  simp only [z_stp] at h
  split at h
  · rename_i v hv
    intro H locs ls hP hS hl hrl hrs
    exact lv_lload hx hb hd (z_lv_get hl hv) (hK _ _ _ _ _ h H locs ls hP hS hl hrl (z_rs_cons.mpr ⟨rfl, hrs⟩))
  · exact h.elim
set_option maxHeartbeats 1000000 in
theorem z_x_aload_n {k : Fin 4} (C : z_C p s m args meth c cc nL own D cI cZ cJ ad A sc) (hd : decode cc pc = .ok (.aload_n k, 1)) (hK : ∀ pc lv st S P, K pc lv st S P → z_V p l e R s m args below meth c cells slots Q nL D cI cZ cJ ad A pc lv st S P) (h : z_stp G Po Px sc (.aload_n k) pc nx tg lv st S P K) (hn : nx = pc + 1) : z_V p l e R s m args below meth c cells slots Q nL D cI cZ cJ ad A pc lv st S P := by
  subst hn
  obtain ⟨⟨hx, hb, hml, hown, hts⟩, hinj, hAd, hA, hE, hlk, hsc⟩ := C
  simp only [z_stp] at h
  split at h
  · rename_i v hv
    intro H locs ls hP hS hl hrl hrs
    exact lv_aload_n hx hb hd rfl (z_lv_get hl hv) (hK _ _ _ _ _ h H locs ls hP hS hl hrl (z_rs_cons.mpr ⟨z_rl_get hrl hv, hrs⟩))
  · exact h.elim
set_option maxHeartbeats 1000000 in
theorem z_x_aload {k : Nat} (C : z_C p s m args meth c cc nL own D cI cZ cJ ad A sc) (hd : decode cc pc = .ok (.aload k, 2)) (hK : ∀ pc lv st S P, K pc lv st S P → z_V p l e R s m args below meth c cells slots Q nL D cI cZ cJ ad A pc lv st S P) (h : z_stp G Po Px sc (.aload k) pc nx tg lv st S P K) (hn : nx = pc + 2) : z_V p l e R s m args below meth c cells slots Q nL D cI cZ cJ ad A pc lv st S P := by
  subst hn
  obtain ⟨⟨hx, hb, hml, hown, hts⟩, hinj, hAd, hA, hE, hlk, hsc⟩ := C
  simp only [z_stp] at h
  split at h
  · rename_i v hv
    intro H locs ls hP hS hl hrl hrs
    exact lv_aload hx hb hd (z_lv_get hl hv) (hK _ _ _ _ _ h H locs ls hP hS hl hrl (z_rs_cons.mpr ⟨z_rl_get hrl hv, hrs⟩))
  · exact h.elim
set_option maxHeartbeats 1000000 in
theorem z_x_istore_n {k : Fin 4} (hkn : k.val < nL) (C : z_C p s m args meth c cc nL own D cI cZ cJ ad A sc) (hd : decode cc pc = .ok (.istore_n k, 1)) (hK : ∀ pc lv st S P, K pc lv st S P → z_V p l e R s m args below meth c cells slots Q nL D cI cZ cJ ad A pc lv st S P) (h : z_stp G Po Px sc (.istore_n k) pc nx tg lv st S P K) (hn : nx = pc + 1) : z_V p l e R s m args below meth c cells slots Q nL D cI cZ cJ ad A pc lv st S P := by
  subst hn
  obtain ⟨⟨hx, hb, hml, hown, hts⟩, hinj, hAd, hA, hE, hlk, hsc⟩ := C
  simp only [z_stp] at h
  split at h
  · rename_i v r
    obtain ⟨lv1, hk1, hm⟩ := z_put_eq _ _ _ _ _ h
    intro H locs ls hP hS hl hrl hrs
    exact lv_istore_n hx hb hd rfl hl hkn rfl (fun ls1 hl1 => hK _ _ _ _ _ hk1 H locs ls1 hP hS (z_lv_put1 rfl hl1 hm) (z_rl_put rfl hrl hm) (z_rs_cons.mp hrs).2)
  · exact h.elim
set_option maxHeartbeats 1000000 in
theorem z_x_istore {k : Nat} (hkn : k < nL) (C : z_C p s m args meth c cc nL own D cI cZ cJ ad A sc) (hd : decode cc pc = .ok (.istore k, 2)) (hK : ∀ pc lv st S P, K pc lv st S P → z_V p l e R s m args below meth c cells slots Q nL D cI cZ cJ ad A pc lv st S P) (h : z_stp G Po Px sc (.istore k) pc nx tg lv st S P K) (hn : nx = pc + 2) : z_V p l e R s m args below meth c cells slots Q nL D cI cZ cJ ad A pc lv st S P := by
  subst hn
  obtain ⟨⟨hx, hb, hml, hown, hts⟩, hinj, hAd, hA, hE, hlk, hsc⟩ := C
  simp only [z_stp] at h
  split at h
  · rename_i v r
    obtain ⟨lv1, hk1, hm⟩ := z_put_eq _ _ _ _ _ h
    intro H locs ls hP hS hl hrl hrs
    exact lv_istore hx hb hd hl hkn rfl (fun ls1 hl1 => hK _ _ _ _ _ hk1 H locs ls1 hP hS (z_lv_put1 rfl hl1 hm) (z_rl_put rfl hrl hm) (z_rs_cons.mp hrs).2)
  · exact h.elim
set_option maxHeartbeats 1000000 in
theorem z_x_lstore_n {k : Fin 4} (hkn : k.val + 1 < nL) (C : z_C p s m args meth c cc nL own D cI cZ cJ ad A sc) (hd : decode cc pc = .ok (.lstore_n k, 1)) (hK : ∀ pc lv st S P, K pc lv st S P → z_V p l e R s m args below meth c cells slots Q nL D cI cZ cJ ad A pc lv st S P) (h : z_stp G Po Px sc (.lstore_n k) pc nx tg lv st S P K) (hn : nx = pc + 1) : z_V p l e R s m args below meth c cells slots Q nL D cI cZ cJ ad A pc lv st S P := by
  subst hn
  obtain ⟨⟨hx, hb, hml, hown, hts⟩, hinj, hAd, hA, hE, hlk, hsc⟩ := C
  simp only [z_stp] at h
  split at h
  · rename_i v r
    obtain ⟨lv1, hk1, hm⟩ := z_put_eq _ _ _ _ _ h
    intro H locs ls hP hS hl hrl hrs
    exact lv_lstore_n hx hb hd rfl hl hkn rfl (fun ls1 hl1 => hK _ _ _ _ _ hk1 H locs ls1 hP hS (z_lv_put2 rfl hl1 hm) (z_rl_put rfl hrl hm) (z_rs_cons.mp hrs).2)
  · exact h.elim
set_option maxHeartbeats 1000000 in
theorem z_x_lstore {k : Nat} (hkn : k + 1 < nL) (C : z_C p s m args meth c cc nL own D cI cZ cJ ad A sc) (hd : decode cc pc = .ok (.lstore k, 2)) (hK : ∀ pc lv st S P, K pc lv st S P → z_V p l e R s m args below meth c cells slots Q nL D cI cZ cJ ad A pc lv st S P) (h : z_stp G Po Px sc (.lstore k) pc nx tg lv st S P K) (hn : nx = pc + 2) : z_V p l e R s m args below meth c cells slots Q nL D cI cZ cJ ad A pc lv st S P := by
  subst hn
  obtain ⟨⟨hx, hb, hml, hown, hts⟩, hinj, hAd, hA, hE, hlk, hsc⟩ := C
  simp only [z_stp] at h
  split at h
  · rename_i v r
    obtain ⟨lv1, hk1, hm⟩ := z_put_eq _ _ _ _ _ h
    intro H locs ls hP hS hl hrl hrs
    exact lv_lstore hx hb hd hl hkn rfl (fun ls1 hl1 => hK _ _ _ _ _ hk1 H locs ls1 hP hS (z_lv_put2 rfl hl1 hm) (z_rl_put rfl hrl hm) (z_rs_cons.mp hrs).2)
  · exact h.elim
set_option maxHeartbeats 1000000 in
theorem z_x_iinc {k : Nat} {n : Int} (hkn : k < nL) (C : z_C p s m args meth c cc nL own D cI cZ cJ ad A sc) (hd : decode cc pc = .ok (.iinc k n, 3)) (hK : ∀ pc lv st S P, K pc lv st S P → z_V p l e R s m args below meth c cells slots Q nL D cI cZ cJ ad A pc lv st S P) (h : z_stp G Po Px sc (.iinc k n) pc nx tg lv st S P K) (hn : nx = pc + 3) : z_V p l e R s m args below meth c cells slots Q nL D cI cZ cJ ad A pc lv st S P := by
  subst hn
  obtain ⟨⟨hx, hb, hml, hown, hts⟩, hinj, hAd, hA, hE, hlk, hsc⟩ := C
  simp only [z_stp] at h
  split at h
  · rename_i v hv
    obtain ⟨k0, hk0⟩ := List.getElem?_of_mem (List.mem_map.mpr ⟨(k, Value.int v), z_get_mem lv k _ hv, rfl⟩ : (k, z_tv ad (.int v)) ∈ z_tl ad lv)
    split at h
    · rename_i j
      obtain ⟨lv1, hk1, hm⟩ := z_put_eq _ _ _ _ _ h
      intro H locs ls hP hS hl hrl hrs
      exact lv_iinc (v := v + nI j) hx hb hd hl hk0 (by first | rfl | (congr 1; exact Int32.ofInt_ofNat _) | simp [nI]) hkn rfl (fun ls1 hl1 => hK _ _ _ _ _ hk1 H locs ls1 hP hS (z_lv_put1 rfl hl1 hm) (z_rl_put rfl hrl hm) hrs)
    · obtain ⟨lv1, hk1, hm⟩ := z_put_eq _ _ _ _ _ h
      intro H locs ls hP hS hl hrl hrs
      exact lv_iinc (v := v + (-1)) hx hb hd hl hk0 (by first | rfl | (congr 1)) hkn rfl (fun ls1 hl1 => hK _ _ _ _ _ hk1 H locs ls1 hP hS (z_lv_put1 rfl hl1 hm) (z_rl_put rfl hrl hm) hrs)
    · exact h.elim
  · exact h.elim
set_option maxHeartbeats 1000000 in
theorem z_x_iadd  (C : z_C p s m args meth c cc nL own D cI cZ cJ ad A sc) (hd : decode cc pc = .ok (.iadd, 1)) (hK : ∀ pc lv st S P, K pc lv st S P → z_V p l e R s m args below meth c cells slots Q nL D cI cZ cJ ad A pc lv st S P) (h : z_stp G Po Px sc (.iadd) pc nx tg lv st S P K) (hn : nx = pc + 1) : z_V p l e R s m args below meth c cells slots Q nL D cI cZ cJ ad A pc lv st S P := by
  subst hn
  obtain ⟨⟨hx, hb, hml, hown, hts⟩, hinj, hAd, hA, hE, hlk, hsc⟩ := C
  simp only [z_stp] at h
  split at h
  · intro H locs ls hP hS hl hrl hrs
    exact lv_iadd hx hb hd (hK _ _ _ _ _ h H locs ls hP hS hl hrl (by simpa [z_rs, z_rv] using hrs))
  · exact h.elim
set_option maxHeartbeats 1000000 in
theorem z_x_isub  (C : z_C p s m args meth c cc nL own D cI cZ cJ ad A sc) (hd : decode cc pc = .ok (.isub, 1)) (hK : ∀ pc lv st S P, K pc lv st S P → z_V p l e R s m args below meth c cells slots Q nL D cI cZ cJ ad A pc lv st S P) (h : z_stp G Po Px sc (.isub) pc nx tg lv st S P K) (hn : nx = pc + 1) : z_V p l e R s m args below meth c cells slots Q nL D cI cZ cJ ad A pc lv st S P := by
  subst hn
  obtain ⟨⟨hx, hb, hml, hown, hts⟩, hinj, hAd, hA, hE, hlk, hsc⟩ := C
  simp only [z_stp] at h
  split at h
  · intro H locs ls hP hS hl hrl hrs
    exact lv_isub hx hb hd (hK _ _ _ _ _ h H locs ls hP hS hl hrl (by simpa [z_rs, z_rv] using hrs))
  · exact h.elim
set_option maxHeartbeats 1000000 in
theorem z_x_imul  (C : z_C p s m args meth c cc nL own D cI cZ cJ ad A sc) (hd : decode cc pc = .ok (.imul, 1)) (hK : ∀ pc lv st S P, K pc lv st S P → z_V p l e R s m args below meth c cells slots Q nL D cI cZ cJ ad A pc lv st S P) (h : z_stp G Po Px sc (.imul) pc nx tg lv st S P K) (hn : nx = pc + 1) : z_V p l e R s m args below meth c cells slots Q nL D cI cZ cJ ad A pc lv st S P := by
  subst hn
  obtain ⟨⟨hx, hb, hml, hown, hts⟩, hinj, hAd, hA, hE, hlk, hsc⟩ := C
  simp only [z_stp] at h
  split at h
  · intro H locs ls hP hS hl hrl hrs
    exact lv_imul hx hb hd (hK _ _ _ _ _ h H locs ls hP hS hl hrl (by simpa [z_rs, z_rv] using hrs))
  · exact h.elim
set_option maxHeartbeats 1000000 in
theorem z_x_iand  (C : z_C p s m args meth c cc nL own D cI cZ cJ ad A sc) (hd : decode cc pc = .ok (.iand, 1)) (hK : ∀ pc lv st S P, K pc lv st S P → z_V p l e R s m args below meth c cells slots Q nL D cI cZ cJ ad A pc lv st S P) (h : z_stp G Po Px sc (.iand) pc nx tg lv st S P K) (hn : nx = pc + 1) : z_V p l e R s m args below meth c cells slots Q nL D cI cZ cJ ad A pc lv st S P := by
  subst hn
  obtain ⟨⟨hx, hb, hml, hown, hts⟩, hinj, hAd, hA, hE, hlk, hsc⟩ := C
  simp only [z_stp] at h
  split at h
  · intro H locs ls hP hS hl hrl hrs
    exact lv_iand hx hb hd (hK _ _ _ _ _ h H locs ls hP hS hl hrl (by simpa [z_rs, z_rv] using hrs))
  · exact h.elim
set_option maxHeartbeats 1000000 in
theorem z_x_ior  (C : z_C p s m args meth c cc nL own D cI cZ cJ ad A sc) (hd : decode cc pc = .ok (.ior, 1)) (hK : ∀ pc lv st S P, K pc lv st S P → z_V p l e R s m args below meth c cells slots Q nL D cI cZ cJ ad A pc lv st S P) (h : z_stp G Po Px sc (.ior) pc nx tg lv st S P K) (hn : nx = pc + 1) : z_V p l e R s m args below meth c cells slots Q nL D cI cZ cJ ad A pc lv st S P := by
  subst hn
  obtain ⟨⟨hx, hb, hml, hown, hts⟩, hinj, hAd, hA, hE, hlk, hsc⟩ := C
  simp only [z_stp] at h
  split at h
  · intro H locs ls hP hS hl hrl hrs
    exact lv_ior hx hb hd (hK _ _ _ _ _ h H locs ls hP hS hl hrl (by simpa [z_rs, z_rv] using hrs))
  · exact h.elim
set_option maxHeartbeats 1000000 in
theorem z_x_ixor  (C : z_C p s m args meth c cc nL own D cI cZ cJ ad A sc) (hd : decode cc pc = .ok (.ixor, 1)) (hK : ∀ pc lv st S P, K pc lv st S P → z_V p l e R s m args below meth c cells slots Q nL D cI cZ cJ ad A pc lv st S P) (h : z_stp G Po Px sc (.ixor) pc nx tg lv st S P K) (hn : nx = pc + 1) : z_V p l e R s m args below meth c cells slots Q nL D cI cZ cJ ad A pc lv st S P := by
  subst hn
  obtain ⟨⟨hx, hb, hml, hown, hts⟩, hinj, hAd, hA, hE, hlk, hsc⟩ := C
  simp only [z_stp] at h
  split at h
  · intro H locs ls hP hS hl hrl hrs
    exact lv_ixor hx hb hd (hK _ _ _ _ _ h H locs ls hP hS hl hrl (by simpa [z_rs, z_rv] using hrs))
  · exact h.elim
set_option maxHeartbeats 1000000 in
theorem z_x_ishl  (C : z_C p s m args meth c cc nL own D cI cZ cJ ad A sc) (hd : decode cc pc = .ok (.ishl, 1)) (hK : ∀ pc lv st S P, K pc lv st S P → z_V p l e R s m args below meth c cells slots Q nL D cI cZ cJ ad A pc lv st S P) (h : z_stp G Po Px sc (.ishl) pc nx tg lv st S P K) (hn : nx = pc + 1) : z_V p l e R s m args below meth c cells slots Q nL D cI cZ cJ ad A pc lv st S P := by
  subst hn
  obtain ⟨⟨hx, hb, hml, hown, hts⟩, hinj, hAd, hA, hE, hlk, hsc⟩ := C
  simp only [z_stp] at h
  split at h
  · intro H locs ls hP hS hl hrl hrs
    exact lv_ishl hx hb hd (hK _ _ _ _ _ h H locs ls hP hS hl hrl (by simpa [z_rs, z_rv] using hrs))
  · exact h.elim
set_option maxHeartbeats 1000000 in
theorem z_x_ishr  (C : z_C p s m args meth c cc nL own D cI cZ cJ ad A sc) (hd : decode cc pc = .ok (.ishr, 1)) (hK : ∀ pc lv st S P, K pc lv st S P → z_V p l e R s m args below meth c cells slots Q nL D cI cZ cJ ad A pc lv st S P) (h : z_stp G Po Px sc (.ishr) pc nx tg lv st S P K) (hn : nx = pc + 1) : z_V p l e R s m args below meth c cells slots Q nL D cI cZ cJ ad A pc lv st S P := by
  subst hn
  obtain ⟨⟨hx, hb, hml, hown, hts⟩, hinj, hAd, hA, hE, hlk, hsc⟩ := C
  simp only [z_stp] at h
  split at h
  · intro H locs ls hP hS hl hrl hrs
    exact lv_ishr hx hb hd (hK _ _ _ _ _ h H locs ls hP hS hl hrl (by simpa [z_rs, z_rv] using hrs))
  · exact h.elim
set_option maxHeartbeats 1000000 in
theorem z_x_ladd  (C : z_C p s m args meth c cc nL own D cI cZ cJ ad A sc) (hd : decode cc pc = .ok (.ladd, 1)) (hK : ∀ pc lv st S P, K pc lv st S P → z_V p l e R s m args below meth c cells slots Q nL D cI cZ cJ ad A pc lv st S P) (h : z_stp G Po Px sc (.ladd) pc nx tg lv st S P K) (hn : nx = pc + 1) : z_V p l e R s m args below meth c cells slots Q nL D cI cZ cJ ad A pc lv st S P := by
  subst hn
  obtain ⟨⟨hx, hb, hml, hown, hts⟩, hinj, hAd, hA, hE, hlk, hsc⟩ := C
  simp only [z_stp] at h
  split at h
  · intro H locs ls hP hS hl hrl hrs
    exact lv_ladd hx hb hd (hK _ _ _ _ _ h H locs ls hP hS hl hrl (by simpa [z_rs, z_rv] using hrs))
  · exact h.elim
set_option maxHeartbeats 1000000 in
theorem z_x_lsub  (C : z_C p s m args meth c cc nL own D cI cZ cJ ad A sc) (hd : decode cc pc = .ok (.lsub, 1)) (hK : ∀ pc lv st S P, K pc lv st S P → z_V p l e R s m args below meth c cells slots Q nL D cI cZ cJ ad A pc lv st S P) (h : z_stp G Po Px sc (.lsub) pc nx tg lv st S P K) (hn : nx = pc + 1) : z_V p l e R s m args below meth c cells slots Q nL D cI cZ cJ ad A pc lv st S P := by
  subst hn
  obtain ⟨⟨hx, hb, hml, hown, hts⟩, hinj, hAd, hA, hE, hlk, hsc⟩ := C
  simp only [z_stp] at h
  split at h
  · intro H locs ls hP hS hl hrl hrs
    exact lv_lsub hx hb hd (hK _ _ _ _ _ h H locs ls hP hS hl hrl (by simpa [z_rs, z_rv] using hrs))
  · exact h.elim
set_option maxHeartbeats 1000000 in
theorem z_x_lmul  (C : z_C p s m args meth c cc nL own D cI cZ cJ ad A sc) (hd : decode cc pc = .ok (.lmul, 1)) (hK : ∀ pc lv st S P, K pc lv st S P → z_V p l e R s m args below meth c cells slots Q nL D cI cZ cJ ad A pc lv st S P) (h : z_stp G Po Px sc (.lmul) pc nx tg lv st S P K) (hn : nx = pc + 1) : z_V p l e R s m args below meth c cells slots Q nL D cI cZ cJ ad A pc lv st S P := by
  subst hn
  obtain ⟨⟨hx, hb, hml, hown, hts⟩, hinj, hAd, hA, hE, hlk, hsc⟩ := C
  simp only [z_stp] at h
  split at h
  · intro H locs ls hP hS hl hrl hrs
    exact lv_lmul hx hb hd (hK _ _ _ _ _ h H locs ls hP hS hl hrl (by simpa [z_rs, z_rv] using hrs))
  · exact h.elim
set_option maxHeartbeats 1000000 in
theorem z_x_iushr  (C : z_C p s m args meth c cc nL own D cI cZ cJ ad A sc) (hd : decode cc pc = .ok (.iushr, 1)) (hK : ∀ pc lv st S P, K pc lv st S P → z_V p l e R s m args below meth c cells slots Q nL D cI cZ cJ ad A pc lv st S P) (h : z_stp G Po Px sc (.iushr) pc nx tg lv st S P K) (hn : nx = pc + 1) : z_V p l e R s m args below meth c cells slots Q nL D cI cZ cJ ad A pc lv st S P := by
  subst hn
  obtain ⟨⟨hx, hb, hml, hown, hts⟩, hinj, hAd, hA, hE, hlk, hsc⟩ := C
  simp only [z_stp] at h
  split at h
  · intro H locs ls hP hS hl hrl hrs
    exact lv_iushr hx hb hd rfl (hK _ _ _ _ _ h H locs ls hP hS hl hrl (by simpa [z_rs, z_rv] using hrs))
  · exact h.elim
set_option maxHeartbeats 1000000 in
theorem z_x_i2l  (C : z_C p s m args meth c cc nL own D cI cZ cJ ad A sc) (hd : decode cc pc = .ok (.i2l, 1)) (hK : ∀ pc lv st S P, K pc lv st S P → z_V p l e R s m args below meth c cells slots Q nL D cI cZ cJ ad A pc lv st S P) (h : z_stp G Po Px sc (.i2l) pc nx tg lv st S P K) (hn : nx = pc + 1) : z_V p l e R s m args below meth c cells slots Q nL D cI cZ cJ ad A pc lv st S P := by
  subst hn
  obtain ⟨⟨hx, hb, hml, hown, hts⟩, hinj, hAd, hA, hE, hlk, hsc⟩ := C
  simp only [z_stp] at h
  split at h
  · intro H locs ls hP hS hl hrl hrs
    exact lv_i2l hx hb hd rfl (hK _ _ _ _ _ h H locs ls hP hS hl hrl (by simpa [z_rs, z_rv] using hrs))
  · exact h.elim
set_option maxHeartbeats 1000000 in
theorem z_x_idiv  (C : z_C p s m args meth c cc nL own D cI cZ cJ ad A sc) (hd : decode cc pc = .ok (.idiv, 1)) (hK : ∀ pc lv st S P, K pc lv st S P → z_V p l e R s m args below meth c cells slots Q nL D cI cZ cJ ad A pc lv st S P) (h : z_stp G Po Px sc (.idiv) pc nx tg lv st S P K) (hn : nx = pc + 1) : z_V p l e R s m args below meth c cells slots Q nL D cI cZ cJ ad A pc lv st S P := by
  subst hn
  obtain ⟨⟨hx, hb, hml, hown, hts⟩, hinj, hAd, hA, hE, hlk, hsc⟩ := C
  simp only [z_stp] at h
  split at h
  · intro H locs ls hP hS hl hrl hrs
    exact lv_idiv hx hb hd h.1 (hK _ _ _ _ _ h.2 H locs ls hP hS hl hrl (by simpa [z_rs, z_rv] using hrs))
  · exact h.elim
set_option maxHeartbeats 1000000 in
theorem z_x_irem  (C : z_C p s m args meth c cc nL own D cI cZ cJ ad A sc) (hd : decode cc pc = .ok (.irem, 1)) (hK : ∀ pc lv st S P, K pc lv st S P → z_V p l e R s m args below meth c cells slots Q nL D cI cZ cJ ad A pc lv st S P) (h : z_stp G Po Px sc (.irem) pc nx tg lv st S P K) (hn : nx = pc + 1) : z_V p l e R s m args below meth c cells slots Q nL D cI cZ cJ ad A pc lv st S P := by
  subst hn
  obtain ⟨⟨hx, hb, hml, hown, hts⟩, hinj, hAd, hA, hE, hlk, hsc⟩ := C
  simp only [z_stp] at h
  split at h
  · intro H locs ls hP hS hl hrl hrs
    exact lv_irem hx hb hd h.1 (hK _ _ _ _ _ h.2 H locs ls hP hS hl hrl (by simpa [z_rs, z_rv] using hrs))
  · exact h.elim
set_option maxHeartbeats 1000000 in
theorem z_x_ldiv  (C : z_C p s m args meth c cc nL own D cI cZ cJ ad A sc) (hd : decode cc pc = .ok (.ldiv, 1)) (hK : ∀ pc lv st S P, K pc lv st S P → z_V p l e R s m args below meth c cells slots Q nL D cI cZ cJ ad A pc lv st S P) (h : z_stp G Po Px sc (.ldiv) pc nx tg lv st S P K) (hn : nx = pc + 1) : z_V p l e R s m args below meth c cells slots Q nL D cI cZ cJ ad A pc lv st S P := by
  subst hn
  obtain ⟨⟨hx, hb, hml, hown, hts⟩, hinj, hAd, hA, hE, hlk, hsc⟩ := C
  simp only [z_stp] at h
  split at h
  · intro H locs ls hP hS hl hrl hrs
    exact lv_ldiv hx hb hd h.1 (hK _ _ _ _ _ h.2 H locs ls hP hS hl hrl (by simpa [z_rs, z_rv] using hrs))
  · exact h.elim
set_option maxHeartbeats 1000000 in
theorem z_x_lrem  (C : z_C p s m args meth c cc nL own D cI cZ cJ ad A sc) (hd : decode cc pc = .ok (.lrem, 1)) (hK : ∀ pc lv st S P, K pc lv st S P → z_V p l e R s m args below meth c cells slots Q nL D cI cZ cJ ad A pc lv st S P) (h : z_stp G Po Px sc (.lrem) pc nx tg lv st S P K) (hn : nx = pc + 1) : z_V p l e R s m args below meth c cells slots Q nL D cI cZ cJ ad A pc lv st S P := by
  subst hn
  obtain ⟨⟨hx, hb, hml, hown, hts⟩, hinj, hAd, hA, hE, hlk, hsc⟩ := C
  simp only [z_stp] at h
  split at h
  · intro H locs ls hP hS hl hrl hrs
    exact lv_lrem hx hb hd h.1 (hK _ _ _ _ _ h.2 H locs ls hP hS hl hrl (by simpa [z_rs, z_rv] using hrs))
  · exact h.elim
set_option maxHeartbeats 1000000 in
theorem z_x_lcmp  (C : z_C p s m args meth c cc nL own D cI cZ cJ ad A sc) (hd : decode cc pc = .ok (.lcmp, 1)) (hK : ∀ pc lv st S P, K pc lv st S P → z_V p l e R s m args below meth c cells slots Q nL D cI cZ cJ ad A pc lv st S P) (h : z_stp G Po Px sc (.lcmp) pc nx tg lv st S P K) (hn : nx = pc + 1) : z_V p l e R s m args below meth c cells slots Q nL D cI cZ cJ ad A pc lv st S P := by
  subst hn
  obtain ⟨⟨hx, hb, hml, hown, hts⟩, hinj, hAd, hA, hE, hlk, hsc⟩ := C
  simp only [z_stp] at h
  split at h
  · intro H locs ls hP hS hl hrl hrs
    exact W.lcmp hx hb hd (hK _ _ _ _ _ h H locs ls hP hS hl hrl (by simpa [z_rs, z_rv] using hrs))
  · exact h.elim
theorem z_k4 {a j i : Nat} (h : a % 8 = j) (hj : j ≠ i) : a % 8 ≠ i := h ▸ hj
theorem z_c1 {v : Value} (h : z_is2 v = false) : (z_tv ad v).category = 1 := by cases v <;> first | rfl | cases h
set_option maxHeartbeats 1000000 in
theorem z_x_dup  (C : z_C p s m args meth c cc nL own D cI cZ cJ ad A sc) (hd : decode cc pc = .ok (.dup, 1)) (hK : ∀ pc lv st S P, K pc lv st S P → z_V p l e R s m args below meth c cells slots Q nL D cI cZ cJ ad A pc lv st S P) (h : z_stp G Po Px sc (.dup) pc nx tg lv st S P K) (hn : nx = pc + 1) : z_V p l e R s m args below meth c cells slots Q nL D cI cZ cJ ad A pc lv st S P := by
  subst hn
  obtain ⟨⟨hx, hb, hml, hown, hts⟩, hinj, hAd, hA, hE, hlk, hsc⟩ := C
  simp only [z_stp] at h
  split at h
  · split at h
    · rename_i h2
      intro H locs ls hP hS hl hrl hrs
      exact lv_dup hx hb hd (z_c1 h2) (hK _ _ _ _ _ h H locs ls hP hS hl hrl (by simpa [z_rs] using hrs))
    · exact h.elim
  · exact h.elim
set_option maxHeartbeats 1000000 in
theorem z_x_dup2  (C : z_C p s m args meth c cc nL own D cI cZ cJ ad A sc) (hd : decode cc pc = .ok (.dup2, 1)) (hK : ∀ pc lv st S P, K pc lv st S P → z_V p l e R s m args below meth c cells slots Q nL D cI cZ cJ ad A pc lv st S P) (h : z_stp G Po Px sc (.dup2) pc nx tg lv st S P K) (hn : nx = pc + 1) : z_V p l e R s m args below meth c cells slots Q nL D cI cZ cJ ad A pc lv st S P := by
  subst hn
  obtain ⟨⟨hx, hb, hml, hown, hts⟩, hinj, hAd, hA, hE, hlk, hsc⟩ := C
  simp only [z_stp] at h
  split at h
  · split at h
    · rename_i h2
      intro H locs ls hP hS hl hrl hrs
      rw [Bool.or_eq_false_iff] at h2
      exact lv_dup2_11 hx hb hd (z_c1 h2.1) (z_c1 h2.2) (hK _ _ _ _ _ h H locs ls hP hS hl hrl (by simp only [z_rs, List.all_cons, Bool.and_eq_true] at hrs ⊢; exact ⟨hrs.1, hrs.2.1, hrs⟩))
    · exact h.elim
  · exact h.elim
set_option maxHeartbeats 1000000 in
theorem z_x_ifCond {op : Jvm.ClassFile.Cond} {off : Int} (ht : (pc : Int) + off = (tg : Int)) (C : z_C p s m args meth c cc nL own D cI cZ cJ ad A sc) (hd : decode cc pc = .ok (.ifCond op off, 3)) (hK : ∀ pc lv st S P, K pc lv st S P → z_V p l e R s m args below meth c cells slots Q nL D cI cZ cJ ad A pc lv st S P) (h : z_stp G Po Px sc (.ifCond op off) pc nx tg lv st S P K) (hn : nx = pc + 3) : z_V p l e R s m args below meth c cells slots Q nL D cI cZ cJ ad A pc lv st S P := by
  subst hn
  obtain ⟨⟨hx, hb, hml, hown, hts⟩, hinj, hAd, hA, hE, hlk, hsc⟩ := C
  simp only [z_stp] at h
  split at h
  · cases op <;> simp only at h
    · intro H locs ls hP hS hl hrl hrs
      exact lv_if_eq hx hb hd ht (fun q => hK _ _ _ _ _ (h.1 q) H locs ls hP hS hl hrl (by simpa [z_rs, z_rv] using hrs)) (fun q => hK _ _ _ _ _ (h.2 q) H locs ls hP hS hl hrl (by simpa [z_rs, z_rv] using hrs))
    · intro H locs ls hP hS hl hrl hrs
      exact lv_if_ne hx hb hd ht (fun q => hK _ _ _ _ _ (h.1 q) H locs ls hP hS hl hrl (by simpa [z_rs, z_rv] using hrs)) (fun q => hK _ _ _ _ _ (h.2 q) H locs ls hP hS hl hrl (by simpa [z_rs, z_rv] using hrs))
    · intro H locs ls hP hS hl hrl hrs
      exact lv_if_lt hx hb hd ht (fun q => hK _ _ _ _ _ (h.1 q) H locs ls hP hS hl hrl (by simpa [z_rs, z_rv] using hrs)) (fun q => hK _ _ _ _ _ (h.2 q) H locs ls hP hS hl hrl (by simpa [z_rs, z_rv] using hrs))
    · intro H locs ls hP hS hl hrl hrs
      exact lv_if_ge hx hb hd ht (fun q => hK _ _ _ _ _ (h.1 q) H locs ls hP hS hl hrl (by simpa [z_rs, z_rv] using hrs)) (fun q => hK _ _ _ _ _ (h.2 q) H locs ls hP hS hl hrl (by simpa [z_rs, z_rv] using hrs))
    · intro H locs ls hP hS hl hrl hrs
      exact lv_if_gt hx hb hd ht (fun q => hK _ _ _ _ _ (h.1 q) H locs ls hP hS hl hrl (by simpa [z_rs, z_rv] using hrs)) (fun q => hK _ _ _ _ _ (h.2 q) H locs ls hP hS hl hrl (by simpa [z_rs, z_rv] using hrs))
    · intro H locs ls hP hS hl hrl hrs
      exact lv_if_le hx hb hd ht (fun q => hK _ _ _ _ _ (h.1 q) H locs ls hP hS hl hrl (by simpa [z_rs, z_rv] using hrs)) (fun q => hK _ _ _ _ _ (h.2 q) H locs ls hP hS hl hrl (by simpa [z_rs, z_rv] using hrs))
  · exact h.elim
set_option maxHeartbeats 1000000 in
theorem z_x_if_icmp {op : Jvm.ClassFile.Cond} {off : Int} (ht : (pc : Int) + off = (tg : Int)) (C : z_C p s m args meth c cc nL own D cI cZ cJ ad A sc) (hd : decode cc pc = .ok (.if_icmp op off, 3)) (hK : ∀ pc lv st S P, K pc lv st S P → z_V p l e R s m args below meth c cells slots Q nL D cI cZ cJ ad A pc lv st S P) (h : z_stp G Po Px sc (.if_icmp op off) pc nx tg lv st S P K) (hn : nx = pc + 3) : z_V p l e R s m args below meth c cells slots Q nL D cI cZ cJ ad A pc lv st S P := by
  subst hn
  obtain ⟨⟨hx, hb, hml, hown, hts⟩, hinj, hAd, hA, hE, hlk, hsc⟩ := C
  simp only [z_stp] at h
  split at h
  · cases op <;> simp only at h
    · intro H locs ls hP hS hl hrl hrs
      exact lv_icmp_eq hx hb hd ht (fun q => hK _ _ _ _ _ (h.1 q) H locs ls hP hS hl hrl (by simpa [z_rs, z_rv] using hrs)) (fun q => hK _ _ _ _ _ (h.2 q) H locs ls hP hS hl hrl (by simpa [z_rs, z_rv] using hrs))
    · intro H locs ls hP hS hl hrl hrs
      exact lv_icmp_ne hx hb hd ht (fun q => hK _ _ _ _ _ (h.1 q) H locs ls hP hS hl hrl (by simpa [z_rs, z_rv] using hrs)) (fun q => hK _ _ _ _ _ (h.2 q) H locs ls hP hS hl hrl (by simpa [z_rs, z_rv] using hrs))
    · intro H locs ls hP hS hl hrl hrs
      exact lv_icmp_lt hx hb hd ht (fun q => hK _ _ _ _ _ (h.1 q) H locs ls hP hS hl hrl (by simpa [z_rs, z_rv] using hrs)) (fun q => hK _ _ _ _ _ (h.2 q) H locs ls hP hS hl hrl (by simpa [z_rs, z_rv] using hrs))
    · intro H locs ls hP hS hl hrl hrs
      exact lv_icmp_ge hx hb hd ht (fun q => hK _ _ _ _ _ (h.1 q) H locs ls hP hS hl hrl (by simpa [z_rs, z_rv] using hrs)) (fun q => hK _ _ _ _ _ (h.2 q) H locs ls hP hS hl hrl (by simpa [z_rs, z_rv] using hrs))
    · intro H locs ls hP hS hl hrl hrs
      exact lv_icmp_gt hx hb hd ht (fun q => hK _ _ _ _ _ (h.1 q) H locs ls hP hS hl hrl (by simpa [z_rs, z_rv] using hrs)) (fun q => hK _ _ _ _ _ (h.2 q) H locs ls hP hS hl hrl (by simpa [z_rs, z_rv] using hrs))
    · intro H locs ls hP hS hl hrl hrs
      exact lv_icmp_le hx hb hd ht (fun q => hK _ _ _ _ _ (h.1 q) H locs ls hP hS hl hrl (by simpa [z_rs, z_rv] using hrs)) (fun q => hK _ _ _ _ _ (h.2 q) H locs ls hP hS hl hrl (by simpa [z_rs, z_rv] using hrs))
  · exact h.elim
set_option maxHeartbeats 1000000 in
theorem z_x_goto {off : Int} (ht : (pc : Int) + off = (tg : Int)) (C : z_C p s m args meth c cc nL own D cI cZ cJ ad A sc) (hd : decode cc pc = .ok (.goto off, 3)) (hK : ∀ pc lv st S P, K pc lv st S P → z_V p l e R s m args below meth c cells slots Q nL D cI cZ cJ ad A pc lv st S P) (h : z_stp G Po Px sc (.goto off) pc nx tg lv st S P K) (hn : nx = pc + 3) : z_V p l e R s m args below meth c cells slots Q nL D cI cZ cJ ad A pc lv st S P := by
  subst hn
  obtain ⟨⟨hx, hb, hml, hown, hts⟩, hinj, hAd, hA, hE, hlk, hsc⟩ := C
  simp only [z_stp] at h
  intro H locs ls hP hS hl hrl hrs
  exact lv_goto hx hb hd ht (hK _ _ _ _ _ h H locs ls hP hS hl hrl hrs)
set_option maxHeartbeats 1000000 in
theorem z_x_iaload  (C : z_C p s m args meth c cc nL own D cI cZ cJ ad A sc) (hd : decode cc pc = .ok (.iaload, 1)) (hK : ∀ pc lv st S P, K pc lv st S P → z_V p l e R s m args below meth c cells slots Q nL D cI cZ cJ ad A pc lv st S P) (h : z_stp G Po Px sc (.iaload) pc nx tg lv st S P K) (hn : nx = pc + 1) : z_V p l e R s m args below meth c cells slots Q nL D cI cZ cJ ad A pc lv st S P := by
  subst hn
  obtain ⟨⟨hx, hb, hml, hown, hts⟩, hinj, hAd, hA, hE, hlk, hsc⟩ := C
  simp only [z_stp] at h
  split at h
  · rename_i i a r
    split at h
    · rename_i hk
      intro H locs ls hP hS hl hrl hrs
      have hr2 := z_rs_cons.mp (z_rs_cons.mp hrs).2
      obtain ⟨k0, hk0, -⟩ := z_w_at (cI := cI) (cZ := cZ) (cJ := cJ) (ad := ad) (S := S) (P := P) (z_in hr2.1 (z_k4 hk (by decide)) (z_k4 hk (by decide)))
      rw [z_e1 hk] at hk0
      exact va_iald hx hb hE.1 hP k0 0 hk0 rfl h.1 hd (hK _ _ _ _ _ h.2 H locs ls hP hS hl hrl (z_rs_cons.mpr ⟨rfl, hr2.2⟩))
    · rename_i hk
      split at h
      · rename_i L f
        intro H locs ls hP hS hl hrl hrs
        have hr2 := z_rs_cons.mp (z_rs_cons.mp hrs).2
        have e := z_sc_of hr2.1 hk
        subst e
        obtain ⟨hX, hbl, hbA⟩ := hsc L f rfl
        exact va_sld hx hb hX hbl hbA hS h.1 hd (hK _ _ _ _ _ h.2 H locs ls hP hS hl hrl (z_rs_cons.mpr ⟨rfl, hr2.2⟩))
      · exact h.elim
    · rename_i hk
      intro H locs ls hP hS hl hrl hrs
      have hr2 := z_rs_cons.mp (z_rs_cons.mp hrs).2
      have e := z_wt_of hr2.1 hk
      subst e
      exact va_ti hx hb hE.2.2.2.2.2.2.1 hS h.1 rfl hd (hK _ _ _ _ _ h.2 H locs ls hP hS hl hrl (z_rs_cons.mpr ⟨rfl, hr2.2⟩))
    · exact h.elim
  · exact h.elim
set_option maxHeartbeats 1000000 in
theorem z_x_baload  (C : z_C p s m args meth c cc nL own D cI cZ cJ ad A sc) (hd : decode cc pc = .ok (.baload, 1)) (hK : ∀ pc lv st S P, K pc lv st S P → z_V p l e R s m args below meth c cells slots Q nL D cI cZ cJ ad A pc lv st S P) (h : z_stp G Po Px sc (.baload) pc nx tg lv st S P K) (hn : nx = pc + 1) : z_V p l e R s m args below meth c cells slots Q nL D cI cZ cJ ad A pc lv st S P := by
  subst hn
  obtain ⟨⟨hx, hb, hml, hown, hts⟩, hinj, hAd, hA, hE, hlk, hsc⟩ := C
  simp only [z_stp] at h
  split at h
  · rename_i i a r
    split at h
    · rename_i hk
      intro H locs ls hP hS hl hrl hrs
      have hr2 := z_rs_cons.mp (z_rs_cons.mp hrs).2
      obtain ⟨k0, hk0, -⟩ := z_w_at (cI := cI) (cZ := cZ) (cJ := cJ) (ad := ad) (S := S) (P := P) (z_in hr2.1 (z_k4 hk (by decide)) (z_k4 hk (by decide)))
      rw [z_e2 hk] at hk0
      exact va_zald hx hb hE.1 hP k0 1 hk0 rfl h.1 hd (hK _ _ _ _ _ h.2 H locs ls hP hS hl hrl (z_rs_cons.mpr ⟨rfl, hr2.2⟩))
    · exact h.elim
  · exact h.elim
set_option maxHeartbeats 1000000 in
theorem z_x_laload  (C : z_C p s m args meth c cc nL own D cI cZ cJ ad A sc) (hd : decode cc pc = .ok (.laload, 1)) (hK : ∀ pc lv st S P, K pc lv st S P → z_V p l e R s m args below meth c cells slots Q nL D cI cZ cJ ad A pc lv st S P) (h : z_stp G Po Px sc (.laload) pc nx tg lv st S P K) (hn : nx = pc + 1) : z_V p l e R s m args below meth c cells slots Q nL D cI cZ cJ ad A pc lv st S P := by
  subst hn
  obtain ⟨⟨hx, hb, hml, hown, hts⟩, hinj, hAd, hA, hE, hlk, hsc⟩ := C
  simp only [z_stp] at h
  split at h
  · rename_i i a r
    split at h
    · rename_i hk
      intro H locs ls hP hS hl hrl hrs
      have hr2 := z_rs_cons.mp (z_rs_cons.mp hrs).2
      obtain ⟨k0, hk0, -⟩ := z_w_at (cI := cI) (cZ := cZ) (cJ := cJ) (ad := ad) (S := S) (P := P) (z_in hr2.1 (z_k4 hk (by decide)) (z_k4 hk (by decide)))
      rw [z_e3 hk] at hk0
      exact va_lald hx hb hE.1 hP k0 2 hk0 rfl h.1 hd (hK _ _ _ _ _ h.2 H locs ls hP hS hl hrl (z_rs_cons.mpr ⟨rfl, hr2.2⟩))
    · exact h.elim
  · exact h.elim
set_option maxHeartbeats 1000000 in
theorem z_x_iastore  (C : z_C p s m args meth c cc nL own D cI cZ cJ ad A sc) (hd : decode cc pc = .ok (.iastore, 1)) (hK : ∀ pc lv st S P, K pc lv st S P → z_V p l e R s m args below meth c cells slots Q nL D cI cZ cJ ad A pc lv st S P) (h : z_stp G Po Px sc (.iastore) pc nx tg lv st S P K) (hn : nx = pc + 1) : z_V p l e R s m args below meth c cells slots Q nL D cI cZ cJ ad A pc lv st S P := by
  subst hn
  obtain ⟨⟨hx, hb, hml, hown, hts⟩, hinj, hAd, hA, hE, hlk, hsc⟩ := C
  simp only [z_stp] at h
  split at h
  · rename_i x i a r
    split at h
    · rename_i hk
      intro H locs ls hP hS hl hrl hrs
      have hr2 := z_rs_cons.mp (z_rs_cons.mp (z_rs_cons.mp hrs).2).2
      obtain ⟨k0, hk0, hi0⟩ := z_w_at (cI := cI) (cZ := cZ) (cJ := cJ) (ad := ad) (S := S) (P := P) (z_in hr2.1 (z_k4 hk (by decide)) (z_k4 hk (by decide)))
      rw [z_e1 hk] at hk0
      refine va_iast hx hb hE.1 hP (z_D_of hinj hAd) hS k0 0 hk0 rfl h.1 hd (fun H1 locs1 hP1 _ hS1 => hK _ _ _ _ _ h.2 H1 locs1 ls ?_ hS1 hl hrl hr2.2)
      rw [← z_w_set hi0 (fun b hb9 => z_e_neS hb9), z_e1 hk, va_up_self]
      exact hP1
    · exact h.elim
  · exact h.elim
set_option maxHeartbeats 1000000 in
theorem z_x_bastore  (C : z_C p s m args meth c cc nL own D cI cZ cJ ad A sc) (hd : decode cc pc = .ok (.bastore, 1)) (hK : ∀ pc lv st S P, K pc lv st S P → z_V p l e R s m args below meth c cells slots Q nL D cI cZ cJ ad A pc lv st S P) (h : z_stp G Po Px sc (.bastore) pc nx tg lv st S P K) (hn : nx = pc + 1) : z_V p l e R s m args below meth c cells slots Q nL D cI cZ cJ ad A pc lv st S P := by
  subst hn
  obtain ⟨⟨hx, hb, hml, hown, hts⟩, hinj, hAd, hA, hE, hlk, hsc⟩ := C
  simp only [z_stp] at h
  split at h
  · rename_i x i a r
    split at h
    · rename_i hk
      intro H locs ls hP hS hl hrl hrs
      have hr2 := z_rs_cons.mp (z_rs_cons.mp (z_rs_cons.mp hrs).2).2
      obtain ⟨k0, hk0, hi0⟩ := z_w_at (cI := cI) (cZ := cZ) (cJ := cJ) (ad := ad) (S := S) (P := P) (z_in hr2.1 (z_k4 hk (by decide)) (z_k4 hk (by decide)))
      rw [z_e2 hk] at hk0
      refine va_zast hx hb hE.1 hP (z_D_of hinj hAd) hS k0 1 hk0 rfl h.1 hd (fun H1 locs1 hP1 _ hS1 => hK _ _ _ _ _ h.2 H1 locs1 ls ?_ hS1 hl hrl hr2.2)
      rw [← z_w_set hi0 (fun b hb9 => z_e_neS hb9), z_e2 hk, va_up_self]
      exact hP1
    · exact h.elim
  · exact h.elim
set_option maxHeartbeats 1000000 in
theorem z_x_lastore  (C : z_C p s m args meth c cc nL own D cI cZ cJ ad A sc) (hd : decode cc pc = .ok (.lastore, 1)) (hK : ∀ pc lv st S P, K pc lv st S P → z_V p l e R s m args below meth c cells slots Q nL D cI cZ cJ ad A pc lv st S P) (h : z_stp G Po Px sc (.lastore) pc nx tg lv st S P K) (hn : nx = pc + 1) : z_V p l e R s m args below meth c cells slots Q nL D cI cZ cJ ad A pc lv st S P := by
  subst hn
  obtain ⟨⟨hx, hb, hml, hown, hts⟩, hinj, hAd, hA, hE, hlk, hsc⟩ := C
  simp only [z_stp] at h
  split at h
  · rename_i x i a r
    split at h
    · rename_i hk
      intro H locs ls hP hS hl hrl hrs
      have hr2 := z_rs_cons.mp (z_rs_cons.mp (z_rs_cons.mp hrs).2).2
      obtain ⟨k0, hk0, hi0⟩ := z_w_at (cI := cI) (cZ := cZ) (cJ := cJ) (ad := ad) (S := S) (P := P) (z_in hr2.1 (z_k4 hk (by decide)) (z_k4 hk (by decide)))
      rw [z_e3 hk] at hk0
      refine va_last hx hb hE.1 hP (z_D_of hinj hAd) hS k0 2 hk0 rfl h.1 hd (fun H1 locs1 hP1 _ hS1 => hK _ _ _ _ _ h.2 H1 locs1 ls ?_ hS1 hl hrl hr2.2)
      rw [← z_w_set hi0 (fun b hb9 => z_e_neP hb9), z_e3 hk, va_up_self]
      exact hP1
    · exact h.elim
  · exact h.elim
set_option maxHeartbeats 1000000 in
theorem z_x_arraylength  (C : z_C p s m args meth c cc nL own D cI cZ cJ ad A sc) (hd : decode cc pc = .ok (.arraylength, 1)) (hK : ∀ pc lv st S P, K pc lv st S P → z_V p l e R s m args below meth c cells slots Q nL D cI cZ cJ ad A pc lv st S P) (h : z_stp G Po Px sc (.arraylength) pc nx tg lv st S P K) (hn : nx = pc + 1) : z_V p l e R s m args below meth c cells slots Q nL D cI cZ cJ ad A pc lv st S P := by
  subst hn
  obtain ⟨⟨hx, hb, hml, hown, hts⟩, hinj, hAd, hA, hE, hlk, hsc⟩ := C
  simp only [z_stp] at h
  split at h
  · rename_i a r
    split at h
    · rename_i hk
      intro H locs ls hP hS hl hrl hrs
      have hr2 := z_rs_cons.mp hrs
      obtain ⟨k0, hk0, -⟩ := z_w_at (cI := cI) (cZ := cZ) (cJ := cJ) (ad := ad) (S := S) (P := P) (z_in hr2.1 (z_k4 hk (by decide)) (z_k4 hk (by decide)))
      rw [z_e1 hk] at hk0
      exact va_alen hx hb hE.1 hP k0 0 hk0 rfl rfl hd (hK _ _ _ _ _ h H locs ls hP hS hl hrl (z_rs_cons.mpr ⟨rfl, hr2.2⟩))
    · rename_i hk
      intro H locs ls hP hS hl hrl hrs
      have hr2 := z_rs_cons.mp hrs
      obtain ⟨k0, hk0, -⟩ := z_w_at (cI := cI) (cZ := cZ) (cJ := cJ) (ad := ad) (S := S) (P := P) (z_in hr2.1 (z_k4 hk (by decide)) (z_k4 hk (by decide)))
      rw [z_e2 hk] at hk0
      exact va_alen hx hb hE.1 hP k0 1 hk0 rfl rfl hd (hK _ _ _ _ _ h H locs ls hP hS hl hrl (z_rs_cons.mpr ⟨rfl, hr2.2⟩))
    · rename_i hk
      intro H locs ls hP hS hl hrl hrs
      have hr2 := z_rs_cons.mp hrs
      obtain ⟨k0, hk0, -⟩ := z_w_at (cI := cI) (cZ := cZ) (cJ := cJ) (ad := ad) (S := S) (P := P) (z_in hr2.1 (z_k4 hk (by decide)) (z_k4 hk (by decide)))
      rw [z_e3 hk] at hk0
      exact va_alen hx hb hE.1 hP k0 2 hk0 rfl rfl hd (hK _ _ _ _ _ h H locs ls hP hS hl hrl (z_rs_cons.mpr ⟨rfl, hr2.2⟩))
    · rename_i hk
      split at h
      · rename_i L f
        intro H locs ls hP hS hl hrl hrs
        have hr2 := z_rs_cons.mp hrs
        have e := z_sc_of hr2.1 hk
        subst e
        obtain ⟨hX, hbl, hbA⟩ := hsc L f rfl
        exact va_slen hx hb hX hbl hbA hS hd (hK _ _ _ _ _ h H locs ls hP hS hl hrl (z_rs_cons.mpr ⟨rfl, hr2.2⟩))
      · exact h.elim
    · rename_i hk
      intro H locs ls hP hS hl hrl hrs
      have hr2 := z_rs_cons.mp hrs
      have e := z_wt_of hr2.1 hk
      subst e
      exact va_tlen hx hb hE.2.2.2.2.2.2.1 hS rfl hd (hK _ _ _ _ _ h H locs ls hP hS hl hrl (z_rs_cons.mpr ⟨rfl, hr2.2⟩))
    · exact h.elim
  · exact h.elim
theorem z_fok_of {own : String} {i o k : Nat} {t : Option Nat} (h : z_fok own (i, o, k, t) = true) : ∃ (C : String) (T : u_T) (N : Nat), z_cl[z_n o]? = some (C, T, N) ∧ o % 8 = 0 ∧ o ∈ z_ids ∧ k < N ∧ Jvm.Cond.fieldLink own i (T k).1 (T k).2.1 (T k).2.2.1 ∈ z_T ∧ (z_fl.getD (z_n o) [])[k]? = some t ∧ (z_fl.getD (z_n o) []).length = N ∧ (∀ q, t = some q → q ∈ z_ids) ∧ (t = none → (T k).2.2.2 = false ∧ (T k).2.2.1 = "I") := by
  unfold z_fok at h
  simp only at h
  split at h
  · rename_i C T N hc
    simp only [Bool.and_eq_true, decide_eq_true_eq, beq_iff_eq, List.contains_iff_mem] at h
    obtain ⟨⟨⟨⟨⟨⟨h1, h2⟩, h3⟩, h4⟩, h5⟩, h6⟩, h7⟩ := h
    refine ⟨C, T, N, hc, h1, h2, h3, h4, h5, h7, fun q hq => ?_, fun hq => ?_⟩
    · subst hq
      simpa using h6
    · subst hq
      simpa using h6
  · cases h
theorem z_fs_n {S : z_MI} {a k : Nat} (h : (z_fl.getD (z_n a) [])[k]? = some none) : (z_fs ad S a)[k]? = some (Value.int (S a k)) := by
  unfold z_fs
  rw [List.getElem?_mapIdx, h]
  rfl
theorem z_fs_s {S : z_MI} {a k q : Nat} (h : (z_fl.getD (z_n a) [])[k]? = some (some q)) : (z_fs ad S a)[k]? = some (Value.ref (ad q)) := by
  unfold z_fs
  rw [List.getElem?_mapIdx, h]
  rfl
set_option maxHeartbeats 1000000 in
theorem z_x_getfield {i : Nat} (hfm : ∀ q ∈ z_fm G, z_fok own q = true ∨ z_sok own q = true) (C : z_C p s m args meth c cc nL own D cI cZ cJ ad A sc) (hd : decode cc pc = .ok (.getfield i, 3)) (hK : ∀ pc lv st S P, K pc lv st S P → z_V p l e R s m args below meth c cells slots Q nL D cI cZ cJ ad A pc lv st S P) (h : z_stp G Po Px sc (.getfield i) pc nx tg lv st S P K) (hn : nx = pc + 3) : z_V p l e R s m args below meth c cells slots Q nL D cI cZ cJ ad A pc lv st S P := by
  subst hn
  obtain ⟨⟨hx, hb, hml, hown, hts⟩, hinj, hAd, hA, hE, hlk, hsc⟩ := C
  simp only [z_stp] at h
  split at h
  · rename_i a r
    split at h
    · rename_i o k t hf
      split at h
      · rename_i ho
        rw [Bool.and_eq_true] at ho
        have hlo := Nat.le_of_ble_eq_true ho.2
        have ho := Nat.eq_of_beq_eq_true ho.1
        subst ho
        rcases hfm _ (z_fnd_mem _ _ _ hf) with hq | hq
        · obtain ⟨C, T, N, hc, h0, hid, hkN, hw, hfl, hln, ht, -⟩ := z_fok_of hq
          obtain ⟨k0, hk0, -⟩ := z_w_at (cI := cI) (cZ := cZ) (cJ := cJ) (ad := ad) (S := S) (P := P) hid
          rw [z_e0 h0] at hk0
          obtain ⟨hu, -⟩ := z_cl_ok _ _ hc
          cases t with
          | none =>
            simp only at h
            intro H locs ls hP hS hl hrl hrs
            exact va_get hx hb hts hu hown hE.1 hP k0 hk0 hc k hkN (hts _ hw) (fun _ h9 => h9) (z_fs_n hfl) hd (hK _ _ _ _ _ h H locs ls hP hS hl hrl (z_rs_cons.mpr ⟨rfl, (z_rs_cons.mp hrs).2⟩))
          | some q =>
            simp only at h
            intro H locs ls hP hS hl hrl hrs
            exact va_get hx hb hts hu hown hE.1 hP k0 hk0 hc k hkN (hts _ hw) (fun _ h9 => h9) (z_fs_s hfl) hd (hK _ _ _ _ _ h H locs ls hP hS hl hrl (z_rs_cons.mpr ⟨by simp [z_rv, ht q rfl], (z_rs_cons.mp hrs).2⟩))
        · exfalso
          simp only [z_sok, Bool.and_eq_true, beq_iff_eq] at hq
          rw [hq.1] at hlo
          exact absurd hlo (by decide)
      · exact h.elim
    · exact h.elim
  · exact h.elim
theorem z_fs_set {S : z_MI} {a k : Nat} {x : Int32} {v : Value} (hv : v = .int x) (h : (z_fl.getD (z_n a) [])[k]? = some none) : (z_fs ad S a).set k v = z_fs ad (va_up S a (upd (S a) k x)) a := by
  subst hv
  apply List.ext_getElem?
  intro j
  have hkl : k < (z_fl.getD (z_n a) []).length := (List.getElem?_eq_some_iff.mp h).1
  by_cases hj : j = k
  · subst hj
    rw [List.getElem?_set_self (by simpa [z_fs] using hkl), z_fs_n h, va_up_self]
    simp [upd]
  · rw [List.getElem?_set_ne (Ne.symm hj)]
    unfold z_fs
    rw [List.getElem?_mapIdx, List.getElem?_mapIdx, va_up_self]
    cases (z_fl.getD (z_n a) [])[j]? with
    | none => rfl
    | some t => cases t <;> simp [upd, hj]
set_option maxHeartbeats 1000000 in
theorem z_x_putfield {i : Nat} (hfm : ∀ q ∈ z_fm G, z_fok own q = true ∨ z_sok own q = true) (C : z_C p s m args meth c cc nL own D cI cZ cJ ad A sc) (hd : decode cc pc = .ok (.putfield i, 3)) (hK : ∀ pc lv st S P, K pc lv st S P → z_V p l e R s m args below meth c cells slots Q nL D cI cZ cJ ad A pc lv st S P) (h : z_stp G Po Px sc (.putfield i) pc nx tg lv st S P K) (hn : nx = pc + 3) : z_V p l e R s m args below meth c cells slots Q nL D cI cZ cJ ad A pc lv st S P := by
  subst hn
  obtain ⟨⟨hx, hb, hml, hown, hts⟩, hinj, hAd, hA, hE, hlk, hsc⟩ := C
  simp only [z_stp] at h
  split at h
  · rename_i x a r
    split at h
    · rename_i o k t hf
      split at h
      · rename_i ho
        rw [Bool.and_eq_true] at ho
        have hlo := Nat.le_of_ble_eq_true ho.2
        have ho := Nat.eq_of_beq_eq_true ho.1
        subst ho
        split at h
        · rcases hfm _ (z_fnd_mem _ _ _ hf) with hq | hq
          · obtain ⟨C, T, N, hc, h0, hid, hkN, hw, hfl, hln, -, ht⟩ := z_fok_of hq
            obtain ⟨k0, hk0, hi0⟩ := z_w_at (cI := cI) (cZ := cZ) (cJ := cJ) (ad := ad) (S := S) (P := P) hid
            rw [z_e0 h0] at hk0
            obtain ⟨hu, ⟨ty, hty⟩, hnm⟩ := z_cl_ok _ _ hc
            obtain ⟨hfin, hdesc⟩ := ht rfl
            intro H locs ls hP hS hl hrl hrs
            refine va_put hx hb hts hu ty hty hnm hown hE.1 hP (z_D_of hinj hAd) hS k0 hk0 hc k hkN (hts _ hw) (fun _ h9 => h9) hfin (ty := .int) (v := .int x) (by rw [hdesc]; decide +kernel) rfl rfl (by unfold z_fs; rw [List.length_mapIdx, hln]; exact hkN) hd (fun H1 locs1 hP1 _ hS1 => hK _ _ _ _ _ h H1 locs1 ls ?_ hS1 hl hrl (z_rs_cons.mp (z_rs_cons.mp hrs).2).2)
            rw [← z_w_set hi0 (fun b hb9 => z_e_neS hb9), z_e0 h0, ← z_fs_set rfl hfl]
            exact hP1
          · exfalso
            simp only [z_sok, Bool.and_eq_true, beq_iff_eq] at hq
            rw [hq.1] at hlo
            exact absurd hlo (by decide)
        · exact h.elim
      · exact h.elim
    · exact h.elim
  · exact h.elim
set_option maxHeartbeats 1000000 in
theorem z_x_getstatic {i : Nat} (hfm : ∀ q ∈ z_fm G, z_fok own q = true ∨ z_sok own q = true) (C : z_C p s m args meth c cc nL own D cI cZ cJ ad A sc) (hd : decode cc pc = .ok (.getstatic i, 3)) (hK : ∀ pc lv st S P, K pc lv st S P → z_V p l e R s m args below meth c cells slots Q nL D cI cZ cJ ad A pc lv st S P) (h : z_stp G Po Px sc (.getstatic i) pc nx tg lv st S P K) (hn : nx = pc + 3) : z_V p l e R s m args below meth c cells slots Q nL D cI cZ cJ ad A pc lv st S P := by
  subst hn
  obtain ⟨⟨hx, hb, hml, hown, hts⟩, hinj, hAd, hA, hE, hlk, hsc⟩ := C
  simp only [z_stp] at h
  split at h
  · rename_i o k t hf
    split at h
    · rename_i ho
      have ho := Nat.eq_of_beq_eq_true ho
      rcases hfm _ (z_fnd_mem _ _ _ hf) with hq | hq
      · obtain ⟨C, T, N, hc, h0, hid, -⟩ := z_fok_of hq
        rw [ho] at h0
        exact absurd h0 (by decide)
      · simp only [z_sok, Bool.and_eq_true, decide_eq_true_eq] at hq
        intro H locs ls hP hS hl hrl hrs
        exact va_gets hx hb hE.2.2.2.2.2.1 hS hown (hts _ hq.2) (fun _ h9 => h9) hd (hK _ _ _ _ _ h H locs ls hP hS hl hrl (z_rs_cons.mpr ⟨by simp [z_rv], hrs⟩))
    · exact h.elim
  · exact h.elim
theorem z_sw_at {x : Int32} {K0 : Nat → Prop} {d : Nat} : ∀ (l : List Nat) (lo j t : Nat), z_sw x K0 d lo l → l[j]? = some t → x = nI (lo + j) → K0 t
  | [], lo, j, t, h, hj, hx => by simp at hj
  | a :: l, lo, 0, t, h, hj, hx => by
    simp at hj
    subst hj
    exact h.1 hx
  | a :: l, lo, j + 1, t, h, hj, hx => z_sw_at l (lo + 1) j t h.2 (by simpa using hj) (by rw [hx]; congr 1; omega)
theorem z_sw_out {x : Int32} {K0 : Nat → Prop} {d : Nat} : ∀ (l : List Nat) (lo : Nat), z_sw x K0 d lo l → (∀ j, j < lo + l.length → x ≠ nI j) → K0 d
  | [], lo, h, hx => h (fun j hj => hx j (by simpa using hj))
  | a :: l, lo, h, hx => z_sw_out l (lo + 1) h.2 (fun j hj => hx j (by simp only [List.length_cons]; omega))
set_option maxHeartbeats 1000000 in
theorem z_x_tsw {dflt lo hi : Int} {offs : Array Int} {len : Nat} (C : z_C p s m args meth c cc nL own D cI cZ cJ ad A sc) (hd : decode cc pc = .ok (.tableswitch dflt lo hi offs, len)) (hK : ∀ pc lv st S P, K pc lv st S P → z_V p l e R s m args below meth c cells slots Q nL D cI cZ cJ ad A pc lv st S P) (h : z_stp G Po Px sc (.tableswitch dflt lo hi offs) pc nx tg lv st S P K) (h1 : (pc : Int) + dflt = (tg : Int)) (h2 : lo = 0) (h3 : hi + 1 = ((z_tg G).length : Int)) (h4 : offs.toList.map (fun o => (pc : Int) + o) = (z_tg G).map (fun (t : Nat) => (t : Int))) (h9 : (z_tg G).length ≤ 1000) : z_V p l e R s m args below meth c cells slots Q nL D cI cZ cJ ad A pc lv st S P := by
  obtain ⟨⟨hx, hb, hml, hown, hts⟩, hinj, hAd, hA, hE, hlk, hsc⟩ := C
  subst h2
  simp only [z_stp] at h
  split at h
  · rename_i x r
    intro H locs ls hP hS hl hrl hrs
    by_cases hin : 0 ≤ x.toInt ∧ x.toInt < (z_tg G).length
    · obtain ⟨g1, g2⟩ := hin
      obtain ⟨j, hj⟩ : ∃ j : Nat, x.toInt = (j : Int) := ⟨x.toInt.toNat, by omega⟩
      have hx31 := Int32.toInt_lt x
      have hxj : x = nI j := Int32.toInt_inj.mp (by rw [nI_toInt (by omega), hj])
      have hjl : j < (z_tg G).length := by omega
      have h5 : (offs.toList.map (fun o => (pc : Int) + o))[j]? = some (((z_tg G)[j] : Nat) : Int) := by
        rw [h4, List.getElem?_map, List.getElem?_eq_getElem hjl]
        rfl
      rw [List.getElem?_map] at h5
      cases ho : offs.toList[j]? with
      | none => rw [ho] at h5; cases h5
      | some off =>
        rw [ho] at h5
        have h6 : (pc : Int) + off = (((z_tg G)[j] : Nat) : Int) := Option.some.inj h5
        have h7 := z_sw_at (z_tg G) 0 j _ h (List.getElem?_eq_getElem hjl) (by rw [hxj]; congr 1; omega)
        exact lv_tableIn hx hb hd (by omega) (by omega) (by rw [← Array.getElem?_toList, show (x.toInt - 0).toNat = j by omega]; exact ho) h6 (hK _ _ _ _ _ h7 H locs ls hP hS hl hrl (z_rs_cons.mp hrs).2)
    · have h7 := z_sw_out (z_tg G) 0 h (fun j hj e => hin (by rw [e, nI_toInt (by omega)]; omega))
      exact lv_tableOut hx hb hd (by omega) h1 (hK _ _ _ _ _ h7 H locs ls hP hS hl hrl (z_rs_cons.mp hrs).2)
  · exact h.elim
end ZST
