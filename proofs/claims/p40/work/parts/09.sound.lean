
def z_lok (nL : Nat) : Instr → Bool
  | .istore_n k => decide (k.val < nL)
  | .istore k => decide (k < nL)
  | .lstore_n k => decide (k.val + 1 < nL)
  | .lstore k => decide (k + 1 < nL)
  | .iinc k _ => decide (k < nL)
  | .invokevirtual k => decide (k < 100000)
  | _ => true
def z_cok (cc : ByteArray) (nL : Nat) (G : z_G) : Bool := (z_code G).all (fun q => z_tok cc (z_tg G) q && z_lok nL q.2.1) && Nat.ble (z_tg G).length 1000
def z_pok (own : String) (G : z_G) : Bool := (z_fm G).all (fun q => z_fok own q || z_sok own q) && (z_ci G).all (fun q => decide (Jvm.Cond.constant own q.1 (nI q.2) ∈ z_T)) && (z_cL G).all (fun q => decide (Jvm.Cond.constantLong own q.1 (lN q.2) ∈ z_T))
theorem z_pop_eq : ∀ (n : Nat) (st acc : List Value) (k : List Value → List Value → Prop), z_pop n st acc k → ∃ vs r : List Value, vs.length = n ∧ st = vs ++ r ∧ k (vs.reverse ++ acc) r
  | 0, st, acc, k, h => ⟨[], st, rfl, rfl, h⟩
  | n + 1, [], acc, k, h => h.elim
  | n + 1, v :: st, acc, k, h => by
    obtain ⟨vs, r, h1, h2, h3⟩ := z_pop_eq n st (v :: acc) k h
    exact ⟨v :: vs, r, by simp [h1], by rw [h2]; rfl, by simpa using h3⟩
section ZSU
variable {p : Program} {l : Launch} {e : Env} {R : Room} {s : State} {m : MethodId} {args : Array Value} {below : List Frame} {meth : Method} {c : Code} {cells slots : Nat} {Q : State → Prop} {cc : ByteArray} {nL : Nat} {own : String} {D : va_G} {cI cZ cJ : ClassId} {ad : Nat → Nat} {A : Nat → Prop} {sc : Option (Nat × (Nat → Int32))}
variable {G : z_G} {Po : z_PO} {Px : z_PX} {K : z_KT} {pc nx tg : Nat} {lv : z_LV} {st : List Value} {S : z_MI} {P : z_ML}
theorem z_x_inv {i : Nat} (hi : i < 100000) (hd : decode cc pc = .ok (.invokevirtual i, 3)) (hH : z_H p l e R s m args below meth c cells slots Q nL D cI cZ cJ ad A cc G Po Px) (hK : ∀ pc lv st S P, K pc lv st S P → z_V p l e R s m args below meth c cells slots Q nL D cI cZ cJ ad A pc lv st S P) (h : z_stp G Po Px sc (.invokevirtual i) pc nx tg lv st S P K) (hn : nx = pc + 3) : z_V p l e R s m args below meth c cells slots Q nL D cI cZ cJ ad A pc lv st S P := by
  subst hn
  simp only [z_stp] at h
  split at h
  · rename_i n sp hf
    obtain ⟨vs, r, h1, h2, h3⟩ := z_pop_eq _ _ _ _ h
    split at h3
    · rename_i hr
      have hr := Nat.le_of_ble_eq_true hr
      rw [h2, ← List.reverse_reverse vs, ← List.append_nil vs.reverse]
      exact hH.2.2.2.2 pc i i n sp _ r lv S P _ (Or.inl ⟨hd, rfl, hi⟩) hf (by simp [h1]) hr h3 (fun v S' P' _ hk => hK _ _ _ _ _ hk)
    · exact h3.elim
  · exact h.elim
theorem z_x_ins {i : Nat} (hd : decode cc pc = .ok (.invokestatic i, 3)) (hH : z_H p l e R s m args below meth c cells slots Q nL D cI cZ cJ ad A cc G Po Px) (hK : ∀ pc lv st S P, K pc lv st S P → z_V p l e R s m args below meth c cells slots Q nL D cI cZ cJ ad A pc lv st S P) (h : z_stp G Po Px sc (.invokestatic i) pc nx tg lv st S P K) (hn : nx = pc + 3) : z_V p l e R s m args below meth c cells slots Q nL D cI cZ cJ ad A pc lv st S P := by
  subst hn
  simp only [z_stp] at h
  split at h
  · rename_i n sp hf
    obtain ⟨vs, r, h1, h2, h3⟩ := z_pop_eq _ _ _ _ h
    split at h3
    · rename_i hr
      have hr := Nat.le_of_ble_eq_true hr
      rw [h2, ← List.reverse_reverse vs, ← List.append_nil vs.reverse]
      exact hH.2.2.2.2 pc (i + 100000) i n sp _ r lv S P _ (Or.inr ⟨hd, rfl⟩) hf (by simp [h1]) hr h3 (fun v S' P' _ hk => hK _ _ _ _ _ hk)
    · exact h3.elim
  · exact h.elim
set_option maxHeartbeats 4000000 in
theorem z_step {ins : Instr} (C : z_C p s m args meth c cc nL own D cI cZ cJ ad A sc) (hH : z_H p l e R s m args below meth c cells slots Q nL D cI cZ cJ ad A cc G Po Px) (hco : z_cok cc nL G = true) (hpo : z_pok own G = true) (hm : (pc, ins, nx, tg) ∈ z_code G) (hK : ∀ pc lv st S P, K pc lv st S P → z_V p l e R s m args below meth c cells slots Q nL D cI cZ cJ ad A pc lv st S P) (h : z_stp G Po Px sc ins pc nx tg lv st S P K) : z_V p l e R s m args below meth c cells slots Q nL D cI cZ cJ ad A pc lv st S P := by
  simp only [z_cok, Bool.and_eq_true, List.all_eq_true] at hco
  obtain ⟨hco, hsl⟩ := hco
  obtain ⟨htk, hlo⟩ := hco _ hm
  simp only [z_pok, Bool.and_eq_true, List.all_eq_true, Bool.or_eq_true, decide_eq_true_eq] at hpo
  obtain ⟨⟨hfm, hci⟩, hcL⟩ := hpo
  unfold z_tok at htk
  simp only at htk
  split at htk
  · rename_i i0 n hd
    simp only [Bool.and_eq_true, Bool.or_eq_true, decide_eq_true_eq, beq_iff_eq] at htk
    obtain ⟨⟨⟨hi, hln⟩, hnx⟩, hx⟩ := htk
    subst hi
    cases i0 with

    | iadd => 
      have hln := hln.resolve_left (by simp [z_isw])
      rw [hln] at hd hnx
      exact z_x_iadd C hd hK h hnx
    | isub => 
      have hln := hln.resolve_left (by simp [z_isw])
      rw [hln] at hd hnx
      exact z_x_isub C hd hK h hnx
    | imul => 
      have hln := hln.resolve_left (by simp [z_isw])
      rw [hln] at hd hnx
      exact z_x_imul C hd hK h hnx
    | iand => 
      have hln := hln.resolve_left (by simp [z_isw])
      rw [hln] at hd hnx
      exact z_x_iand C hd hK h hnx
    | ior => 
      have hln := hln.resolve_left (by simp [z_isw])
      rw [hln] at hd hnx
      exact z_x_ior C hd hK h hnx
    | ixor => 
      have hln := hln.resolve_left (by simp [z_isw])
      rw [hln] at hd hnx
      exact z_x_ixor C hd hK h hnx
    | ishl => 
      have hln := hln.resolve_left (by simp [z_isw])
      rw [hln] at hd hnx
      exact z_x_ishl C hd hK h hnx
    | ishr => 
      have hln := hln.resolve_left (by simp [z_isw])
      rw [hln] at hd hnx
      exact z_x_ishr C hd hK h hnx
    | iushr => 
      have hln := hln.resolve_left (by simp [z_isw])
      rw [hln] at hd hnx
      exact z_x_iushr C hd hK h hnx
    | ladd => 
      have hln := hln.resolve_left (by simp [z_isw])
      rw [hln] at hd hnx
      exact z_x_ladd C hd hK h hnx
    | lsub => 
      have hln := hln.resolve_left (by simp [z_isw])
      rw [hln] at hd hnx
      exact z_x_lsub C hd hK h hnx
    | lmul => 
      have hln := hln.resolve_left (by simp [z_isw])
      rw [hln] at hd hnx
      exact z_x_lmul C hd hK h hnx
    | i2l => 
      have hln := hln.resolve_left (by simp [z_isw])
      rw [hln] at hd hnx
      exact z_x_i2l C hd hK h hnx
    | idiv => 
      have hln := hln.resolve_left (by simp [z_isw])
      rw [hln] at hd hnx
      exact z_x_idiv C hd hK h hnx
    | irem => 
      have hln := hln.resolve_left (by simp [z_isw])
      rw [hln] at hd hnx
      exact z_x_irem C hd hK h hnx
    | ldiv => 
      have hln := hln.resolve_left (by simp [z_isw])
      rw [hln] at hd hnx
      exact z_x_ldiv C hd hK h hnx
    | lrem => 
      have hln := hln.resolve_left (by simp [z_isw])
      rw [hln] at hd hnx
      exact z_x_lrem C hd hK h hnx
    | lcmp => 
      have hln := hln.resolve_left (by simp [z_isw])
      rw [hln] at hd hnx
      exact z_x_lcmp C hd hK h hnx
    | dup => 
      have hln := hln.resolve_left (by simp [z_isw])
      rw [hln] at hd hnx
      exact z_x_dup C hd hK h hnx
    | dup2 => 
      have hln := hln.resolve_left (by simp [z_isw])
      rw [hln] at hd hnx
      exact z_x_dup2 C hd hK h hnx
    | iaload => 
      have hln := hln.resolve_left (by simp [z_isw])
      rw [hln] at hd hnx
      exact z_x_iaload C hd hK h hnx
    | baload => 
      have hln := hln.resolve_left (by simp [z_isw])
      rw [hln] at hd hnx
      exact z_x_baload C hd hK h hnx
    | laload => 
      have hln := hln.resolve_left (by simp [z_isw])
      rw [hln] at hd hnx
      exact z_x_laload C hd hK h hnx
    | iastore => 
      have hln := hln.resolve_left (by simp [z_isw])
      rw [hln] at hd hnx
      exact z_x_iastore C hd hK h hnx
    | bastore => 
      have hln := hln.resolve_left (by simp [z_isw])
      rw [hln] at hd hnx
      exact z_x_bastore C hd hK h hnx
    | lastore => 
      have hln := hln.resolve_left (by simp [z_isw])
      rw [hln] at hd hnx
      exact z_x_lastore C hd hK h hnx
    | arraylength => 
      have hln := hln.resolve_left (by simp [z_isw])
      rw [hln] at hd hnx
      exact z_x_arraylength C hd hK h hnx
    | iconst n => 
      have hln := hln.resolve_left (by simp [z_isw])
      rw [hln] at hd hnx
      exact z_x_iconst C hd hK h hnx
    | bipush n => 
      have hln := hln.resolve_left (by simp [z_isw])
      rw [hln] at hd hnx
      exact z_x_bipush C hd hK h hnx
    | sipush n => 
      have hln := hln.resolve_left (by simp [z_isw])
      rw [hln] at hd hnx
      exact z_x_sipush C hd hK h hnx
    | lconst n => 
      have hln := hln.resolve_left (by simp [z_isw])
      rw [hln] at hd hnx
      exact z_x_lconst C hd hK h hnx
    | ldc i => 
      have hln := hln.resolve_left (by simp [z_isw])
      rw [hln] at hd hnx
      exact z_x_ldc hci C hd hK h hnx
    | ldc_w i => 
      have hln := hln.resolve_left (by simp [z_isw])
      rw [hln] at hd hnx
      exact z_x_ldc_w hci C hd hK h hnx
    | ldc2_w i => 
      have hln := hln.resolve_left (by simp [z_isw])
      rw [hln] at hd hnx
      exact z_x_ldc2_w hcL C hd hK h hnx
    | iload_n k => 
      have hln := hln.resolve_left (by simp [z_isw])
      rw [hln] at hd hnx
      exact z_x_iload_n C hd hK h hnx
    | iload k => 
      have hln := hln.resolve_left (by simp [z_isw])
      rw [hln] at hd hnx
      exact z_x_iload C hd hK h hnx
    | lload_n k => 
      have hln := hln.resolve_left (by simp [z_isw])
      rw [hln] at hd hnx
      exact z_x_lload_n C hd hK h hnx
    | lload k => 
      have hln := hln.resolve_left (by simp [z_isw])
      rw [hln] at hd hnx
      exact z_x_lload C hd hK h hnx
    | aload_n k => 
      have hln := hln.resolve_left (by simp [z_isw])
      rw [hln] at hd hnx
      exact z_x_aload_n C hd hK h hnx
    | aload k => 
      have hln := hln.resolve_left (by simp [z_isw])
      rw [hln] at hd hnx
      exact z_x_aload C hd hK h hnx
    | istore_n k => 
      have hln := hln.resolve_left (by simp [z_isw])
      rw [hln] at hd hnx
      exact z_x_istore_n (by simpa [z_lok] using hlo) C hd hK h hnx
    | istore k => 
      have hln := hln.resolve_left (by simp [z_isw])
      rw [hln] at hd hnx
      exact z_x_istore (by simpa [z_lok] using hlo) C hd hK h hnx
    | lstore_n k => 
      have hln := hln.resolve_left (by simp [z_isw])
      rw [hln] at hd hnx
      exact z_x_lstore_n (by simpa [z_lok] using hlo) C hd hK h hnx
    | lstore k => 
      have hln := hln.resolve_left (by simp [z_isw])
      rw [hln] at hd hnx
      exact z_x_lstore (by simpa [z_lok] using hlo) C hd hK h hnx
    | iinc k n => 
      have hln := hln.resolve_left (by simp [z_isw])
      rw [hln] at hd hnx
      exact z_x_iinc (by simpa [z_lok] using hlo) C hd hK h hnx
    | ifCond op off => 
      have hln := hln.resolve_left (by simp [z_isw])
      rw [hln] at hd hnx
      exact z_x_ifCond (by simpa using hx) C hd hK h hnx
    | if_icmp op off => 
      have hln := hln.resolve_left (by simp [z_isw])
      rw [hln] at hd hnx
      exact z_x_if_icmp (by simpa using hx) C hd hK h hnx
    | goto off => 
      have hln := hln.resolve_left (by simp [z_isw])
      rw [hln] at hd hnx
      exact z_x_goto (by simpa using hx) C hd hK h hnx
    | getfield i => 
      have hln := hln.resolve_left (by simp [z_isw])
      rw [hln] at hd hnx
      exact z_x_getfield hfm C hd hK h hnx
    | putfield i => 
      have hln := hln.resolve_left (by simp [z_isw])
      rw [hln] at hd hnx
      exact z_x_putfield hfm C hd hK h hnx
    | getstatic i => 
      have hln := hln.resolve_left (by simp [z_isw])
      rw [hln] at hd hnx
      exact z_x_getstatic hfm C hd hK h hnx
    | invokevirtual i => 
      have hln := hln.resolve_left (by simp [z_isw])
      rw [hln] at hd hnx
      exact z_x_inv (by simpa [z_lok] using hlo) hd hH hK h hnx
    | invokestatic i => 
      have hln := hln.resolve_left (by simp [z_isw])
      rw [hln] at hd hnx
      exact z_x_ins hd hH hK h hnx
    | tableswitch d lo hi offs => 
      simp only [Bool.and_eq_true, decide_eq_true_eq] at hx
      exact z_x_tsw C hd hK h hx.1.1.1 hx.1.1.2 hx.1.2 hx.2 (Nat.le_of_ble_eq_true hsl)
    | ireturn => 
      have hln := hln.resolve_left (by simp [z_isw])
      rw [hln] at hd hnx
      simp only [z_stp] at h
      split at h
      · split at h
        · rename_i hr
          intro H locs ls hP hS hl hrl hrs
          exact hH.1 pc H locs ls _ S P hd (Or.inl hr) h hP hS
        · rename_i hr
          intro H locs ls hP hS hl hrl hrs
          exact hH.1 pc H locs ls _ S P hd (Or.inr ⟨hr, h.1⟩) h.2 hP hS
        · exact h.elim
      · exact h.elim
    | lreturn => 
      have hln := hln.resolve_left (by simp [z_isw])
      rw [hln] at hd hnx
      simp only [z_stp] at h
      split at h
      · split at h
        · rename_i hr
          intro H locs ls hP hS hl hrl hrs
          exact hH.2.1 pc H locs ls _ S P hd hr h hP hS
        · exact h.elim
      · exact h.elim
    | return_ => 
      have hln := hln.resolve_left (by simp [z_isw])
      rw [hln] at hd hnx
      simp only [z_stp] at h
      split at h
      · split at h
        · rename_i hr
          intro H locs ls hP hS hl hrl hrs
          exact hH.2.2.1 pc H locs ls S P hd hr h hP hS
        · exact h.elim
      · exact h.elim
    | new i => 
      simp only [z_stp] at h
      split at h
      · split at h
        · rename_i E hf
          exact hH.2.2.2.1 pc E lv S P hf h
        · exact h.elim
      · exact h.elim
    | _ => exact h.elim
  · cases htk

theorem z_sound {cuts : List Nat} {J : z_KT} (C : z_C p s m args meth c cc nL own D cI cZ cJ ad A sc) (hH : z_H p l e R s m args below meth c cells slots Q nL D cI cZ cJ ad A cc G Po Px) (hco : z_cok cc nL G = true) (hpo : z_pok own G = true) (hJ : ∀ pc lv st S P, J pc lv st S P → z_V p l e R s m args below meth c cells slots Q nL D cI cZ cJ ad A pc lv st S P) : ∀ (n pc : Nat) (lv : z_LV) (st : List Value) (S : z_MI) (P : z_ML), z_wp G Po Px sc cuts J n pc lv st S P → z_V p l e R s m args below meth c cells slots Q nL D cI cZ cJ ad A pc lv st S P := by
  intro n
  induction n with
  | zero => intro pc lv st S P h; exact h.elim
  | succ n ih =>
    intro pc lv st S P h
    unfold z_wp at h
    split at h
    · rename_i ins nx tg hf
      refine z_step C hH hco hpo (z_fnd_mem _ _ _ hf) (fun pc lv st S P hk => ?_) h
      split at hk
      · exact hJ _ _ _ _ _ hk
      · exact ih _ _ _ _ _ hk
    · exact h.elim
end ZSU

