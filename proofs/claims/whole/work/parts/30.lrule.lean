
/-! the law's loop: rules -/
def z_lG (l : Launch) (b : ByteArray) (maxL : Nat) (own : String) (d : Nat) (G : z_G) : Prop := z_cok b maxL G = true ∧ z_pok own G = true ∧ z_rt G = some .boolean ∧ z_th G = [] ∧ ∀ q ∈ z_cm G, z_CO l d own q.1 q.2.1 q.2.2
theorem z_lrule {p : Program} {l : Launch} {e : Env} {R : Room} {s : State} {m : MethodId} {args : Array Value} {below : List Frame} {meth : Method} {c : Code} {cells slots : Nat} {Q : State → Prop} {cc : ByteArray} {nL : Nat} {own : String} {D : va_G} {cI cZ cJ : ClassId} {ad : Nat → Nat} {A : Nat → Prop} {sc : Option (Nat × (Nat → Int32))} {Po : z_PO} {d : Nat}
    (C : z_C p s m args meth c cc nL own D cI cZ cJ ad A sc) (hf : d ≤ R.frames) (hlo : 28 * d ≤ R.locals) (hcl : cells ≤ R.cells) (hsl : slots ≤ R.slots)
    (hq : ∀ (pc : Nat) (H : Heap) (locs : List Loc) (ls : Array Slot) (v : Int32) (S : z_MI) (P : z_ML), decode cc pc = .ok (.ireturn, 1) → narrow .boolean (.int v) = .int v → Po (some (.int v)) S P → va_P D z_cl (z_w cI cZ cJ ad S P) H → va_S A s.heap H locs → W p l e R s m args below meth c H locs cells slots Q (F0 m pc ls [.int v]))
    (G : z_G) (hG : z_lG l cc nL own d G) (cuts : List Nat) (n pc : Nat) (lv : z_LV) (st : List Value) (S : z_MI) (P : z_ML) (h : z_wp G Po (fun _ _ _ => False) sc cuts (z_V p l e R s m args below meth c cells slots Q nL D cI cZ cJ ad A) n pc lv st S P) : z_V p l e R s m args below meth c cells slots Q nL D cI cZ cJ ad A pc lv st S P := by
  obtain ⟨hco, hpo, hrt, hth, hcm⟩ := hG
  refine z_sound (cuts := cuts) (G := G) (Po := Po) C ?_ hco hpo (fun _ _ _ _ _ h => h) n pc lv st S P h
  refine ⟨?_, ?_, ?_, ?_, ?_⟩
  · intro pc H locs ls v S P hd hv hp hP hS
    rcases hv with hv | ⟨hv, hn⟩
    · rw [hrt] at hv
      cases hv
    · exact hq pc H locs ls v S P hd hn hp hP hS
  · intro pc H locs ls v S P hd hv hp hP hS
    rw [hrt] at hv
    cases hv
  · intro pc H locs ls S P hd hv hp hP hS
    rw [hrt] at hv
    cases hv
  · intro pc E lv S P hf hp
    rw [hth] at hf
    cases hf
  · intro pc i j n sp' as' r lv S P k hd hf' hn hrr hsp' hK
    exact hcm _ (z_fnd_mem _ _ _ hf') p e _ s m _ below meth c _ _ _ cc nL D cI cZ cJ ad _ sc pc j as' r lv S P k C hf hlo hcl hsl hd hn hrr hsp' hK
theorem lg_cmp0 {x y : Int64} (h : x = y) : lg_cmp x y = 0 := by
  subst h
  unfold lg_cmp
  simp
theorem l_in {i k L : Nat} (h : i + 6 ≤ L) (hk : k < 6) (hL : L < 2 ^ 31) : vp_in (nI i + nI k) L := by
  rw [nI_add]
  exact vp_in_nI (by omega) hL

