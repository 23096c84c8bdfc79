/-! THE PURE MACHINE. Cells by id: n*2048 + len*8 + kind; kind 0 an object (len: its class), 1 int[], 2 boolean[], 3 long[], 4 the script, 5 a static table. -/
abbrev z_LV : Type := List (Nat × Value)
abbrev z_MI : Type := Nat → Nat → Int32
abbrev z_ML : Type := Nat → Nat → Int64
abbrev z_KT : Type := Nat → z_LV → List Value → z_MI → z_ML → Prop
abbrev z_PO : Type := Option Value → z_MI → z_ML → Prop
abbrev z_PX : Type := String → z_MI → z_ML → Prop
abbrev z_SP : Type := List Value → z_MI → z_ML → z_PO → Prop
def z_n (a : Nat) : Nat := a / 8 % 256
def z_cl : List vw_C := [(RX0, TX0, 9), (RX1, TX1, 9), (RX2, TX2, 8), (RX3, TX3, 8), (RX4, TX4, 12), (RX5, TX5, 5), (RX6, TX6, 9)]
def z_ids : List Nat := [2096, 4112, 6184, 8216, 10240, 12296, 14368, 16513, 18483, 20529, 22577, 24817, 26865, 28913, 30961, 32849, 34897, 37825, 39873, 41441, 43489, 45537, 47585, 49201, 51585, 53633, 55617, 57665, 59713, 61761, 63809, 65857, 67906, 69954, 71777, 73825, 75873, 77921, 79969, 82017, 84065, 86113, 88161, 90209, 92257, 94305, 96353, 98401, 100449, 102497, 104545, 106594, 108642]
/-- an object's fields: none a number, some t a reference to the cell t -/
def z_fl : List (List (Option Nat)) := [[some 55617, some 57665, some 59713, some 61761, some 63809, some 65857, some 67906, some 69954, none],
  [some 71777, some 73825, some 75873, some 77921, some 79969, some 82017, some 84065, some 86113, none],
  [some 20529, some 22577, some 24817, some 26865, some 28913, some 30961, none, none],
  [some 41441, some 43489, some 45537, some 47585, some 49201, some 51585, some 53633, none],
  [some 88161, some 90209, some 92257, some 94305, some 96353, some 98401, some 100449, some 102497, some 104545, some 106594, some 108642, none],
  [some 32849, some 34897, some 37825, some 39873, none],
  [some 4112, some 6184, some 8216, some 10240, some 12296, some 14368, some 16513, some 18483, none]]
def z_SC : Nat := 2048004
def z_WT : Nat := 2050093

def z_get : z_LV → Nat → Option Value
  | [], _ => none
  | (j, v) :: l, i => match Nat.beq j i with
    | true => some v
    | false => z_get l i
def z_is2 : Value → Bool
  | .long _ => true
  | .double _ => true
  | _ => false
/-- storing v at i: in its place, what it clobbers goes; b: it stands already -/
def z_put (i : Nat) (v : Value) : z_LV → Bool → (z_LV → Prop) → Prop
  | [], true, k => k []
  | [], false, k => k [(i, v)]
  | (j, w) :: l, b, k => match Nat.beq j i with
    | true => match b with
      | true => z_put i v l true k
      | false => z_put i v l true (fun l' => k ((i, v) :: l'))
    | false => match (z_is2 v && Nat.beq j (i + 1)) || (z_is2 w && Nat.beq (j + 1) i) with
      | true => z_put i v l b k
      | false => z_put i v l b (fun l' => k ((j, w) :: l'))
def z_fnd {α : Type} : List (Nat × α) → Nat → Option α
  | [], _ => none
  | (j, v) :: l, i => match Nat.beq j i with
    | true => some v
    | false => z_fnd l i
def z_mem : List Nat → Nat → Bool
  | [], _ => false
  | j :: l, i => match Nat.beq j i with
    | true => true
    | false => z_mem l i
def z_pop : Nat → List Value → List Value → (List Value → List Value → Prop) → Prop
  | 0, st, acc, k => k acc st
  | _ + 1, [], _, _ => False
  | n + 1, v :: st, acc, k => z_pop n st (v :: acc) k
def z_sw (x : Int32) (K : Nat → Prop) (d : Nat) : Nat → List Nat → Prop
  | lo, [] => (∀ j, j < lo → x ≠ nI j) → K d
  | lo, t :: l => (x = nI lo → K t) ∧ z_sw x K d (lo + 1) l
/-- what a walk knows of its method: code (pc, instruction, next pc, target), fields, calls, int constants, long constants, throws, switch targets, answer's type -/
abbrev z_G : Type := List (Nat × Instr × Nat × Nat) × List (Nat × Nat × Nat × Option Nat) × List (Nat × Nat × z_SP) × List (Nat × Nat) × List (Nat × Nat) × List (Nat × String) × List Nat × Option FieldType
def z_code (G : z_G) : List (Nat × Instr × Nat × Nat) := G.1
def z_fm (G : z_G) : List (Nat × Nat × Nat × Option Nat) := G.2.1
def z_cm (G : z_G) : List (Nat × Nat × z_SP) := G.2.2.1
def z_ci (G : z_G) : List (Nat × Nat) := G.2.2.2.1
def z_cL (G : z_G) : List (Nat × Nat) := G.2.2.2.2.1
def z_th (G : z_G) : List (Nat × String) := G.2.2.2.2.2.1
def z_tg (G : z_G) : List Nat := G.2.2.2.2.2.2.1
def z_rt (G : z_G) : Option FieldType := G.2.2.2.2.2.2.2
def z_wt : Nat → Int32
  | 0 => 10
  | 1 => 15
  | 2 => 15
  | 3 => 20
  | _ => 40
def z_cs : List Value → Nat
  | [] => 0
  | v :: l => match z_is2 v with
    | true => z_cs l + 2
    | false => z_cs l + 1
/-- one instruction -/
def z_stp (G : z_G) (Po : z_PO) (Px : z_PX) (sc : Option (Nat × (Nat → Int32))) (ins : Instr) (pc nx tg : Nat) (lv : z_LV) (st : List Value) (S : z_MI) (P : z_ML) (K : z_KT) : Prop := match ins with
  | .iconst n => match n with
    | .ofNat k => K nx lv (.int (nI k) :: st) S P
    | .negSucc 0 => K nx lv (.int (-1) :: st) S P
    | .negSucc _ => False
  | .bipush n => match n with
    | .ofNat k => match Nat.ble k 127 with
      | true => K nx lv (.int (nI k) :: st) S P
      | false => False
    | .negSucc _ => False
  | .sipush n => match n with
    | .ofNat k => match Nat.ble k 32767 with
      | true => K nx lv (.int (nI k) :: st) S P
      | false => False
    | .negSucc _ => False
  | .lconst n => K nx lv (.long (lN n.val) :: st) S P
  | .ldc i => match z_fnd (z_ci G) i with
    | some v => K nx lv (.int (nI v) :: st) S P
    | none => False
  | .ldc_w i => match z_fnd (z_ci G) i with
    | some v => K nx lv (.int (nI v) :: st) S P
    | none => False
  | .ldc2_w i => match z_fnd (z_cL G) i with
    | some v => K nx lv (.long (lN v) :: st) S P
    | none => False
  | .iload_n k => match z_get lv k.val with
    | some (.int x) => K nx lv (.int x :: st) S P
    | _ => False
  | .iload k => match z_get lv k with
    | some (.int x) => K nx lv (.int x :: st) S P
    | _ => False
  | .lload_n k => match z_get lv k.val with
    | some (.long x) => K nx lv (.long x :: st) S P
    | _ => False
  | .lload k => match z_get lv k with
    | some (.long x) => K nx lv (.long x :: st) S P
    | _ => False
  | .aload_n k => match z_get lv k.val with
    | some (.ref x) => K nx lv (.ref x :: st) S P
    | _ => False
  | .aload k => match z_get lv k with
    | some (.ref x) => K nx lv (.ref x :: st) S P
    | _ => False
  | .istore_n k => match st with
    | .int x :: r => z_put k.val (.int x) lv false (fun lv' => K nx lv' r S P)
    | _ => False
  | .istore k => match st with
    | .int x :: r => z_put k (.int x) lv false (fun lv' => K nx lv' r S P)
    | _ => False
  | .lstore_n k => match st with
    | .long x :: r => z_put k.val (.long x) lv false (fun lv' => K nx lv' r S P)
    | _ => False
  | .lstore k => match st with
    | .long x :: r => z_put k (.long x) lv false (fun lv' => K nx lv' r S P)
    | _ => False
  | .iinc k n => match z_get lv k with
    | some (.int x) => match n with
      | .ofNat j => z_put k (.int (x + nI j)) lv false (fun lv' => K nx lv' st S P)
      | .negSucc 0 => z_put k (.int (x + (-1))) lv false (fun lv' => K nx lv' st S P)
      | .negSucc _ => False
    | _ => False
  | .iadd => match st with
    | .int y :: .int x :: r => K nx lv (.int (x + y) :: r) S P
    | _ => False
  | .isub => match st with
    | .int y :: .int x :: r => K nx lv (.int (x - y) :: r) S P
    | _ => False
  | .imul => match st with
    | .int y :: .int x :: r => K nx lv (.int (x * y) :: r) S P
    | _ => False
  | .iand => match st with
    | .int y :: .int x :: r => K nx lv (.int (x &&& y) :: r) S P
    | _ => False
  | .ior => match st with
    | .int y :: .int x :: r => K nx lv (.int (x ||| y) :: r) S P
    | _ => False
  | .ixor => match st with
    | .int y :: .int x :: r => K nx lv (.int (x ^^^ y) :: r) S P
    | _ => False
  | .idiv => match st with
    | .int y :: .int x :: r => ¬ y = 0 ∧ K nx lv (.int (x / y) :: r) S P
    | _ => False
  | .irem => match st with
    | .int y :: .int x :: r => ¬ y = 0 ∧ K nx lv (.int (x - x / y * y) :: r) S P
    | _ => False
  | .ishl => match st with
    | .int y :: .int x :: r => K nx lv (.int (x <<< (y &&& 31)) :: r) S P
    | _ => False
  | .ishr => match st with
    | .int y :: .int x :: r => K nx lv (.int (x >>> (y &&& 31)) :: r) S P
    | _ => False
  | .iushr => match st with
    | .int y :: .int x :: r => K nx lv (.int ((x.toUInt32 >>> (y.toUInt32 &&& Int32.toUInt32 31)).toInt32) :: r) S P
    | _ => False
  | .ladd => match st with
    | .long y :: .long x :: r => K nx lv (.long (x + y) :: r) S P
    | _ => False
  | .lsub => match st with
    | .long y :: .long x :: r => K nx lv (.long (x - y) :: r) S P
    | _ => False
  | .lmul => match st with
    | .long y :: .long x :: r => K nx lv (.long (x * y) :: r) S P
    | _ => False
  | .ldiv => match st with
    | .long y :: .long x :: r => ¬ y = 0 ∧ K nx lv (.long (x / y) :: r) S P
    | _ => False
  | .lrem => match st with
    | .long y :: .long x :: r => ¬ y = 0 ∧ K nx lv (.long (x - x / y * y) :: r) S P
    | _ => False
  | .lcmp => match st with
    | .long y :: .long x :: r => K nx lv (.int (lg_cmp x y) :: r) S P
    | _ => False
  | .i2l => match st with
    | .int x :: r => K nx lv (.long x.toInt64 :: r) S P
    | _ => False
  | .dup => match st with
    | v :: r => match z_is2 v with
      | false => K nx lv (v :: v :: r) S P
      | true => False
    | _ => False
  | .dup2 => match st with
    | v :: u :: r => match z_is2 v || z_is2 u with
      | false => K nx lv (v :: u :: v :: u :: r) S P
      | true => False
    | _ => False
  | .ifCond op _ => match st with
    | .int x :: r => match op with
      | .eq => (x = 0 → K tg lv r S P) ∧ (¬ x = 0 → K nx lv r S P)
      | .ne => (¬ x = 0 → K tg lv r S P) ∧ (x = 0 → K nx lv r S P)
      | .lt => (x < 0 → K tg lv r S P) ∧ (¬ x < 0 → K nx lv r S P)
      | .ge => (0 ≤ x → K tg lv r S P) ∧ (¬ 0 ≤ x → K nx lv r S P)
      | .gt => (0 < x → K tg lv r S P) ∧ (¬ 0 < x → K nx lv r S P)
      | .le => (x ≤ 0 → K tg lv r S P) ∧ (¬ x ≤ 0 → K nx lv r S P)
    | _ => False
  | .if_icmp op _ => match st with
    | .int y :: .int x :: r => match op with
      | .eq => (x = y → K tg lv r S P) ∧ (¬ x = y → K nx lv r S P)
      | .ne => (¬ x = y → K tg lv r S P) ∧ (x = y → K nx lv r S P)
      | .lt => (x < y → K tg lv r S P) ∧ (¬ x < y → K nx lv r S P)
      | .ge => (y ≤ x → K tg lv r S P) ∧ (¬ y ≤ x → K nx lv r S P)
      | .gt => (y < x → K tg lv r S P) ∧ (¬ y < x → K nx lv r S P)
      | .le => (x ≤ y → K tg lv r S P) ∧ (¬ x ≤ y → K nx lv r S P)
    | _ => False
  | .goto _ => K tg lv st S P
  | .tableswitch _ _ _ _ => match st with
    | .int x :: r => z_sw x (fun t => K t lv r S P) tg 0 (z_tg G)
    | _ => False
  | .iaload => match st with
    | .int i :: .ref a :: r => match a % 8 with
      | 1 => vp_in i (z_n a) ∧ K nx lv (.int (S a i.toNatClampNeg) :: r) S P
      | 4 => match sc with
        | some (L, f) => vp_in i L ∧ K nx lv (.int (f i.toNatClampNeg) :: r) S P
        | none => False
      | 5 => vp_in i 5 ∧ K nx lv (.int (z_wt i.toNatClampNeg) :: r) S P
      | _ => False
    | _ => False
  | .baload => match st with
    | .int i :: .ref a :: r => match a % 8 with
      | 2 => vp_in i (z_n a) ∧ K nx lv (.int (S a i.toNatClampNeg) :: r) S P
      | _ => False
    | _ => False
  | .laload => match st with
    | .int i :: .ref a :: r => match a % 8 with
      | 3 => vp_in i (z_n a) ∧ K nx lv (.long (P a i.toNatClampNeg) :: r) S P
      | _ => False
    | _ => False
  | .iastore => match st with
    | .int x :: .int i :: .ref a :: r => match a % 8 with
      | 1 => vp_in i (z_n a) ∧ K nx lv r (va_up S a (upd (S a) i.toNatClampNeg x)) P
      | _ => False
    | _ => False
  | .bastore => match st with
    | .int x :: .int i :: .ref a :: r => match a % 8 with
      | 2 => vp_in i (z_n a) ∧ K nx lv r (va_up S a (upd (S a) i.toNatClampNeg (vp_nar .boolean x))) P
      | _ => False
    | _ => False
  | .lastore => match st with
    | .long x :: .int i :: .ref a :: r => match a % 8 with
      | 3 => vp_in i (z_n a) ∧ K nx lv r S (va_up P a (vp_updL (P a) i.toNatClampNeg x))
      | _ => False
    | _ => False
  | .arraylength => match st with
    | .ref a :: r => match a % 8 with
      | 1 => K nx lv (.int (nI (z_n a)) :: r) S P
      | 2 => K nx lv (.int (nI (z_n a)) :: r) S P
      | 3 => K nx lv (.int (nI (z_n a)) :: r) S P
      | 4 => match sc with
        | some (L, _) => K nx lv (.int (nI L) :: r) S P
        | none => False
      | 5 => K nx lv (.int (nI 5) :: r) S P
      | _ => False
    | _ => False
  | .getfield i => match st with
    | .ref a :: r => match z_fnd (z_fm G) i with
      | some (o, k, t) => match Nat.beq a o && Nat.blt o 1000000 with
        | true => match t with
          | none => K nx lv (.int (S o k) :: r) S P
          | some q => K nx lv (.ref q :: r) S P
        | false => False
      | none => False
    | _ => False
  | .putfield i => match st with
    | .int x :: .ref a :: r => match z_fnd (z_fm G) i with
      | some (o, k, t) => match Nat.beq a o && Nat.blt o 1000000 with
        | true => match t with
          | none => K nx lv r (va_up S o (upd (S o) k x)) P
          | some _ => False
        | false => False
      | none => False
    | _ => False
  | .getstatic i => match z_fnd (z_fm G) i with
    | some (o, _, _) => match Nat.beq o z_WT with
      | true => K nx lv (.ref z_WT :: st) S P
      | false => False
    | none => False
  | .invokevirtual i => match z_fnd (z_cm G) i with
    | some (n, sp) => z_pop n st [] (fun as r => match Nat.ble (z_cs r) 8 with
      | true => sp as S P (fun v S' P' => K nx lv (v.toList ++ r) S' P')
      | false => False)
    | none => False
  | .invokestatic i => match z_fnd (z_cm G) (i + 100000) with
    | some (n, sp) => z_pop n st [] (fun as r => match Nat.ble (z_cs r) 8 with
      | true => sp as S P (fun v S' P' => K nx lv (v.toList ++ r) S' P')
      | false => False)
    | none => False
  | .ireturn => match st with
    | [.int v] => match z_rt G with
      | some .int => Po (some (.int v)) S P
      | some .boolean => narrow .boolean (.int v) = .int v ∧ Po (some (.int v)) S P
      | _ => False
    | _ => False
  | .lreturn => match st with
    | [.long v] => match z_rt G with
      | some .long => Po (some (.long v)) S P
      | _ => False
    | _ => False
  | .return_ => match st with
    | [] => match z_rt G with
      | none => Po none S P
      | _ => False
    | _ => False
  | .new _ => match st with
    | [] => match z_fnd (z_th G) pc with
      | some E => Px E S P
      | none => False
    | _ => False
  | _ => False
/-- a walk of at most n instructions, up to the places 'cuts', where J is owed -/
def z_wp (G : z_G) (Po : z_PO) (Px : z_PX) (sc : Option (Nat × (Nat → Int32))) (cuts : List Nat) (J : z_KT) : Nat → z_KT
  | 0 => fun _ _ _ _ _ => False
  | n + 1 => fun pc lv st S P => match z_fnd (z_code G) pc with
    | some (ins, nx, tg) => z_stp G Po Px sc ins pc nx tg lv st S P (fun pc' lv' st' S' P' => match z_mem cuts pc' with
      | true => J pc' lv' st' S' P'
      | false => z_wp G Po Px sc cuts J n pc' lv' st' S' P')
    | none => False

