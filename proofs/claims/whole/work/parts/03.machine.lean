/-! THE ABSTRACT MACHINE: decoded instructions over a heap of functions; addresses 0, 1, .. in the order of making; 1048576 + i: a string constant, 1048592 + i: its bytes, 1048608: the script -/
/-- (cells made, cells charged, slots charged, may make more), kinds, references, ints, longs -/
abbrev fl_H : Type := (Nat × Nat × Nat × Bool) × (Nat → Nat × Nat) × (Nat → Nat → Option Nat) × (Nat → Nat → Int32) × (Nat → Nat → Int64)
abbrev fl_L : Type := List (Option Value)
abbrev fl_O : Type := Option (Option Value) × fl_H
/-- instruction, length, a, b, c, d (resolved), place of its word, int constant, long constant, switch, what lives -/
abbrev fl_E : Type := Instr × Nat × Nat × Nat × Nat × Nat × Nat × Int32 × Int64 × List (Int32 × Nat) × Option (List Bool)
def fl_k (h : fl_H) : Nat → Nat × Nat := h.2.1
def fl_r (h : fl_H) : Nat → Nat → Option Nat := h.2.2.1
def fl_i (h : fl_H) : Nat → Nat → Int32 := h.2.2.2.1
def fl_l (h : fl_H) : Nat → Nat → Int64 := h.2.2.2.2
def fl_u {α : Type} (f : Nat → Nat → α) (a j : Nat) (x : α) : Nat → Nat → α := fun b k => if b = a ∧ k = j then x else f b k
def fl_si (h : fl_H) (a j : Nat) (x : Int32) : fl_H := (h.1, h.2.1, h.2.2.1, fl_u h.2.2.2.1 a j x, h.2.2.2.2)
def fl_sl (h : fl_H) (a j : Nat) (x : Int64) : fl_H := (h.1, h.2.1, h.2.2.1, h.2.2.2.1, fl_u h.2.2.2.2 a j x)
def fl_sr (h : fl_H) (a j : Nat) (x : Nat) : fl_H := (h.1, h.2.1, fl_u h.2.2.1 a j (some x), h.2.2.2.1, h.2.2.2.2)
/-- a new cell of a kind, n slots -/
def fl_mk (h : fl_H) (kd : Nat × Nat) (n : Nat) : fl_H := ((h.1.1 + 1, h.1.2.1 + 1, h.1.2.2.1 + n, h.1.2.2.2), (fun b => if b = h.1.1 then kd else h.2.1 b), (fun b k => if b = h.1.1 then none else h.2.2.1 b k), (fun b k => if b = h.1.1 then 0 else h.2.2.2.1 b k), (fun b k => if b = h.1.1 then 0 else h.2.2.2.2 b k))
/-- an exception was made -/
def fl_th (h : fl_H) : fl_H := ((h.1.1, h.1.2.1 + 1, h.1.2.2.1 + 6, false), h.2)
def fl_in (i : Int32) (n : Nat) : Bool := !(decide (i < 0) || decide (n ≤ i.toNatClampNeg))
def fl_get : fl_L → Nat → Option Value
  | [], _ => none
  | x :: _, 0 => x
  | _ :: l, n + 1 => fl_get l n
def fl_set : fl_L → Nat → Option Value → fl_L
  | [], 0, v => [v]
  | [], n + 1, v => none :: fl_set [] n v
  | _ :: l, 0, v => v :: l
  | x :: l, n + 1, v => x :: fl_set l n v
def fl_two : Option Value → Bool
  | some (.long _) => true
  | some (.double _) => true
  | _ => false
/-- no long stands just ahead of a place -/
def fl_nk (L : fl_L) : Nat → Bool
  | 0 => true
  | j + 1 => !(fl_two (fl_get L j))
def fl_mask : List Bool → fl_L → fl_L
  | b :: bs, v :: vs => (match b with | true => v | false => none) :: fl_mask bs vs
  | _, _ => []
def fl_args : List Value → fl_L
  | [] => []
  | v :: vs => match fl_two (some v) with
    | true => some v :: none :: fl_args vs
    | false => some v :: fl_args vs
def fl_cat : List Value → Nat
  | [] => 0
  | v :: vs => match fl_two (some v) with
    | true => fl_cat vs + 2
    | false => fl_cat vs + 1
/-- what a step comes to: next | a branch | a switch | a call | the end -/
abbrev fl_A : Type := (Nat × fl_L × List Value × fl_H) ⊕ (Bool × Nat × Nat × fl_L × List Value × fl_H) ⊕ (Int32 × List (Int32 × Nat) × Nat × fl_L × List Value × fl_H) ⊕ (Nat × List Value × Nat × fl_L × List Value × List (Int32 × Nat) × fl_H) ⊕ fl_O
def fl_nx (pc : Nat) (L : fl_L) (st : List Value) (h : fl_H) : Option (Bool × fl_A) := some (true, .inl (pc, L, st, h))
def fl_ng (g : Bool) (pc : Nat) (L : fl_L) (st : List Value) (h : fl_H) : Option (Bool × fl_A) := some (g, .inl (pc, L, st, h))
def fl_br (b : Bool) (t f : Nat) (L : fl_L) (st : List Value) (h : fl_H) : Option (Bool × fl_A) := some (true, .inr (.inl (b, t, f, L, st, h)))
def fl_dn (g : Bool) (r : Option (Option Value)) (h : fl_H) : Option (Bool × fl_A) := some (g, .inr (.inr (.inr (.inr (r, h)))))
def fl_ii (st : List Value) (k : Int32 → Int32 → List Value → Option (Bool × fl_A)) : Option (Bool × fl_A) := match st with
  | .int y :: .int x :: r => k x y r
  | _ => none
def fl_ll (st : List Value) (k : Int64 → Int64 → List Value → Option (Bool × fl_A)) : Option (Bool × fl_A) := match st with
  | .long y :: .long x :: r => k x y r
  | _ => none
def fl_li (st : List Value) (k : Int64 → Int32 → List Value → Option (Bool × fl_A)) : Option (Bool × fl_A) := match st with
  | .int y :: .long x :: r => k x y r
  | _ => none
def fl_i1 (st : List Value) (k : Int32 → List Value → Option (Bool × fl_A)) : Option (Bool × fl_A) := match st with
  | .int x :: r => k x r
  | _ => none
def fl_l1 (st : List Value) (k : Int64 → List Value → Option (Bool × fl_A)) : Option (Bool × fl_A) := match st with
  | .long x :: r => k x r
  | _ => none
def fl_r1 (st : List Value) (k : Nat → List Value → Option (Bool × fl_A)) : Option (Bool × fl_A) := match st with
  | .ref x :: r => k x r
  | _ => none
def fl_ri (st : List Value) (k : Nat → Int32 → List Value → Option (Bool × fl_A)) : Option (Bool × fl_A) := match st with
  | .int i :: .ref x :: r => k x i r
  | _ => none
def fl_rii (st : List Value) (k : Nat → Int32 → Int32 → List Value → Option (Bool × fl_A)) : Option (Bool × fl_A) := match st with
  | .int v :: .int i :: .ref x :: r => k x i v r
  | _ => none
def fl_ril (st : List Value) (k : Nat → Int32 → Int64 → List Value → Option (Bool × fl_A)) : Option (Bool × fl_A) := match st with
  | .long v :: .int i :: .ref x :: r => k x i v r
  | _ => none
def fl_rl (st : List Value) (k : Nat → Int64 → List Value → Option (Bool × fl_A)) : Option (Bool × fl_A) := match st with
  | .long v :: .ref x :: r => k x v r
  | _ => none
def fl_rr (st : List Value) (k : Nat → Nat → List Value → Option (Bool × fl_A)) : Option (Bool × fl_A) := match st with
  | .ref v :: .ref x :: r => k x v r
  | _ => none
def fl_iv (L : fl_L) (a : Nat) (k : Int32 → Option (Bool × fl_A)) : Option (Bool × fl_A) := match fl_get L a with
  | some (.int v) => k v
  | _ => none
def fl_lv (L : fl_L) (a : Nat) (k : Int64 → Option (Bool × fl_A)) : Option (Bool × fl_A) := match fl_get L a with
  | some (.long v) => k v
  | _ => none
def fl_rv (L : fl_L) (a : Nat) (k : Nat → Option (Bool × fl_A)) : Option (Bool × fl_A) := match fl_get L a with
  | some (.ref v) => k v
  | _ => none
def fl_if (c : ClassFile.Cond) (x y : Int32) : Bool := match c with
  | .eq => decide (x = y)
  | .ne => decide (¬ x = y)
  | .lt => decide (x < y)
  | .ge => decide (y ≤ x)
  | .gt => decide (y < x)
  | .le => decide (x ≤ y)
def fl_b01 (x : Int32) : Bool := decide (x = 0) || decide (x = 1)
def fl_fit (c : Nat) (v : Int32) : Bool := match c with
  | 0 => true
  | 3 => fl_b01 v
  | 4 => decide ((v.toUInt32 % 65536).toInt32 = v)
  | 5 => decide (v.toInt8.toInt32 = v)
  | _ => false
/-- arguments popped, the last one on top -/
def fl_pop : Nat → List Value → List Value → Option (List Value × List Value)
  | 0, acc, st => some (acc, st)
  | n + 1, acc, v :: st => fl_pop n (v :: acc) st
  | _ + 1, _, [] => none
/-- a call: c the kind (0 static, 1 virtual, 2 special; + 10: of a nest mate), a the method, b its arguments, d the receiver's class and 16 times the room for locals -/
def fl_call (e : fl_E) (pc : Nat) (L : fl_L) (st : List Value) (h : fl_H) : Option (Bool × fl_A) :=
  match e with
  | (_, _, a, b, c, d, _, _, _, sw, _) =>
    match fl_pop b [] st with
    | some (as, r) => some ((match c, as with
        | 0, _ => true
        | 10, _ => true
        | 1, .ref k :: _ => decide (fl_k h k = (1, d % 16))
        | 3, .ref k :: _ => decide ((fl_k h k).1 = 7)
        | 2, .ref _ :: _ => true
        | 12, .ref _ :: _ => true
        | _, _ => false) && (Nat.ble (fl_cat r) 8 && (Nat.ble (fl_cat as) (d / 16) && (match sw with
        | [] => true
        | _ :: _ => L.isEmpty))), .inr (.inr (.inr (.inl (a, as, pc + 3, L, r, sw, h)))))
    | none => none
def fl_step (e : fl_E) (pc : Nat) (L : fl_L) (st : List Value) (h : fl_H) : Option (Bool × fl_A) :=
  match e with
  | (ins, len, a, b, c, d, _, x, q, sw, _) =>
  match ins with
  | .iconst _ => fl_nx (pc + len) L (.int x :: st) h
  | .bipush _ => fl_nx (pc + len) L (.int x :: st) h
  | .sipush _ => fl_nx (pc + len) L (.int x :: st) h
  | .lconst _ => fl_nx (pc + len) L (.long q :: st) h
  | .ldc _ => match c with
    | 0 => fl_nx (pc + len) L (.int x :: st) h
    | 1 => fl_nx (pc + len) L (.ref a :: st) h
    | _ => none
  | .ldc_w _ => fl_nx (pc + len) L (.int x :: st) h
  | .ldc2_w _ => fl_nx (pc + len) L (.long q :: st) h
  | .iload _ => fl_iv L a fun v => fl_nx (pc + len) L (.int v :: st) h
  | .iload_n _ => fl_iv L a fun v => fl_nx (pc + len) L (.int v :: st) h
  | .lload _ => fl_lv L a fun v => fl_nx (pc + len) L (.long v :: st) h
  | .lload_n _ => fl_lv L a fun v => fl_nx (pc + len) L (.long v :: st) h
  | .aload _ => fl_rv L a fun v => fl_nx (pc + len) L (.ref v :: st) h
  | .aload_n _ => fl_rv L a fun v => fl_nx (pc + len) L (.ref v :: st) h
  | .istore _ => fl_i1 st fun v r => fl_ng (fl_nk L a) (pc + len) (fl_set L a (some (.int v))) r h
  | .istore_n _ => fl_i1 st fun v r => fl_ng (fl_nk L a) (pc + len) (fl_set L a (some (.int v))) r h
  | .lstore _ => fl_l1 st fun v r => fl_ng (fl_nk L a) (pc + len) (fl_set (fl_set L a (some (.long v))) (a + 1) none) r h
  | .lstore_n _ => fl_l1 st fun v r => fl_ng (fl_nk L a) (pc + len) (fl_set (fl_set L a (some (.long v))) (a + 1) none) r h
  | .astore _ => fl_r1 st fun v r => fl_ng (fl_nk L a) (pc + len) (fl_set L a (some (.ref v))) r h
  | .astore_n _ => fl_r1 st fun v r => fl_ng (fl_nk L a) (pc + len) (fl_set L a (some (.ref v))) r h
  | .iinc _ _ => fl_iv L a fun v => fl_ng (fl_nk L a) (pc + len) (fl_set L a (some (.int (v + x)))) st h
  | .iadd => fl_ii st fun x y r => fl_nx (pc + len) L (.int (x + y) :: r) h
  | .isub => fl_ii st fun x y r => fl_nx (pc + len) L (.int (x - y) :: r) h
  | .imul => fl_ii st fun x y r => fl_nx (pc + len) L (.int (x * y) :: r) h
  | .iand => fl_ii st fun x y r => fl_nx (pc + len) L (.int (x &&& y) :: r) h
  | .ior => fl_ii st fun x y r => fl_nx (pc + len) L (.int (x ||| y) :: r) h
  | .ixor => fl_ii st fun x y r => fl_nx (pc + len) L (.int (x ^^^ y) :: r) h
  | .idiv => fl_ii st fun x y r => fl_ng (decide (¬ y = 0)) (pc + len) L (.int (x / y) :: r) h
  | .irem => fl_ii st fun x y r => fl_ng (decide (¬ y = 0)) (pc + len) L (.int (x - x / y * y) :: r) h
  | .ishl => fl_ii st fun x y r => fl_nx (pc + len) L (.int (x <<< (y &&& 31)) :: r) h
  | .ishr => fl_ii st fun x y r => fl_nx (pc + len) L (.int (x >>> (y &&& 31)) :: r) h
  | .iushr => fl_ii st fun x y r => fl_nx (pc + len) L (.int (x.toUInt32 >>> (y.toUInt32 &&& Int32.toUInt32 31)).toInt32 :: r) h
  | .ladd => fl_ll st fun x y r => fl_nx (pc + len) L (.long (x + y) :: r) h
  | .lsub => fl_ll st fun x y r => fl_nx (pc + len) L (.long (x - y) :: r) h
  | .land => fl_ll st fun x y r => fl_nx (pc + len) L (.long (x &&& y) :: r) h
  | .lor => fl_ll st fun x y r => fl_nx (pc + len) L (.long (x ||| y) :: r) h
  | .lxor => fl_ll st fun x y r => fl_nx (pc + len) L (.long (x ^^^ y) :: r) h
  | .lshl => fl_li st fun x y r => fl_nx (pc + len) L (.long (x <<< (y.toInt64 &&& 63)) :: r) h
  | .lshr => fl_li st fun x y r => fl_nx (pc + len) L (.long (x >>> (y.toInt64 &&& 63)) :: r) h
  | .lushr => fl_li st fun x y r => fl_nx (pc + len) L (.long (x.toUInt64 >>> (y.toInt64.toUInt64 &&& Int64.toUInt64 63)).toInt64 :: r) h
  | .lcmp => fl_ll st fun x y r => fl_nx (pc + len) L (.int (lg_cmp x y) :: r) h
  | .i2l => fl_i1 st fun x r => fl_nx (pc + len) L (.long x.toInt64 :: r) h
  | .l2i => fl_l1 st fun x r => fl_nx (pc + len) L (.int x.toInt32 :: r) h
  | .i2c => fl_i1 st fun x r => fl_nx (pc + len) L (.int (x.toUInt32 % 65536).toInt32 :: r) h
  | .i2b => fl_i1 st fun x r => fl_nx (pc + len) L (.int x.toInt8.toInt32 :: r) h
  | .ifCond k _ => fl_i1 st fun x r => fl_br (fl_if k x 0) a (pc + len) L r h
  | .if_icmp k _ => fl_ii st fun x y r => fl_br (fl_if k x y) a (pc + len) L r h
  | .goto _ => fl_nx a L st h
  | .tableswitch _ _ _ _ => fl_i1 st fun x r => some (true, .inr (.inr (.inl (x, sw, a, L, r, h))))
  | .lookupswitch _ _ => fl_i1 st fun x r => some (true, .inr (.inr (.inl (x, sw, a, L, r, h))))
  | .getfield _ => match c with
    | 0 => fl_r1 st fun k r => fl_ng (decide (fl_k h k = (1, a))) (pc + len) L (.int (fl_i h k b) :: r) h
    | 3 => fl_r1 st fun k r => fl_ng (decide (fl_k h k = (1, a))) (pc + len) L (.int (fl_i h k b) :: r) h
    | 1 => fl_r1 st fun k r => fl_ng (decide (fl_k h k = (1, a))) (pc + len) L (.long (fl_l h k b) :: r) h
    | 2 => fl_r1 st fun k r => fl_ng (decide (fl_k h k = (1, a)) && (fl_r h k b).isSome) (pc + len) L (.ref ((fl_r h k b).getD 0) :: r) h
    | 7 => fl_r1 st fun k r => fl_ng (decide ((fl_k h k).1 = 7)) (pc + len) L (.ref (k + 16) :: r) h
    | 8 => fl_r1 st fun k r => fl_ng (decide ((fl_k h k).1 = 7)) (pc + len) L (.int 0 :: r) h
    | _ => none
  | .putfield _ => match c with
    | 0 => match st with
      | .int v :: .ref k :: r => fl_ng (decide (fl_k h k = (1, a))) (pc + len) L r (fl_si h k b v)
      | _ => none
    | 3 => match st with
      | .int v :: .ref k :: r => fl_ng (decide (fl_k h k = (1, a)) && fl_b01 v) (pc + len) L r (fl_si h k b v)
      | _ => none
    | 1 => fl_rl st fun k v r => fl_ng (decide (fl_k h k = (1, a))) (pc + len) L r (fl_sl h k b v)
    | 2 => fl_rr st fun k v r => fl_ng (decide (fl_k h k = (1, a)) && decide (v < h.1.1)) (pc + len) L r (fl_sr h k b v)
    | _ => none
  | .getstatic _ => match c with
    | 0 => fl_nx (pc + len) L (.int x :: st) h
    | 1 => fl_nx (pc + len) L (.retAddr 0 :: st) h
    | _ => none
  | .arraylength => fl_r1 st fun k r => fl_ng (decide ((fl_k h k).1 = a)) (pc + len) L (.int (Int32.ofNat (fl_k h k).2) :: r) h
  | .iaload => fl_ri st fun k i r => fl_ng (decide ((fl_k h k).1 = a) && fl_in i (fl_k h k).2) (pc + len) L (.int (fl_i h k i.toNatClampNeg) :: r) h
  | .baload => fl_ri st fun k i r => fl_ng (decide ((fl_k h k).1 = a) && fl_in i (fl_k h k).2) (pc + len) L (.int (fl_i h k i.toNatClampNeg) :: r) h
  | .laload => fl_ri st fun k i r => fl_ng (decide ((fl_k h k).1 = 3) && fl_in i (fl_k h k).2) (pc + len) L (.long (fl_l h k i.toNatClampNeg) :: r) h
  | .iastore => fl_rii st fun k i v r => fl_ng (decide ((fl_k h k).1 = 2) && fl_in i (fl_k h k).2) (pc + len) L r (fl_si h k i.toNatClampNeg v)
  | .bastore => fl_rii st fun k i v r => fl_ng (decide ((fl_k h k).1 = 4) && fl_in i (fl_k h k).2 && fl_b01 v) (pc + len) L r (fl_si h k i.toNatClampNeg v)
  | .lastore => fl_ril st fun k i v r => fl_ng (decide ((fl_k h k).1 = 3) && fl_in i (fl_k h k).2) (pc + len) L r (fl_sl h k i.toNatClampNeg v)
  | .new _ => match c with
    | 0 => fl_ng (h.1.2.2.2 && decide (h.1.1 < 1000000)) (pc + len) L (.ref h.1.1 :: st) (fl_mk h (1, a) b)
    | 1 => fl_dn (Nat.ble (fl_cat st) 8) none (fl_th h)
    | _ => none
  | .newarray _ => fl_i1 st fun n r => fl_ng (h.1.2.2.2 && decide (h.1.1 < 1000000) && decide (¬ n < 0) && decide (n.toNatClampNeg < 100000)) (pc + len) L (.ref h.1.1 :: r) (fl_mk h (a, n.toNatClampNeg) n.toNatClampNeg)
  | .dup => match st with
    | .int v :: r => fl_nx (pc + len) L (.int v :: .int v :: r) h
    | .ref v :: r => fl_nx (pc + len) L (.ref v :: .ref v :: r) h
    | _ => none
  | .dup2 => fl_ri st fun k i r => fl_nx (pc + len) L (.int i :: .ref k :: .int i :: .ref k :: r) h
  | .pop => fl_i1 st fun _ r => fl_nx (pc + len) L r h
  | .invokestatic _ => fl_call e pc L st h
  | .invokevirtual _ => fl_call e pc L st h
  | .invokespecial _ => match a with
    | 0 => fl_r1 st fun _ r => fl_ng (Nat.ble (fl_cat r) 8) (pc + len) L r h
    | _ => fl_call e pc L st h
  | .ireturn => match st with
    | [.int v] => fl_dn (fl_fit c v) (some (some (.int v))) h
    | _ => none
  | .lreturn => match st with
    | [.long v] => fl_dn true (some (some (.long v))) h
    | _ => none
  | .return_ => match st with
    | [] => fl_dn true (some none) h
    | _ => none
  | _ => none
def fl_swi {β : Type} (x : Int32) (k : Nat → β) (d : Nat) : List (Int32 × Nat) → β
  | [] => k d
  | (v, t) :: l => if x = v then k t else fl_swi x k d l
/-- behind a call -/
def fl_aft (nx : Nat → fl_L → List Value → fl_H → Option fl_O) (pc : Nat) (L : fl_L) (r : List Value) (sw : List (Int32 × Nat)) (o : Option fl_O) : Option fl_O := match o with
  | some (some v, h) => nx pc L (v.toList ++ r) h
  | some (none, h) => match sw with
    | (_, t) :: _ => nx t L [] h
    | [] => none
  | none => none
def fl_phi (nx : Nat → fl_L → List Value → fl_H → Option fl_O) (cl : Nat → List Value → fl_H → Option fl_O) (s : Option (Bool × fl_A)) : Option fl_O := match s with
  | none => none
  | some (g, x) => if g = true then (match x with
    | .inl (pc, L, st, h) => nx pc L st h
    | .inr (.inl (b, t, f, L, st, h)) => if b = true then nx t L st h else nx f L st h
    | .inr (.inr (.inl (x, sw, d, L, st, h))) => fl_swi x (fun t => nx t L st h) d sw
    | .inr (.inr (.inr (.inl (m, as, pc, L, r, sw, h)))) => fl_aft nx pc L r sw (cl m as h)
    | .inr (.inr (.inr (.inr o))) => some o) else none
section FLMACH
variable (C : Nat → Nat → Option fl_E)
def fl_lb (m pc : Nat) (L : fl_L) : fl_L := match C m pc with
  | some (_, _, _, _, _, _, _, _, _, _, some bs) => fl_mask bs L
  | _ => L
def fl_ex : Nat → Nat → Nat → fl_L → List Value → fl_H → Option fl_O
  | 0, _, _, _, _, _ => none
  | n + 1, m, pc, L, st, h => match C m pc with
    | none => none
    | some e => fl_phi (fun pc L st h => fl_ex n m pc (fl_lb C m pc L) st h) (fun m as h => fl_ex n m 0 (fl_lb C m 0 (fl_args as)) [] h) (fl_step e pc L st h)
end FLMACH
