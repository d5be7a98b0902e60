/-! THE SMALL MACHINE: numbers are Int, memory is a row of shapes, a function of references and a function of numbers -/
abbrev mx_V : Type := Int ⊕ Int ⊕ Int
abbrev mx_L : Type := List (Option mx_V)
abbrev mx_M : Type := List (Nat × Nat) × (Int → Int → Int) × (Int → Int → Int) × Nat × Nat
abbrev mx_C : Type := Nat × mx_L × List mx_V × mx_M
abbrev mx_Q : Type := Option mx_V → mx_M → Prop
def mx_up (S : Int → Int → Int) (a i v : Int) : Int → Int → Int := fun b j => if b = a ∧ j = i then v else S b j
def mx_cp (S : Int → Int → Int) (a i b j n : Int) : Int → Int → Int := fun x y => if x = b ∧ j ≤ y ∧ y < j + n then S a (i + (y - j)) else S x y
def mx_zr (S : Int → Int → Int) (a z : Int) : Int → Int → Int := fun b j => if a ≤ b then z else S b j
def mx_shp (m : mx_M) (a : Int) : Nat × Nat := match a with
  | .ofNat k => m.1.getD k (99, 0)
  | .negSucc _ => (99, 0)
def mx_and (a b : Int) : Int := (Int32.ofInt a &&& Int32.ofInt b).toInt
def mx_or (a b : Int) : Int := (Int32.ofInt a ||| Int32.ofInt b).toInt
def mx_xor (a b : Int) : Int := (Int32.ofInt a ^^^ Int32.ofInt b).toInt
def mx_shl (a b : Int) : Int := (Int32.ofInt a <<< (Int32.ofInt b &&& 31)).toInt
def mx_shr (a b : Int) : Int := (Int32.ofInt a >>> (Int32.ofInt b &&& 31)).toInt
def mx_ushr (a b : Int) : Int := ((Int32.ofInt a).toUInt32 >>> ((Int32.ofInt b).toUInt32 &&& Int32.toUInt32 31)).toInt32.toInt
def mx_i2b (a : Int) : Int := (Int32.ofInt a).toInt8.toInt32.toInt
def mx_i2s (a : Int) : Int := (Int32.ofInt a).toInt16.toInt32.toInt
def mx_cmp (a b : Int) : Int := if a < b then -1 else if a = b then 0 else 1
def mx_min (a b : Int) : Int := if b < a then b else a
def mx_max (a b : Int) : Int := if a < b then b else a
def mx_rel : ClassFile.Cond → Int → Int → Prop
  | .eq, a, b => a = b
  | .ne, a, b => a ≠ b
  | .lt, a, b => a < b
  | .ge, a, b => b ≤ a
  | .gt, a, b => b < a
  | .le, a, b => a ≤ b
def mx_nrel : ClassFile.Cond → Int → Int → Prop
  | .eq, a, b => a ≠ b
  | .ne, a, b => a = b
  | .lt, a, b => b ≤ a
  | .ge, a, b => a < b
  | .gt, a, b => a ≤ b
  | .le, a, b => b < a
def mx_cat : mx_V → Nat
  | .inr (.inl _) => 2
  | _ => 1
/-- is the place below a long's first half -/
def mx_lg (ls : mx_L) : Nat → Bool
  | 0 => false
  | j + 1 => match ls.getD j none with
    | some (.inr (.inl _)) => true
    | _ => false
def mx_no (c : mx_C) : Option Prop × mx_C := (some False, c)
def mx_go (c : mx_C) (n : Nat) (st : List mx_V) : Option Prop × mx_C := (none, (c.1 + n, c.2.1, st, c.2.2.2))
def mx_go' (p : Prop) (c : mx_C) (n : Nat) (st : List mx_V) : Option Prop × mx_C := (some p, (c.1 + n, c.2.1, st, c.2.2.2))
def mx_bin (c : mx_C) (n : Nat) (f : Int → Int → Int) : Option Prop × mx_C := match c.2.2.1 with
  | .inl b :: .inl a :: r => mx_go c n (.inl (f a b) :: r)
  | _ => mx_no c
def mx_binp (c : mx_C) (n : Nat) (p : Int → Int → Prop) (f : Int → Int → Int) : Option Prop × mx_C := match c.2.2.1 with
  | .inl b :: .inl a :: r => mx_go' (p a b) c n (.inl (f a b) :: r)
  | _ => mx_no c
def mx_lin (c : mx_C) (n : Nat) (f : Int → Int → Int) : Option Prop × mx_C := match c.2.2.1 with
  | .inr (.inl b) :: .inr (.inl a) :: r => mx_go c n (.inr (.inl (f a b)) :: r)
  | _ => mx_no c
def mx_linp (c : mx_C) (n : Nat) (p : Int → Int → Prop) (f : Int → Int → Int) : Option Prop × mx_C := match c.2.2.1 with
  | .inr (.inl b) :: .inr (.inl a) :: r => mx_go' (p a b) c n (.inr (.inl (f a b)) :: r)
  | _ => mx_no c
def mx_fty (q : Nat) : Nat := q % 4
def mx_nf (k : Nat) : Nat := (mx_ft.getD k []).length
/-- memory with one shape more, its places null and 0 -/
def mx_new (m : mx_M) (x : List (Nat × Nat)) (c s : Nat) : mx_M := (m.1 ++ x, mx_zr m.2.1 m.1.length (-1), mx_zr m.2.2.1 m.1.length 0, m.2.2.2.1 - c, m.2.2.2.2 - s)
def mx_elk (kd : Nat) : Nat := if kd = 103 then 5 else 3
def mx_nx (ai : Instr) (n : Nat) (z : Int) (h : Nat) (c : mx_C) : Option Prop × mx_C := match ai with
  | .iconst v => mx_go c n (.inl v :: c.2.2.1)
  | .sipush v => mx_go c n (.inr (.inl v) :: c.2.2.1)
  | .ldc j => mx_go c n (.inr (.inr (-3 - (j : Int))) :: c.2.2.1)
  | .iload k => (match c.2.1.getD k none with
    | some (.inl e) => mx_go c n (.inl e :: c.2.2.1)
    | _ => mx_no c)
  | .lload k => (match c.2.1.getD k none with
    | some (.inr (.inl e)) => mx_go c n (.inr (.inl e) :: c.2.2.1)
    | _ => mx_no c)
  | .aload k => (match c.2.1.getD k none with
    | some (.inr (.inr e)) => mx_go c n (.inr (.inr e) :: c.2.2.1)
    | _ => mx_no c)
  | .istore k => (match c.2.2.1 with
    | .inl e :: r => bif !mx_lg c.2.1 k && Nat.blt k c.2.1.length then (none, (c.1 + n, c.2.1.set k (some (.inl e)), r, c.2.2.2)) else mx_no c
    | _ => mx_no c)
  | .astore k => (match c.2.2.1 with
    | .inr (.inr e) :: r => bif !mx_lg c.2.1 k && Nat.blt k c.2.1.length then (none, (c.1 + n, c.2.1.set k (some (.inr (.inr e))), r, c.2.2.2)) else mx_no c
    | _ => mx_no c)
  | .lstore k => (match c.2.2.1 with
    | .inr (.inl e) :: r => bif !mx_lg c.2.1 k && Nat.blt (k + 1) c.2.1.length then (none, (c.1 + n, (c.2.1.set k (some (.inr (.inl e)))).set (k + 1) none, r, c.2.2.2)) else mx_no c
    | _ => mx_no c)
  | .iinc k d => (match c.2.1.getD k none with
    | some (.inl e) => bif !mx_lg c.2.1 k && Nat.blt k c.2.1.length then (none, (c.1 + n, c.2.1.set k (some (.inl (e + d))), c.2.2.1, c.2.2.2)) else mx_no c
    | _ => mx_no c)
  | .iadd => mx_bin c n (fun a b => a + b)
  | .isub => mx_bin c n (fun a b => a - b)
  | .imul => mx_bin c n (fun a b => a * b)
  | .iand => mx_bin c n mx_and
  | .ior => mx_bin c n mx_or
  | .ixor => mx_bin c n mx_xor
  | .ishl => mx_bin c n mx_shl
  | .ishr => mx_bin c n mx_shr
  | .iushr => mx_bin c n mx_ushr
  | .idiv => mx_binp c n (fun a b => (0 ≤ a ∧ a < 2147483648) ∧ 0 < b ∧ b < 2147483648) (fun a b => a / b)
  | .irem => mx_binp c n (fun a b => (0 ≤ a ∧ a < 2147483648) ∧ 0 < b ∧ b < 2147483648) (fun a b => a % b)
  | .ladd => mx_lin c n (fun a b => a + b)
  | .lsub => mx_lin c n (fun a b => a - b)
  | .lmul => mx_lin c n (fun a b => a * b)
  | .ldiv => mx_linp c n (fun a b => (0 ≤ a ∧ a < 9223372036854775808) ∧ 0 < b ∧ b < 9223372036854775808) (fun a b => a / b)
  | .lrem => mx_linp c n (fun a b => (0 ≤ a ∧ a < 9223372036854775808) ∧ 0 < b ∧ b < 9223372036854775808) (fun a b => a % b)
  | .lcmp => (match c.2.2.1 with
    | .inr (.inl b) :: .inr (.inl a) :: r => mx_go' ((-9223372036854775808 ≤ a ∧ a < 9223372036854775808) ∧ -9223372036854775808 ≤ b ∧ b < 9223372036854775808) c n (.inl (mx_cmp a b) :: r)
    | _ => mx_no c)
  | .i2l => (match c.2.2.1 with
    | .inl a :: r => mx_go' (-2147483648 ≤ a ∧ a < 2147483648) c n (.inr (.inl a) :: r)
    | _ => mx_no c)
  | .l2i => (match c.2.2.1 with
    | .inr (.inl a) :: r => mx_go c n (.inl a :: r)
    | _ => mx_no c)
  | .i2b => (match c.2.2.1 with
    | .inl a :: r => mx_go c n (.inl (mx_i2b a) :: r)
    | _ => mx_no c)
  | .i2s => (match c.2.2.1 with
    | .inl a :: r => mx_go c n (.inl (mx_i2s a) :: r)
    | _ => mx_no c)
  | .dup => (match c.2.2.1 with
    | .inr (.inl _) :: _ => mx_no c
    | v :: r => mx_go c n (v :: v :: r)
    | _ => mx_no c)
  | .dup2 => (match c.2.2.1 with
    | .inr (.inl _) :: _ => mx_no c
    | _ :: .inr (.inl _) :: _ => mx_no c
    | v :: w :: r => mx_go c n (v :: w :: v :: w :: r)
    | _ => mx_no c)
  | .pop => (match c.2.2.1 with
    | .inr (.inl _) :: _ => mx_no c
    | _ :: r => mx_go c n r
    | _ => mx_no c)
  | .if_icmp k t => (match c.2.2.1 with
    | .inl b :: .inl a :: r => bif Nat.beq h 1 then (some (((-2147483648 ≤ a ∧ a < 2147483648) ∧ -2147483648 ≤ b ∧ b < 2147483648) ∧ mx_rel k a b), (t.toNat, c.2.1, r, c.2.2.2))
      else bif Nat.beq h 2 then (some (k = .eq ∧ a = b), (t.toNat, c.2.1, r, c.2.2.2))
      else (some (((-2147483648 ≤ a ∧ a < 2147483648) ∧ -2147483648 ≤ b ∧ b < 2147483648) ∧ mx_nrel k a b), (c.1 + n, c.2.1, r, c.2.2.2))
    | _ => mx_no c)
  | .ifCond k t => (match c.2.2.1 with
    | .inl a :: r => bif Nat.beq h 1 then (some ((-2147483648 ≤ a ∧ a < 2147483648) ∧ mx_rel k a 0), (t.toNat, c.2.1, r, c.2.2.2))
      else (some ((-2147483648 ≤ a ∧ a < 2147483648) ∧ mx_nrel k a 0), (c.1 + n, c.2.1, r, c.2.2.2))
    | _ => mx_no c)
  | .goto t => (none, (t.toNat, c.2.1, c.2.2.1, c.2.2.2))
  | .tableswitch d lo hi offs => (match c.2.2.1 with
    | .inl a :: r => bif Nat.blt h offs.size then (some ((-2147483648 ≤ a ∧ a < 2147483648) ∧ a = lo + (h : Int)), ((offs.getD h 0).toNat, c.2.1, r, c.2.2.2))
      else (some ((-2147483648 ≤ a ∧ a < 2147483648) ∧ (a < lo ∨ hi < a)), (d.toNat, c.2.1, r, c.2.2.2))
    | _ => mx_no c)
  | .lookupswitch d ps => (match c.2.2.1 with
    | .inl a :: r => bif Nat.blt h ps.size then (some (a = (ps.getD h (0, 0)).1), ((ps.getD h (0, 0)).2.toNat, c.2.1, r, c.2.2.2))
      else (some ((-2147483648 ≤ a ∧ a < 2147483648) ∧ ∀ q ∈ ps.toList, a ≠ q.1), (d.toNat, c.2.1, r, c.2.2.2))
    | _ => mx_no c)
  | .getfield q => (match c.2.2.1 with
    | .inr (.inr a) :: r => (match mx_fty q with
      | 1 => mx_go' (mx_shp c.2.2.2 a = (q / 256, 0)) c n (.inr (.inl (c.2.2.2.2.2.1 a z)) :: r)
      | 2 => mx_go' (mx_shp c.2.2.2 a = (q / 256, 0)) c n (.inr (.inr (c.2.2.2.2.1 a z)) :: r)
      | _ => mx_go' (mx_shp c.2.2.2 a = (q / 256, 0)) c n (.inl (c.2.2.2.2.2.1 a z) :: r))
    | _ => mx_no c)
  | .putfield q => (match c.2.2.1 with
    | .inl v :: .inr (.inr a) :: r => (match mx_fty q with
      | 0 => (some (mx_shp c.2.2.2 a = (q / 256, 0)), (c.1 + n, c.2.1, r, (c.2.2.2.1, c.2.2.2.2.1, mx_up c.2.2.2.2.2.1 a z v, c.2.2.2.2.2.2)))
      | 3 => (some (mx_shp c.2.2.2 a = (q / 256, 0) ∧ (v = 0 ∨ v = 1)), (c.1 + n, c.2.1, r, (c.2.2.2.1, c.2.2.2.2.1, mx_up c.2.2.2.2.2.1 a z v, c.2.2.2.2.2.2)))
      | _ => mx_no c)
    | .inr (.inl v) :: .inr (.inr a) :: r => (match mx_fty q with
      | 1 => (some (mx_shp c.2.2.2 a = (q / 256, 0)), (c.1 + n, c.2.1, r, (c.2.2.2.1, c.2.2.2.2.1, mx_up c.2.2.2.2.2.1 a z v, c.2.2.2.2.2.2)))
      | _ => mx_no c)
    | _ => mx_no c)
  | .putstatic q => (match c.2.2.1 with
    | .inr (.inr v) :: .inr (.inr a) :: r => (match mx_fty q with
      | 2 => (some (mx_shp c.2.2.2 a = (q / 256, 0) ∧ 0 ≤ v), (c.1 + n, c.2.1, r, (c.2.2.2.1, mx_up c.2.2.2.2.1 a z v, c.2.2.2.2.2)))
      | _ => mx_no c)
    | _ => mx_no c)
  | .iaload => (match c.2.2.1 with
    | .inl i :: .inr (.inr a) :: r => mx_go' (mx_shp c.2.2.2 a = (100, h) ∧ 0 ≤ i ∧ i < (h : Int)) c n (.inl (c.2.2.2.2.2.1 a i) :: r)
    | _ => mx_no c)
  | .baload => (match c.2.2.1 with
    | .inl i :: .inr (.inr a) :: r => mx_go' (mx_shp c.2.2.2 a = (101, h) ∧ 0 ≤ i ∧ i < (h : Int)) c n (.inl (c.2.2.2.2.2.1 a i) :: r)
    | _ => mx_no c)
  | .aaload => (match c.2.2.1 with
    | .inl i :: .inr (.inr a) :: r => bif Nat.ble 102 (h / 1000) && Nat.ble (h / 1000) 104 then mx_go' (mx_shp c.2.2.2 a = (h / 1000, h % 1000) ∧ 0 ≤ i ∧ i < ((h % 1000 : Nat) : Int)) c n (.inr (.inr (c.2.2.2.2.1 a i)) :: r) else mx_no c
    | _ => mx_no c)
  | .iastore => (match c.2.2.1 with
    | .inl v :: .inl i :: .inr (.inr a) :: r => (some (mx_shp c.2.2.2 a = (100, h) ∧ 0 ≤ i ∧ i < (h : Int)), (c.1 + n, c.2.1, r, (c.2.2.2.1, c.2.2.2.2.1, mx_up c.2.2.2.2.2.1 a i v, c.2.2.2.2.2.2)))
    | _ => mx_no c)
  | .bastore => (match c.2.2.1 with
    | .inl v :: .inl i :: .inr (.inr a) :: r => (some ((mx_shp c.2.2.2 a = (101, h) ∧ 0 ≤ i ∧ i < (h : Int)) ∧ (v = 0 ∨ v = 1)), (c.1 + n, c.2.1, r, (c.2.2.2.1, c.2.2.2.2.1, mx_up c.2.2.2.2.2.1 a i v, c.2.2.2.2.2.2)))
    | _ => mx_no c)
  | .aastore => (match c.2.2.1 with
    | .inr (.inr v) :: .inl i :: .inr (.inr a) :: r => bif Nat.ble 103 (h / 1000) && Nat.ble (h / 1000) 104 then (some ((mx_shp c.2.2.2 a = (h / 1000, h % 1000) ∧ 0 ≤ i ∧ i < ((h % 1000 : Nat) : Int)) ∧ mx_shp c.2.2.2 v = (mx_elk (h / 1000), 0)), (c.1 + n, c.2.1, r, (c.2.2.2.1, mx_up c.2.2.2.2.1 a i v, c.2.2.2.2.2))) else mx_no c
    | _ => mx_no c)
  | .saload => (match c.2.2.1 with
    | .inl i :: .inr (.inr a) :: r => mx_go' (a = -2 ∧ 0 ≤ i ∧ i < c.2.2.2.2.2.1 (-2) (-1)) c n (.inl (c.2.2.2.2.2.1 (-2) i) :: r)
    | _ => mx_no c)
  | .arraylength => (match c.2.2.1 with
    | .inr (.inr a) :: r => mx_go' (a = -2) c n (.inl (c.2.2.2.2.2.1 (-2) (-1)) :: r)
    | _ => mx_no c)
  | .invokedynamic 9 => (match c.2.2.1 with
    | .inr (.inr a) :: r => mx_go' (0 ≤ a ∧ (r.map mx_cat).sum ≤ 8) c n r
    | _ => mx_no c)
  | .invokedynamic 2 => (match c.2.2.1 with
    | .inl k :: .inl j :: .inr (.inr b) :: .inl i :: .inr (.inr a) :: r => (some ((mx_shp c.2.2.2 a = (100, h) ∧ mx_shp c.2.2.2 b = (100, h) ∧ (r.map mx_cat).sum ≤ 8) ∧ (0 ≤ i ∧ i + k ≤ (h : Int)) ∧ (0 ≤ j ∧ j + k ≤ (h : Int)) ∧ 0 ≤ k), (c.1 + n, c.2.1, r, (c.2.2.2.1, c.2.2.2.2.1, mx_cp c.2.2.2.2.2.1 a i b j k, c.2.2.2.2.2.2)))
    | _ => mx_no c)
  | .invokedynamic 3 => (match c.2.2.1 with
    | .inl b :: .inl a :: r => mx_go' (((-2147483648 ≤ a ∧ a < 2147483648) ∧ -2147483648 ≤ b ∧ b < 2147483648) ∧ (r.map mx_cat).sum ≤ 8) c n (.inl (mx_min a b) :: r)
    | _ => mx_no c)
  | .invokedynamic 4 => (match c.2.2.1 with
    | .inl b :: .inl a :: r => mx_go' (((-2147483648 ≤ a ∧ a < 2147483648) ∧ -2147483648 ≤ b ∧ b < 2147483648) ∧ (r.map mx_cat).sum ≤ 8) c n (.inl (mx_max a b) :: r)
    | _ => mx_no c)
  | .new q => bif Nat.ble 1 c.2.2.2.2.2.2.1 && (Nat.ble (mx_nf q) c.2.2.2.2.2.2.2 && Nat.blt q 10) then (none, (c.1 + n, c.2.1, .inr (.inr (c.2.2.2.1.length : Int)) :: c.2.2.1, mx_new c.2.2.2 [(q, 0)] 1 (mx_nf q))) else mx_no c
  | .newarray t => (match c.2.2.1 with
    | .inl (.ofNat k) :: r => (match t with
      | .int => bif Nat.ble 1 c.2.2.2.2.2.2.1 && (Nat.ble k c.2.2.2.2.2.2.2 && Nat.ble k 1000) then (none, (c.1 + n, c.2.1, .inr (.inr (c.2.2.2.1.length : Int)) :: r, mx_new c.2.2.2 [(100, k)] 1 k)) else mx_no c
      | .boolean => bif Nat.ble 1 c.2.2.2.2.2.2.1 && (Nat.ble k c.2.2.2.2.2.2.2 && Nat.ble k 1000) then (none, (c.1 + n, c.2.1, .inr (.inr (c.2.2.2.1.length : Int)) :: r, mx_new c.2.2.2 [(101, k)] 1 k)) else mx_no c
      | _ => mx_no c)
    | _ => mx_no c)
  | .anewarray q => (match c.2.2.1 with
    | .inl (.ofNat k) :: r => bif Nat.ble 1 c.2.2.2.2.2.2.1 && (Nat.ble k c.2.2.2.2.2.2.2 && (Nat.ble k 999 && (Nat.ble 103 q && Nat.ble q 104))) then (none, (c.1 + n, c.2.1, .inr (.inr (c.2.2.2.1.length : Int)) :: r, mx_new c.2.2.2 [(q, k)] 1 k)) else mx_no c
    | _ => mx_no c)
  | .multianewarray _ _ => (match c.2.2.1 with
    | .inl (.ofNat k) :: .inl (.ofNat y) :: r => bif Nat.ble (1 + y) c.2.2.2.2.2.2.1 && (Nat.ble (y + y * k) c.2.2.2.2.2.2.2 && (Nat.ble k 999 && Nat.ble y 999)) then
        (none, (c.1 + n, c.2.1, .inr (.inr (c.2.2.2.1.length : Int)) :: r, ((mx_new c.2.2.2 ((102, y) :: List.replicate y (100, k)) (1 + y) (y + y * k)).1,
          (fun b j => if b = (c.2.2.2.1.length : Int) ∧ 0 ≤ j ∧ j < (y : Int) then b + 1 + j else mx_zr c.2.2.2.2.1 c.2.2.2.1.length (-1) b j),
          (mx_new c.2.2.2 ((102, y) :: List.replicate y (100, k)) (1 + y) (y + y * k)).2.2))) else mx_no c
    | _ => mx_no c)
  | _ => mx_no c
/-- which method is called, and how: 0 virtual, 1 static, 2 its own class's constructor from outside, 3 a nest mate's constructor, 4 a String's -/
def mx_cal : Instr → Option (Nat × Nat)
  | .invokevirtual y => some (y, 0)
  | .invokestatic y => some (y, 1)
  | .invokespecial y => some (y, 2)
  | .jsr t => some (t.toNat, 3)
  | .invokedynamic 0 => some (300, 4)
  | .invokedynamic 1 => some (301, 4)
  | _ => none
abbrev mx_row (y : Nat) : MethodName × Nat × ByteArray × Nat × Option FieldType × Nat × Nat × Bool := mx_nm.getD y (⟨"", "", ""⟩, 0, code, 0, none, 0, 99, false)
def mx_nA (y : Nat) : Nat := if y = 300 then 1 else if y = 301 then 2 else (mx_row y).2.2.2.2.2.1 + (if (mx_row y).2.2.2.2.2.2.2 then 0 else 1)
def mx_sb (m : mx_M) (a b : Nat) : mx_M := (m.1, m.2.1, m.2.2.1, a, b)
def mx_psh : Option mx_V → List mx_V → List mx_V
  | none, r => r
  | some v, r => v :: r
/-- an end, by what the method answers: a boolean is 0 or 1 -/
def mx_end (M : Nat) (ai : Instr) (st : List mx_V) (m : mx_M) (Q : mx_Q) : Prop := match ai with
  | .return_ => st = [] ∧ (mx_row M).2.2.2.2.1 = none ∧ Q none m
  | .ireturn => ∃ e, st = [.inl e] ∧ ((mx_row M).2.2.2.2.1 = some .int ∨ ((mx_row M).2.2.2.2.1 = some .boolean ∧ (e = 0 ∨ e = 1))) ∧ Q (some (.inl e)) m
  | .lreturn => ∃ e, st = [.inr (.inl e)] ∧ (mx_row M).2.2.2.2.1 = some .long ∧ Q (some (.inr (.inl e))) m
  | _ => False
/-- the same memory, as far as it is there -/
def mx_eqv (m m' : mx_M) : Prop := m.1 = m'.1 ∧ m.2.2.2.1 = m'.2.2.2.1 ∧ m.2.2.2.2 = m'.2.2.2.2 ∧ m.2.2.1 (-2) = m'.2.2.1 (-2) ∧ ∀ (a kd n j : Nat), m.1[a]? = some (kd, n) → j < (if kd < 10 then mx_nf kd else n) → m.2.1 a j = m'.2.1 a j ∧ m.2.2.1 a j = m'.2.2.1 a j
def mx_stp (cl : Nat → List mx_V → mx_M → mx_Q → Prop) (M : Nat) (Q : mx_Q) (P : mx_C → Prop) (c : mx_C) : Prop :=
  (∃ h, (mx_nx (mx_kd M c.1).1 (mx_kd M c.1).2.1 (mx_kd M c.1).2.2 h c).1.getD True ∧ P (mx_nx (mx_kd M c.1).1 (mx_kd M c.1).2.1 (mx_kd M c.1).2.2 h c).2)
  ∨ (∃ (y k : Nat) (as r : List mx_V) (mid : mx_Q) (bc bs : Nat), mx_cal (mx_kd M c.1).1 = some (y, k) ∧ c.2.2.1 = as.reverse ++ r ∧ as.length = mx_nA y ∧ (r.map mx_cat).sum ≤ 8
      ∧ (k ≠ 1 → k ≠ 4 → ∃ a t, as = .inr (.inr a) :: t ∧ mx_shp c.2.2.2 a = ((mx_row y).2.2.2.2.2.2.1, 0)) ∧ bc ≤ c.2.2.2.2.2.2.1 ∧ bs ≤ c.2.2.2.2.2.2.2
      ∧ cl y as (mx_sb c.2.2.2 bc bs) mid ∧ ∀ v m', mid v m' → m'.2.2.1 (-2) = c.2.2.2.2.2.1 (-2) → P (c.1 + 3, c.2.1, mx_psh v r, mx_sb m' (c.2.2.2.2.2.2.1 - bc) (c.2.2.2.2.2.2.2 - bs)))
  ∨ mx_end M (mx_kd M c.1).1 c.2.2.1 c.2.2.2 Q
  ∨ (∃ (ls : mx_L) (m : mx_M), ls.length = c.2.1.length ∧ (∀ i v, ls.getD i none = some v → c.2.1.getD i none = some v) ∧ mx_eqv c.2.2.2 m ∧ P (c.1, ls, c.2.2.1, m))
/-- the machine comes from here to an end with Q -/
def mx_R (cl : Nat → List mx_V → mx_M → mx_Q → Prop) (M : Nat) (Q : mx_Q) (c : mx_C) : Prop := ∀ P : mx_C → Prop, (∀ c, mx_stp cl M Q P c → P c) → P c
/-- the locals at a start -/
def mx_lo : List mx_V → mx_L
  | [] => []
  | .inr (.inl e) :: r => some (.inr (.inl e)) :: none :: mx_lo r
  | v :: r => some v :: mx_lo r
def mx_ini (M : Nat) (as : List mx_V) : mx_L := mx_lo as ++ List.replicate ((mx_row M).2.2.2.1 - (mx_lo as).length) none
/-- a call of method y, at most d calls open -/
def mx_call : Nat → Nat → List mx_V → mx_M → mx_Q → Prop
  | 0, _, _, _, _ => False
  | d + 1, y, as, m, Q =>
    if y = 300 then ∃ j : Nat, j < 8 ∧ as = [.inr (.inr (-3 - (j : Int)))] ∧ Q (some (.inl ((mx_st.getD j "").length : Int))) m
    else if y = 301 then 4 ≤ d ∧ ∃ j k : Nat, j < 8 ∧ k < (mx_st.getD j "").length ∧ as = [.inr (.inr (-3 - (j : Int))), .inl (k : Int)] ∧ Q (some (.inl ((((mx_st.getD j "").toList.getD k 'a').toNat : Nat) : Int))) m
    else y < mx_nm.length ∧ y ≠ 0 ∧ as.length = mx_nA y ∧ (mx_lo as).length ≤ (mx_row y).2.2.2.1 ∧ mx_R (mx_call d) y Q (0, mx_ini y as, [], m)
