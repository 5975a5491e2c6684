/-! own layer: abstract frames over one world of cells with fixed references; all that changes is a table of ints -/
abbrev xSg : Type := Nat → Nat → Int32
abbrev xF : Type := List (Option Value) × List Value × xSg
abbrev xSh : Type := Nat × Nat × List (Option Nat)
abbrev xLK : Type := List (Nat × Nat × Nat × Nat) × List (Nat × Nat) × List (Nat × Value) × List (Nat × Nat)
abbrev xM : Type := String × MethodName × ByteArray × Nat × Option FieldType × Nat × xLK × List (Nat × Instr × Nat)
abbrev xO : Type := Nat ⊕ (Nat × (Nat → Int32))
abbrev xR : Type := Option (List Prop × Nat × xF)
abbrev xM_own (M : xM) : String := M.1
abbrev xM_y (M : xM) : MethodName := M.2.1
abbrev xM_code (M : xM) : ByteArray := M.2.2.1
abbrev xM_maxL (M : xM) : Nat := M.2.2.2.1
abbrev xM_ret (M : xM) : Option FieldType := M.2.2.2.2.1
abbrev xM_lev (M : xM) : Nat := M.2.2.2.2.2.1
abbrev xM_lk (M : xM) : xLK := M.2.2.2.2.2.2.1
abbrev xM_tb (M : xM) : List (Nat × Instr × Nat) := M.2.2.2.2.2.2.2
def x_K : Nat := 89
def x_shl : List xSh := [(0, 5, [some 1, some 13, none, some 25, none, some 26, some 31, some 34, some 48]), (0, 3, [none, none, none, some 2, some 3, some 4, some 5, some 6, some 7, some 8, some 9, some 10, some 11, none, some 12]), (1, 10, []), (1, 10, []), (1, 10, []), (1, 10, []), (1, 10, []), (1, 10, []), (1, 10, []), (1, 5, []), (1, 3, []), (1, 100, []), (1, 40, []), (0, 3, [none, none, none, some 14, some 15, some 16, some 17, some 18, some 19, some 20, some 21, some 22, some 23, none, some 24]), (1, 10, []), (1, 10, []), (1, 10, []), (1, 10, []), (1, 10, []), (1, 10, []), (1, 10, []), (1, 5, []), (1, 3, []), (1, 100, []), (1, 40, []), (1, 6, []), (0, 2, [some 1, some 27, some 28, some 29, some 30, none, none, none]), (1, 3, []), (1, 10, []), (1, 10, []), (1, 10, []), (0, 0, [some 1, some 26, some 32, some 33, none, none]), (1, 10, []), (1, 10, []), (0, 1, [some 1, some 38, some 43, some 35, some 36, some 37, none, none, none, none]), (1, 2, []), (1, 121, []), (1, 121, []), (0, 2, [some 1, some 39, some 40, some 41, some 42, none, none, none]), (1, 3, []), (1, 10, []), (1, 10, []), (1, 10, []), (0, 2, [some 1, some 44, some 45, some 46, some 47, none, none, none]), (1, 3, []), (1, 10, []), (1, 10, []), (1, 10, []), (3, 4, [some 49, some 51, some 53, some 55]), (0, 4, [none, none, some 50]), (1, 40, []), (0, 4, [none, none, some 52]), (1, 40, []), (0, 4, [none, none, some 54]), (1, 40, []), (0, 4, [none, none, some 56]), (1, 40, []), (0, 6, [none, some 58, some 59, some 60, some 61, some 62, some 63, some 64, some 65, some 66, some 67, some 68, some 69, some 70, none, some 71, none, some 72, none, some 73, some 74, some 75, some 76, none, some 77, some 78, some 79, none, some 80, none, none, some 81, some 82, some 83, some 84, some 85, some 86, some 87, some 88]), (1, 10, []), (1, 10, []), (1, 10, []), (1, 10, []), (1, 10, []), (1, 10, []), (1, 10, []), (1, 10, []), (1, 20, []), (1, 2, []), (1, 5, []), (2, 60, []), (1, 100, []), (1, 40, []), (1, 258, []), (1, 320, []), (1, 20, []), (1, 2, []), (2, 60, []), (1, 10, []), (1, 10, []), (1, 10, []), (1, 10, []), (1, 10, []), (1, 121, []), (1, 121, []), (1, 121, []), (1, 121, []), (1, 4, []), (1, 4, []), (1, 160, [])]
def x_cst : List (List Int32) := [[-1, 0, 1, 0, 3, 1], [1, 1, 1, 1, 0], [20, 3, 99, 60, 4], [10, 2, 5, 10, 0], [0, 1, 2, 3, 4, 5, 6, 7, 8, 9]]
def x_csn : List String := ["UNDER", "LEAST_SETTING", "MOST_SETTING", "FIRST_SETTING", "BY_NUMBER"]
def x_nth {α : Type} : List α → Nat → Option α
  | [], _ => none
  | a :: _, 0 => some a
  | _ :: l, i + 1 => x_nth l i
def x_sh (k : Nat) : xSh := match x_nth x_shl k with
  | some r => r
  | none => (9, 0, [])
def x_lk {α : Type} : List (Nat × α) → Nat → Option α
  | [], _ => none
  | (j, a) :: l, i => bif Nat.beq i j then some a else x_lk l i
def x_up (σ : xSg) (k : Nat) (g : Nat → Int32) : xSg := fun k' => if k' = k then g else σ k'
def x_cv (ad : Nat → Nat) : Value → Value
  | .ref k => .ref (ad k)
  | v => v
def x_get : List (Option Value) → Nat → Option Value
  | [], _ => none
  | a :: _, 0 => a
  | _ :: l, i + 1 => x_get l i
def x_set : List (Option Value) → Nat → Option Value → List (Option Value)
  | [], _, _ => []
  | _ :: l, 0, a => a :: l
  | b :: l, i + 1, a => b :: x_set l i a
def x_two (v : Option Value) : Bool := match v with
  | some (.long _) => true
  | some (.double _) => true
  | _ => false
def x_plg (L : List (Option Value)) (i : Nat) : Bool := match i with
  | 0 => false
  | j + 1 => x_two (x_get L j)
def x_cat (st : List Value) : Nat := (st.map fun v => v.category).sum
/-! one instruction -/
def x_psh (v : Value) (pc : Nat) (f : xF) : xR := some ([], pc, f.1, v :: f.2.1, f.2.2)
def x_bin (g : Int32 → Int32 → Int32) (pc : Nat) (f : xF) : xR := match f.2.1 with
  | .int y :: .int x :: st => some ([], pc + 1, f.1, .int (g x y) :: st, f.2.2)
  | _ => none
def x_dv (g : Int32 → Int32 → Int32) (pc : Nat) (f : xF) : xR := match f.2.1 with
  | .int y :: .int x :: st => some ([¬ y = 0], pc + 1, f.1, .int (g x y) :: st, f.2.2)
  | _ => none
def x_bil (g : Int64 → Int64 → Value) (pc : Nat) (f : xF) : xR := match f.2.1 with
  | .long y :: .long x :: st => some ([], pc + 1, f.1, g x y :: st, f.2.2)
  | _ => none
def x_uni (g : Int32 → Value) (pc : Nat) (f : xF) : xR := match f.2.1 with
  | .int x :: st => some ([], pc + 1, f.1, g x :: st, f.2.2)
  | _ => none
def x_l2i (pc : Nat) (f : xF) : xR := match f.2.1 with
  | .long x :: st => some ([], pc + 1, f.1, .int x.toInt32 :: st, f.2.2)
  | _ => none
def x_ldi (i pc : Nat) (f : xF) : xR := match x_get f.1 i with
  | some (.int x) => some ([], pc, f.1, .int x :: f.2.1, f.2.2)
  | _ => none
def x_ldl (i pc : Nat) (f : xF) : xR := match x_get f.1 i with
  | some (.long x) => some ([], pc, f.1, .long x :: f.2.1, f.2.2)
  | _ => none
def x_lda (i pc : Nat) (f : xF) : xR := match x_get f.1 i with
  | some (.ref x) => some ([], pc, f.1, .ref x :: f.2.1, f.2.2)
  | _ => none
def x_sti (nL i pc : Nat) (f : xF) : xR := match f.2.1 with
  | .int x :: st => bif Nat.blt i nL && !x_plg f.1 i then some ([], pc, x_set f.1 i (some (.int x)), st, f.2.2) else none
  | _ => none
def x_stl (nL i pc : Nat) (f : xF) : xR := match f.2.1 with
  | .long x :: st => bif Nat.blt (i + 1) nL && !x_plg f.1 i then some ([], pc, x_set (x_set f.1 i (some (.long x))) (i + 1) none, st, f.2.2) else none
  | _ => none
def x_sta (nL i pc : Nat) (f : xF) : xR := match f.2.1 with
  | .ref x :: st => bif Nat.blt i nL && !x_plg f.1 i then some ([], pc, x_set f.1 i (some (.ref x)), st, f.2.2) else none
  | _ => none
def x_inc (nL i : Nat) (n : Int) (pc : Nat) (f : xF) : xR := match x_get f.1 i with
  | some (.int x) => bif Nat.blt i nL && !x_plg f.1 i then some ([], pc + 3, x_set f.1 i (some (.int (x + Int32.ofInt n))), f.2.1, f.2.2) else none
  | _ => none
def x_one (v : Value) : Bool := Nat.beq v.category 1
def x_dup (pc : Nat) (f : xF) : xR := match f.2.1 with
  | a :: st => bif x_one a then some ([], pc + 1, f.1, a :: a :: st, f.2.2) else none
  | _ => none
def x_pop (pc : Nat) (f : xF) : xR := match f.2.1 with
  | a :: st => bif x_one a then some ([], pc + 1, f.1, st, f.2.2) else none
  | _ => none
def x_dup2 (pc : Nat) (f : xF) : xR := match f.2.1 with
  | a :: b :: st => bif x_one a && x_one b then some ([], pc + 1, f.1, a :: b :: a :: b :: st, f.2.2) else none
  | _ => none
def x_dpx (pc : Nat) (f : xF) : xR := match f.2.1 with
  | a :: b :: st => bif x_one a && x_one b then some ([], pc + 1, f.1, a :: b :: a :: st, f.2.2) else none
  | _ => none
def x_gf (X : xLK) (idx pc : Nat) (f : xF) : xR := match f.2.1 with
  | .ref k :: st => match x_lk X.1 idx with
    | some (c, i, _) => match x_sh k with
      | (0, c', rs) => bif Nat.beq c c' then (match x_nth rs i with
        | some (some r) => some ([], pc + 3, f.1, .ref r :: st, f.2.2)
        | some none => some ([], pc + 3, f.1, .int (f.2.2 k i) :: st, f.2.2)
        | none => none) else none
      | _ => none
    | none => none
  | _ => none
def x_pf (X : xLK) (idx pc : Nat) (f : xF) : xR := match f.2.1 with
  | .int x :: .ref k :: st => match x_lk X.1 idx with
    | some (c, i, t) => match x_sh k with
      | (0, c', rs) => bif Nat.beq c c' then (match x_nth rs i with
        | some none => match t with
          | 0 => some ([], pc + 3, f.1, st, x_up f.2.2 k (upd (f.2.2 k) i x))
          | 1 => some ([x = 0 ∨ x = 1], pc + 3, f.1, st, x_up f.2.2 k (upd (f.2.2 k) i x))
          | _ => none
        | _ => none) else none
      | _ => none
    | none => none
  | _ => none
def x_gs (X : xLK) (idx pc : Nat) (f : xF) : xR := match x_lk X.2.1 idx with
  | some j => some ([], pc + 3, f.1, .ref (100 + j) :: f.2.1, f.2.2)
  | none => none
def x_ldc (X : xLK) (idx pc : Nat) (f : xF) : xR := match x_lk X.2.2.1 idx with
  | some (.int v) => some ([], pc + 2, f.1, .int v :: f.2.1, f.2.2)
  | _ => none
def x_ldw (X : xLK) (idx pc : Nat) (f : xF) : xR := match x_lk X.2.2.1 idx with
  | some (.int v) => some ([], pc + 3, f.1, .int v :: f.2.1, f.2.2)
  | _ => none
def x_ldc2 (X : xLK) (idx pc : Nat) (f : xF) : xR := match x_lk X.2.2.1 idx with
  | some (.long v) => some ([], pc + 3, f.1, .long v :: f.2.1, f.2.2)
  | _ => none
def x_rd (o : xO) (σ : xSg) (k : Nat) : Option (Nat × (Nat → Int32)) := match x_sh k with
  | (1, n, _) => some (n, σ k)
  | _ => bif Nat.beq k 99 then (match o with
      | .inr (n, xs) => some (n, xs)
      | .inl _ => none)
    else bif Nat.ble 100 k then (match x_nth x_cst (k - 100) with
      | some l => some (l.length, fun i => l.getD i 0)
      | none => none)
    else none
def x_ial (o : xO) (pc : Nat) (f : xF) : xR := match f.2.1 with
  | .int i :: .ref k :: st => match x_rd o f.2.2 k with
    | some (n, g) => some ([vp_in i n], pc + 1, f.1, .int (g i.toNatClampNeg) :: st, f.2.2)
    | none => none
  | _ => none
def x_len (o : xO) (pc : Nat) (f : xF) : xR := match f.2.1 with
  | .ref k :: st => match x_rd o f.2.2 k with
    | some (n, _) => some ([], pc + 1, f.1, .int (Int32.ofNat n) :: st, f.2.2)
    | none => none
  | _ => none
def x_bal (pc : Nat) (f : xF) : xR := match f.2.1 with
  | .int i :: .ref k :: st => match x_sh k with
    | (2, n, _) => some ([vp_in i n], pc + 1, f.1, .int (f.2.2 k i.toNatClampNeg) :: st, f.2.2)
    | _ => none
  | _ => none
def x_ias (pc : Nat) (f : xF) : xR := match f.2.1 with
  | .int x :: .int i :: .ref k :: st => match x_sh k with
    | (1, n, _) => some ([vp_in i n], pc + 1, f.1, st, x_up f.2.2 k (upd (f.2.2 k) i.toNatClampNeg x))
    | _ => none
  | _ => none
def x_bas (pc : Nat) (f : xF) : xR := match f.2.1 with
  | .int x :: .int i :: .ref k :: st => match x_sh k with
    | (2, n, _) => some ([vp_in i n, x = 0 ∨ x = 1], pc + 1, f.1, st, x_up f.2.2 k (upd (f.2.2 k) i.toNatClampNeg x))
    | _ => none
  | _ => none
def x_aal (pc : Nat) (f : xF) : xR := match f.2.1 with
  | .int i :: .ref k :: st => match x_sh k with
    | (3, n, rs) => match x_nth rs i.toNatClampNeg with
      | some (some r) => some ([vp_in i n], pc + 1, f.1, .ref r :: st, f.2.2)
      | _ => none
    | _ => none
  | _ => none
def x_mx (x y : Int32) : Int32 := if x < y then y else x
def x_mn (x y : Int32) : Int32 := if y < x then y else x
def x_nat (o : xO) (X : xLK) (idx pc : Nat) (f : xF) : xR := match o with
  | .inl (_ + 1) => match x_lk X.2.2.2 idx with
    | some 0 => match f.2.1 with
      | .int y :: .int x :: st => bif Nat.ble (x_cat st) 8 then some ([], pc + 3, f.1, .int (x_mx x y) :: st, f.2.2) else none
      | _ => none
    | some 1 => match f.2.1 with
      | .int y :: .int x :: st => bif Nat.ble (x_cat st) 8 then some ([], pc + 3, f.1, .int (x_mn x y) :: st, f.2.2) else none
      | _ => none
    | some 2 => match f.2.1 with
      | .int n :: .int dp :: .ref k1 :: .int sp :: .ref k0 :: st => match x_sh k0, x_sh k1 with
        | (1, n0, _), (1, n1, _) => bif Nat.ble (x_cat st) 8 then some ([¬ sp < 0, ¬ dp < 0, ¬ n < 0, sp.toNatClampNeg + n.toNatClampNeg ≤ n0, dp.toNatClampNeg + n.toNatClampNeg ≤ n1], pc + 3, f.1, st, x_up f.2.2 k1 (va_cpy (f.2.2 k0) (f.2.2 k1) sp.toNatClampNeg dp.toNatClampNeg n.toNatClampNeg)) else none
        | _, _ => none
      | _ => none
    | _ => none
  | _ => none
def x_gt (off : Int) (pc : Nat) (f : xF) : xR := match (pc : Int) + off with
  | .ofNat t => some ([], t, f)
  | _ => none
def x_ln : Instr → Nat
  | .bipush _ => 2
  | .sipush _ => 3
  | .ldc _ => 2
  | .ldc_w _ => 3
  | .ldc2_w _ => 3
  | .iload _ => 2
  | .lload _ => 2
  | .aload _ => 2
  | .istore _ => 2
  | .lstore _ => 2
  | .astore _ => 2
  | .iinc _ _ => 3
  | .getfield _ => 3
  | .putfield _ => 3
  | .getstatic _ => 3
  | .invokestatic _ => 3
  | .goto _ => 3
  | _ => 1
def x_stp (o : xO) (nL : Nat) (X : xLK) (pc : Nat) (i : Instr) (f : xF) : xR := match i with
  | .iconst z => x_psh (.int (Int32.ofInt z)) (pc + 1) f
  | .bipush z => x_psh (.int (Int8.ofInt z).toInt32) (pc + 2) f
  | .sipush z => x_psh (.int (Int16.ofInt z).toInt32) (pc + 3) f
  | .lconst k => x_psh (.long (Int64.ofNat (k : Nat))) (pc + 1) f
  | .ldc k => x_ldc X k pc f
  | .ldc_w k => x_ldw X k pc f
  | .ldc2_w k => x_ldc2 X k pc f
  | .iload k => x_ldi k (pc + 2) f
  | .iload_n k => x_ldi (k : Nat) (pc + 1) f
  | .lload k => x_ldl k (pc + 2) f
  | .lload_n k => x_ldl (k : Nat) (pc + 1) f
  | .aload k => x_lda k (pc + 2) f
  | .aload_n k => x_lda (k : Nat) (pc + 1) f
  | .istore k => x_sti nL k (pc + 2) f
  | .istore_n k => x_sti nL (k : Nat) (pc + 1) f
  | .lstore k => x_stl nL k (pc + 2) f
  | .lstore_n k => x_stl nL (k : Nat) (pc + 1) f
  | .astore k => x_sta nL k (pc + 2) f
  | .astore_n k => x_sta nL (k : Nat) (pc + 1) f
  | .iinc k n => x_inc nL k n pc f
  | .iadd => x_bin (fun x y => x + y) pc f
  | .isub => x_bin (fun x y => x - y) pc f
  | .imul => x_bin (fun x y => x * y) pc f
  | .iand => x_bin (fun x y => x &&& y) pc f
  | .ior => x_bin (fun x y => x ||| y) pc f
  | .ixor => x_bin (fun x y => x ^^^ y) pc f
  | .ishl => x_bin (fun x y => x <<< (y &&& 31)) pc f
  | .ishr => x_bin (fun x y => x >>> (y &&& 31)) pc f
  | .iushr => x_bin (fun x y => (x.toUInt32 >>> (y.toUInt32 &&& Int32.toUInt32 31)).toInt32) pc f
  | .idiv => x_dv (fun x y => x / y) pc f
  | .irem => x_dv (fun x y => x - x / y * y) pc f
  | .ladd => x_bil (fun x y => .long (x + y)) pc f
  | .lmul => x_bil (fun x y => .long (x * y)) pc f
  | .lcmp => x_bil (fun x y => .int (lg_cmp x y)) pc f
  | .i2l => x_uni (fun x => .long x.toInt64) pc f
  | .i2b => x_uni (fun x => .int x.toInt8.toInt32) pc f
  | .l2i => x_l2i pc f
  | .dup => x_dup pc f
  | .pop => x_pop pc f
  | .dup2 => x_dup2 pc f
  | .dup_x1 => x_dpx pc f
  | .getfield k => x_gf X k pc f
  | .putfield k => x_pf X k pc f
  | .getstatic k => x_gs X k pc f
  | .iaload => x_ial o pc f
  | .arraylength => x_len o pc f
  | .baload => x_bal pc f
  | .iastore => x_ias pc f
  | .bastore => x_bas pc f
  | .aaload => x_aal pc f
  | .invokestatic k => x_nat o X k pc f
  | .goto off => x_gt off pc f
  | _ => none
def x_blk (o : xO) (M : xM) : Nat → Nat → xF → xR
  | 0, pc, f => some ([], pc, f)
  | n + 1, pc, f => match x_lk (xM_tb M) pc with
    | none => none
    | some (i, len) => bif Nat.beq len (x_ln i) then (match x_stp o (xM_maxL M) (xM_lk M) pc i f with
      | none => none
      | some (P, pc', f') => match x_blk o M n pc' f' with
        | none => none
        | some (Ps, r) => some (P ++ Ps, r)) else none
def x_cmp : Jvm.ClassFile.Cond → Int32 → Int32 → Prop
  | .eq, x, y => x = y
  | .ne, x, y => ¬ x = y
  | .lt, x, y => x < y
  | .ge, x, y => y ≤ x
  | .gt, x, y => y < x
  | .le, x, y => x ≤ y
def x_br (i : Instr) (st : List Value) : Option (Prop × Int × List Value) := match i with
  | .if_icmp k off => match st with
    | .int y :: .int x :: st => some (x_cmp k x y, off, st)
    | _ => none
  | .ifCond k off => match st with
    | .int x :: st => some (x_cmp k x 0, off, st)
    | _ => none
  | _ => none
def x_bbr (o : xO) (M : xM) (n pc : Nat) (f : xF) : Option (List Prop × Prop × Nat × Nat × xF) := match x_blk o M n pc f with
  | none => none
  | some (Ps, pc', f') => match x_lk (xM_tb M) pc' with
    | none => none
    | some (i, len) => bif Nat.beq len 3 then (match x_br i f'.2.1 with
      | none => none
      | some (P, off, st) => match (pc' : Int) + off with
        | .ofNat t => some (Ps, P, t, pc' + 3, (f'.1, st, f'.2.2))
        | _ => none) else none
def x_conj : List Prop → Prop
  | [] => True
  | [a] => a
  | a :: b :: l => a ∧ x_conj (b :: l)
