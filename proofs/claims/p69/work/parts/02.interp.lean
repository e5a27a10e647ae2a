/-! ===== an interpreter of the bytecode over a small heap of numbered cells; its soundness stands in the next part ===== -/
abbrev xE : Type := (Nat × vp_A) ⊕ (Nat × List Value)
abbrev xH : Type := List xE
abbrev xL : Type := List (Nat × Value)
/-- pc, locals, stack, heap, cells made, slots made -/
abbrev xC : Type := Nat × xL × List Value × xH × Nat × Nat
/-- a row of a method: pc, instruction, length, what it is resolved to (two numbers), the place of its word -/
abbrev xR : Type := Nat × Instr × Nat × Nat × Nat × Nat
/-- a method: its class, its name, bytes, locals, what it returns, static, its class's number, its rows in pieces -/
abbrev xM : Type := String × MethodName × ByteArray × Nat × Option FieldType × Bool × Nat × List (Nat × List xR)
abbrev xO : Type := Option (xC ⊕ ((Nat × List Value × List Value) ⊕ Option Value))
abbrev xS : Type := Nat × (Nat → Int32)
def x_scr : Nat := 1000000
/-- the String constants lie from here on, what they hold from there on -/
def x_str : Nat := 2000000
def x_val : Nat := 3000000
def x_lit : List (String × Nat × String) := [("MoleBoard$Reader", 51, "board wide # high # ticks # pause # ;"), ("MoleBoard$Reader", 53, "stay # from # ;"), ("MoleBoard$Reader", 55, "shut # ;"), ("MoleBoard$Reader", 57, "good # ;"), ("MoleBoard$Reader", 59, "red # ;"), ("MoleBoard$Reader", 61, "twin # # ;"), ("MoleBoard$Reader", 63, "player pace # lag # tires # knows # waits # ;"), ("MoleBoard$Reader", 65, "tickets # each # ;"), ("MoleBoardModel", 170, "board"), ("MoleBoardModel", 172, "wide"), ("MoleBoardModel", 178, "high"), ("MoleBoardModel", 180, "ticks"), ("MoleBoardModel", 182, "pause"), ("MoleBoardModel", 211, "good"), ("MoleBoardModel", 212, "red"), ("MoleBoardModel", 214, "twin"), ("MoleBoardModel", 216, "stay"), ("MoleBoardModel", 218, "shut"), ("MoleBoardModel", 220, "player"), ("MoleBoardModel", 222, "tickets"), ("MoleBoardModel", 184, "from"), ("MoleBoardModel", 201, "pace"), ("MoleBoardModel", 203, "lag"), ("MoleBoardModel", 205, "tires"), ("MoleBoardModel", 207, "knows"), ("MoleBoardModel", 209, "waits"), ("MoleBoardModel", 237, "each")]
def x_sbyt : List (List Int32) := [[98, 111, 97, 114, 100, 32, 119, 105, 100, 101, 32, 35, 32, 104, 105, 103, 104, 32, 35, 32, 116, 105, 99, 107, 115, 32, 35, 32, 112, 97, 117, 115, 101, 32, 35, 32, 59],
  [115, 116, 97, 121, 32, 35, 32, 102, 114, 111, 109, 32, 35, 32, 59],
  [115, 104, 117, 116, 32, 35, 32, 59],
  [103, 111, 111, 100, 32, 35, 32, 59],
  [114, 101, 100, 32, 35, 32, 59],
  [116, 119, 105, 110, 32, 35, 32, 35, 32, 59],
  [112, 108, 97, 121, 101, 114, 32, 112, 97, 99, 101, 32, 35, 32, 108, 97, 103, 32, 35, 32, 116, 105, 114, 101, 115, 32, 35, 32, 107, 110, 111, 119, 115, 32, 35, 32, 119, 97, 105, 116, 115, 32, 35, 32, 59],
  [116, 105, 99, 107, 101, 116, 115, 32, 35, 32, 101, 97, 99, 104, 32, 35, 32, 59],
  [98, 111, 97, 114, 100],
  [119, 105, 100, 101],
  [104, 105, 103, 104],
  [116, 105, 99, 107, 115],
  [112, 97, 117, 115, 101],
  [103, 111, 111, 100],
  [114, 101, 100],
  [116, 119, 105, 110],
  [115, 116, 97, 121],
  [115, 104, 117, 116],
  [112, 108, 97, 121, 101, 114],
  [116, 105, 99, 107, 101, 116, 115],
  [102, 114, 111, 109],
  [112, 97, 99, 101],
  [108, 97, 103],
  [116, 105, 114, 101, 115],
  [107, 110, 111, 119, 115],
  [119, 97, 105, 116, 115],
  [101, 97, 99, 104]]
def x_off (j : Nat) : Nat := ([33, 74, 93, 105, 117, 128, 142, 191, 213, 222, 230, 238, 247, 256, 264, 271, 279, 287, 295, 305, 316, 324, 332, 339, 348, 357, 366] : List Nat).getD j 0
def x_find : List xR → Nat → Option xR
  | [], _ => none
  | r :: rs, pc => bif Nat.beq r.1 pc then some r else x_find rs pc
def x_row : List (Nat × List xR) → Nat → Option xR
  | [], _ => none
  | q :: more, pc => bif Nat.ble pc q.1 then x_find q.2 pc else x_row more pc
def x_ld : xL → Nat → Option Value
  | [], _ => none
  | q :: r, i => bif Nat.beq q.1 i then some q.2 else x_ld r i
def x_st1 (l : xL) (i : Nat) (v : Value) : xL := (i, v) :: l.filter (fun q => !(q.1 == i) && !(q.1 + 1 == i && q.2.category == 2))
def x_st2 (l : xL) (i : Nat) (v : Value) : xL := (i, v) :: l.filter (fun q => !(q.1 == i) && (!(q.1 == i + 1) && !(q.1 + 1 == i && q.2.category == 2)))
def x_cat : List Value → Nat
  | [] => 0
  | v :: r => v.category + x_cat r
def x_go (pc : Nat) (l : xL) (st : List Value) (h : xH) (k z : Nat) : xO := some (.inl (pc, l, st, h, k, z))
def x_i1 (st : List Value) (f : Int32 → List Value → xO) : xO := match st with
  | .int x :: r => f x r
  | _ => none
def x_i2 (st : List Value) (f : Int32 → Int32 → List Value → xO) : xO := match st with
  | .int y :: .int x :: r => f x y r
  | _ => none
def x_l1 (st : List Value) (f : Int64 → List Value → xO) : xO := match st with
  | .long x :: r => f x r
  | _ => none
def x_l2 (st : List Value) (f : Int64 → Int64 → List Value → xO) : xO := match st with
  | .long y :: .long x :: r => f x y r
  | _ => none
def x_li (st : List Value) (f : Int64 → Int32 → List Value → xO) : xO := match st with
  | .int y :: .long x :: r => f x y r
  | _ => none
def x_a1 (st : List Value) (f : Nat → List Value → xO) : xO := match st with
  | .ref a :: r => f a r
  | _ => none
def x_ai (st : List Value) (f : Nat → Int32 → List Value → xO) : xO := match st with
  | .int i :: .ref a :: r => f a i r
  | _ => none
def x_aii (st : List Value) (f : Nat → Int32 → Int32 → List Value → xO) : xO := match st with
  | .int x :: .int i :: .ref a :: r => f a i x r
  | _ => none
def x_ail (st : List Value) (f : Nat → Int32 → Int64 → List Value → xO) : xO := match st with
  | .long x :: .int i :: .ref a :: r => f a i x r
  | _ => none
def x_aiq (st : List Value) (f : Nat → Int32 → Nat → List Value → xO) : xO := match st with
  | .ref x :: .int i :: .ref a :: r => f a i x r
  | _ => none
def x_av (st : List Value) (f : Nat → Value → List Value → xO) : xO := match st with
  | v :: .ref a :: r => f a v r
  | _ => none
def x_v1 (st : List Value) (f : Value → List Value → xO) : xO := match st with
  | v :: r => f v r
  | _ => none
def x_v2 (st : List Value) (f : Value → Value → List Value → xO) : xO := match st with
  | v :: w :: r => f v w r
  | _ => none
def x_cp (st : List Value) (f : Nat → Int32 → Nat → Int32 → Int32 → List Value → xO) : xO := match st with
  | .int n :: .int dp :: .ref a :: .int sp :: .ref a0 :: r => f a0 sp a dp n r
  | _ => none
/-- where a branch goes -/
def x_br (pc : Nat) (off : Int) (f : Nat → xO) : xO := match (pc : Int) + off with
  | .ofNat t => f t
  | .negSucc _ => none
def x_ob (h : xH) (a : Nat) (f : Nat → List Value → xO) : xO := match h[a]? with
  | some (.inr (c, fs)) => f c fs
  | _ => none
def x_ari (t : Nat) (h : xH) (a : Nat) (f : Nat → (Nat → Int32) → xO) : xO := match h[a]? with
  | some (.inl (t', n, .inl g)) => bif Nat.beq t' t then f n g else none
  | _ => none
def x_arl (h : xH) (a : Nat) (f : Nat → (Nat → Int64) → xO) : xO := match h[a]? with
  | some (.inl (t', n, .inr (.inl g))) => bif Nat.beq t' 1 then f n g else none
  | _ => none
def x_arq (h : xH) (a : Nat) (f : Nat → Nat → (Nat → Option Nat) → xO) : xO := match h[a]? with
  | some (.inl (t', n, .inr (.inr (.inr (.inr g))))) => f t' n g
  | _ => none
def x_ar (h : xH) (a : Nat) (f : Nat → xO) : xO := match h[a]? with
  | some (.inl (_, n, _)) => f n
  | _ => none
def x_in (i : Int32) (n : Nat) (o : xO) : xO := if i < 0 ∨ n ≤ i.toNatClampNeg then none else o
/-- the class of an object's fields' types, its table, its number of fields -/
def x_cls (ci : Nat) : Option vw_C := (vwCl : List vw_C)[ci]?
def x_fty : Nat → Nat → FieldType := fun ci => match ci with
  | 0 => tyX0
  | 1 => tyX1
  | 2 => tyX2
  | 3 => tyX3
  | 4 => tyX4
  | 5 => tyX5
  | 6 => tyX6
  | 7 => tyX7
  | 8 => tyX8
  | 9 => tyX9
  | 10 => tyX10
  | 11 => tyX11
  | _ => tyX12
def x_fit : FieldType → Value → Bool
  | .int, .int _ => true
  | .long, .long _ => true
  | .boolean, .int x => x == 0 || x == 1
  | .object _, .ref _ => true
  | .array _, .ref _ => true
  | _, _ => false
def x_ret (ret : Option FieldType) (ins : Instr) (st : List Value) : Option (Option Value) := match ins with
  | .ireturn => match ret, st with
    | some .int, [.int v] => some (some (.int v))
    | some .boolean, [.int v] => bif v == 0 || v == 1 then some (some (.int v)) else none
    | _, _ => none
  | .lreturn => match ret, st with
    | some .long, [.long v] => some (some (.long v))
    | _, _ => none
  | .areturn => match ret, st with
    | some (.object _), [.ref v] => some (some (.ref v))
    | _, _ => none
  | .return_ => match ret, st with
    | none, [] => some none
    | _, _ => none
  | _ => none
def x_cond (op : ClassFile.Cond) (x y : Int32) (a b : xO) : xO := match op with
  | .eq => if x = y then a else b
  | .ne => if ¬ x = y then a else b
  | .lt => if x < y then a else b
  | .ge => if y ≤ x then a else b
  | .gt => if y < x then a else b
  | .le => if x ≤ y then a else b
/-- constants, locals, arithmetic, stack, branches -/
def x_ins1 (ins : Instr) (pc a : Nat) (l : xL) (st : List Value) (h : xH) (k z : Nat) : xO := match ins with
  | .iconst n => x_go (pc + 1) l (.int (Int32.ofInt n) :: st) h k z
  | .bipush n => x_go (pc + 2) l (.int (Int8.ofInt n).toInt32 :: st) h k z
  | .sipush n => x_go (pc + 3) l (.int (Int16.ofInt n).toInt32 :: st) h k z
  | .lconst n => x_go (pc + 1) l (.long (Int64.ofNat (n : Nat)) :: st) h k z
  | .ldc _ => bif Nat.ble 4294967296 a then x_go (pc + 2) l (.ref (x_str + (a - 4294967296)) :: st) h k z else x_go (pc + 2) l (.int (Int32.ofNat a) :: st) h k z
  | .ldc_w _ => x_go (pc + 3) l (.int (Int32.ofNat a) :: st) h k z
  | .ldc2_w _ => x_go (pc + 3) l (.long (Int64.ofNat a) :: st) h k z
  | .iload_n n => match x_ld l n with
    | some (.int x) => x_go (pc + 1) l (.int x :: st) h k z
    | _ => none
  | .iload n => match x_ld l n with
    | some (.int x) => x_go (pc + 2) l (.int x :: st) h k z
    | _ => none
  | .lload_n n => match x_ld l n with
    | some (.long x) => x_go (pc + 1) l (.long x :: st) h k z
    | _ => none
  | .lload n => match x_ld l n with
    | some (.long x) => x_go (pc + 2) l (.long x :: st) h k z
    | _ => none
  | .aload_n n => match x_ld l n with
    | some (.ref x) => x_go (pc + 1) l (.ref x :: st) h k z
    | _ => none
  | .aload n => match x_ld l n with
    | some (.ref x) => x_go (pc + 2) l (.ref x :: st) h k z
    | _ => none
  | .istore_n n => x_i1 st fun x r => x_go (pc + 1) (x_st1 l n (.int x)) r h k z
  | .istore n => x_i1 st fun x r => x_go (pc + 2) (x_st1 l n (.int x)) r h k z
  | .lstore_n n => x_l1 st fun x r => x_go (pc + 1) (x_st2 l n (.long x)) r h k z
  | .lstore n => x_l1 st fun x r => x_go (pc + 2) (x_st2 l n (.long x)) r h k z
  | .astore_n n => x_a1 st fun x r => x_go (pc + 1) (x_st1 l n (.ref x)) r h k z
  | .astore n => x_a1 st fun x r => x_go (pc + 2) (x_st1 l n (.ref x)) r h k z
  | .iinc i n => match x_ld l i with
    | some (.int x) => x_go (pc + 3) (x_st1 l i (.int (x + Int32.ofInt n))) st h k z
    | _ => none
  | .iadd => x_i2 st fun x y r => x_go (pc + 1) l (.int (x + y) :: r) h k z
  | .isub => x_i2 st fun x y r => x_go (pc + 1) l (.int (x - y) :: r) h k z
  | .imul => x_i2 st fun x y r => x_go (pc + 1) l (.int (x * y) :: r) h k z
  | .iand => x_i2 st fun x y r => x_go (pc + 1) l (.int (x &&& y) :: r) h k z
  | .ior => x_i2 st fun x y r => x_go (pc + 1) l (.int (x ||| y) :: r) h k z
  | .ixor => x_i2 st fun x y r => x_go (pc + 1) l (.int (x ^^^ y) :: r) h k z
  | .idiv => x_i2 st fun x y r => if y = 0 then none else x_go (pc + 1) l (.int (x / y) :: r) h k z
  | .irem => x_i2 st fun x y r => if y = 0 then none else x_go (pc + 1) l (.int (x - x / y * y) :: r) h k z
  | .ishl => x_i2 st fun x y r => x_go (pc + 1) l (.int (x <<< (y &&& 31)) :: r) h k z
  | .ishr => x_i2 st fun x y r => x_go (pc + 1) l (.int (x >>> (y &&& 31)) :: r) h k z
  | .iushr => x_i2 st fun x y r => x_go (pc + 1) l (.int (x.toUInt32 >>> (y.toUInt32 &&& Int32.toUInt32 31)).toInt32 :: r) h k z
  | .ladd => x_l2 st fun x y r => x_go (pc + 1) l (.long (x + y) :: r) h k z
  | .lmul => x_l2 st fun x y r => x_go (pc + 1) l (.long (x * y) :: r) h k z
  | .land => x_l2 st fun x y r => x_go (pc + 1) l (.long (x &&& y) :: r) h k z
  | .lor => x_l2 st fun x y r => x_go (pc + 1) l (.long (x ||| y) :: r) h k z
  | .ldiv => x_l2 st fun x y r => if y = 0 then none else x_go (pc + 1) l (.long (x / y) :: r) h k z
  | .lrem => x_l2 st fun x y r => if y = 0 then none else x_go (pc + 1) l (.long (x - x / y * y) :: r) h k z
  | .lshl => x_li st fun x y r => x_go (pc + 1) l (.long (x <<< (y.toInt64 &&& 63)) :: r) h k z
  | .lshr => x_li st fun x y r => x_go (pc + 1) l (.long (x >>> (y.toInt64 &&& 63)) :: r) h k z
  | .lcmp => x_l2 st fun x y r => x_go (pc + 1) l (.int (lg_cmp x y) :: r) h k z
  | .i2l => x_i1 st fun x r => x_go (pc + 1) l (.long x.toInt64 :: r) h k z
  | .l2i => x_l1 st fun x r => x_go (pc + 1) l (.int x.toInt32 :: r) h k z
  | .i2b => x_i1 st fun x r => x_go (pc + 1) l (.int x.toInt8.toInt32 :: r) h k z
  | .i2s => x_i1 st fun x r => x_go (pc + 1) l (.int x.toInt16.toInt32 :: r) h k z
  | .dup => x_v1 st fun v r => bif Nat.beq v.category 1 then x_go (pc + 1) l (v :: v :: r) h k z else none
  | .dup2 => x_v2 st fun v w r => bif Nat.beq v.category 1 && Nat.beq w.category 1 then x_go (pc + 1) l (v :: w :: v :: w :: r) h k z else none
  | .pop => x_v1 st fun v r => bif Nat.beq v.category 1 then x_go (pc + 1) l r h k z else none
  | .pop2 => x_v1 st fun v r => bif Nat.beq v.category 2 then x_go (pc + 1) l r h k z else none
  | .ifCond op off => x_i1 st fun x r => x_br pc off fun t => x_cond op x 0 (x_go t l r h k z) (x_go (pc + 3) l r h k z)
  | .if_icmp op off => x_i2 st fun x y r => x_br pc off fun t => x_cond op x y (x_go t l r h k z) (x_go (pc + 3) l r h k z)
  | .goto off => x_br pc off fun t => x_go t l st h k z
  | .tableswitch d lo hi offs => x_i1 st fun x r => if x.toInt < lo ∨ hi < x.toInt then x_br pc d fun t => x_go t l r h k z else match offs[(x.toInt - lo).toNat]? with
    | some off => x_br pc off fun t => x_go t l r h k z
    | none => none
  | .lookupswitch d ps => x_i1 st fun x r => if (ps.toList.zip (ps.toList.drop 1)).all (fun q => decide (q.1.1 < q.2.1)) = true then x_br pc (Op.lookupswitch.offset ps.toList d x.toInt) fun t => x_go t l r h k z else none
  | _ => none
/-- fields, arrays, new -/
def x_ins2 (S : Option xS) (ins : Instr) (pc a b : Nat) (l : xL) (st : List Value) (h : xH) (k z : Nat) : xO := match ins with
  | .getfield _ => x_a1 st fun q r => x_ob h q fun c fs => bif Nat.beq c a then (match fs[b]? with
    | some v => x_go (pc + 3) l (v :: r) h k z
    | none => none) else none
  | .putfield _ => x_av st fun q v r => x_ob h q fun c fs => bif Nat.beq c a && (x_fit (x_fty a b) v && Nat.blt b fs.length) then x_go (pc + 3) l r (h.set q (.inr (c, fs.set b v))) k z else none
  | .iaload => x_ai st fun q i r => bif Nat.beq q x_scr then (match S with
    | some (n, f) => x_in i n (x_go (pc + 1) l (.int (f i.toNatClampNeg) :: r) h k z)
    | none => none) else x_ari 0 h q fun n f => x_in i n (x_go (pc + 1) l (.int (f i.toNatClampNeg) :: r) h k z)
  | .iastore => x_aii st fun q i x r => x_ari 0 h q fun n f => x_in i n (x_go (pc + 1) l r (h.set q (.inl (0, n, .inl (upd f i.toNatClampNeg x)))) k z)
  | .baload => x_ai st fun q i r => match h[q]? with
    | some (.inl (2, n, .inl f)) => x_in i n (x_go (pc + 1) l (.int (f i.toNatClampNeg) :: r) h k z)
    | some (.inl (3, n, .inl f)) => x_in i n (x_go (pc + 1) l (.int (f i.toNatClampNeg) :: r) h k z)
    | _ => none
  | .bastore => x_aii st fun q i x r => match h[q]? with
    | some (.inl (2, n, .inl f)) => x_in i n (x_go (pc + 1) l r (h.set q (.inl (2, n, .inl (upd f i.toNatClampNeg (vp_nar .byte x))))) k z)
    | some (.inl (3, n, .inl f)) => x_in i n (x_go (pc + 1) l r (h.set q (.inl (3, n, .inl (upd f i.toNatClampNeg (vp_nar .boolean x))))) k z)
    | _ => none
  | .laload => x_ai st fun q i r => x_arl h q fun n f => x_in i n (x_go (pc + 1) l (.long (f i.toNatClampNeg) :: r) h k z)
  | .lastore => x_ail st fun q i x r => x_arl h q fun n f => x_in i n (x_go (pc + 1) l r (h.set q (.inl (1, n, .inr (.inl (vp_updL f i.toNatClampNeg x))))) k z)
  | .aaload => x_ai st fun q i r => x_arq h q fun t n f => bif Nat.ble 4 t then x_in i n (x_go (pc + 1) l (va_rf (f i.toNatClampNeg) :: r) h k z) else none
  | .aastore => x_aiq st fun q i x r => x_arq h q fun t n f => x_ob h x fun c _ => bif Nat.beq t (4 + c) then x_in i n (x_go (pc + 1) l r (h.set q (.inl (t, n, .inr (.inr (.inr (.inr (va_up f i.toNatClampNeg (some x)))))))) k z) else none
  | .arraylength => x_a1 st fun q r => bif Nat.beq q x_scr then (match S with
    | some (n, _) => x_go (pc + 1) l (.int (Int32.ofNat n) :: r) h k z
    | none => none) else x_ar h q fun n => x_go (pc + 1) l (.int (Int32.ofNat n) :: r) h k z
  | .newarray t => x_i1 st fun n r => if n < 0 ∨ 60000000 < n.toNatClampNeg ∨ x_scr ≤ h.length then none else match t with
    | .int => x_go (pc + 2) l (.ref h.length :: r) (h ++ [.inl (0, n.toNatClampNeg, .inl (fun _ => 0))]) (k + 1) (z + n.toNatClampNeg)
    | .long => x_go (pc + 2) l (.ref h.length :: r) (h ++ [.inl (1, n.toNatClampNeg, .inr (.inl (fun _ => 0)))]) (k + 1) (z + n.toNatClampNeg)
    | .byte => x_go (pc + 2) l (.ref h.length :: r) (h ++ [.inl (2, n.toNatClampNeg, .inl (fun _ => 0))]) (k + 1) (z + n.toNatClampNeg)
    | .boolean => x_go (pc + 2) l (.ref h.length :: r) (h ++ [.inl (3, n.toNatClampNeg, .inl (fun _ => 0))]) (k + 1) (z + n.toNatClampNeg)
    | _ => none
  | .anewarray _ => x_i1 st fun n r => if n < 0 ∨ 60000000 < n.toNatClampNeg ∨ x_scr ≤ h.length then none else x_go (pc + 3) l (.ref h.length :: r) (h ++ [.inl (4 + a, n.toNatClampNeg, .inr (.inr (.inr (.inr (fun _ => none)))))]) (k + 1) (z + n.toNatClampNeg)
  | .new _ => if x_scr ≤ h.length then none else x_go (pc + 3) l (.ref h.length :: st) (h ++ [.inr (a, (List.range b).map (fun j => defaultValue (x_fty a j)))]) (k + 1) (z + b)
  | _ => none
/-- a call with its arguments, the receiver (if any) ahead of them -/
def x_cal (static : Bool) (a n : Nat) (st : List Value) : xO := bif static then (bif Nat.ble n st.length && Nat.ble (x_cat (st.drop n)) 8 then some (.inr (.inl (a, (st.take n).reverse, st.drop n))) else none) else match st.drop n with
  | .ref q :: r => bif Nat.ble (x_cat r) 8 then some (.inr (.inl (a, .ref q :: (st.take n).reverse, r))) else none
  | _ => none
/-- calls -/
def x_ins3 (ins : Instr) (pc a b : Nat) (l : xL) (st : List Value) (h : xH) (k z : Nat) : xO := match ins with
  | .invokespecial _ => bif Nat.beq a 9000 then x_a1 st fun _ r => (bif Nat.ble (x_cat r) 8 then x_go (pc + 3) l r h k z else none) else x_cal false a b st
  | .invokevirtual _ => bif Nat.beq a 9006 then x_a1 st fun q r => (bif Nat.ble (x_cat r) 8 && Nat.ble x_str q then (match x_sbyt[q - x_str]? with
      | some bs => x_go (pc + 3) l (.int (Int32.ofNat bs.length) :: r) h k z
      | none => none) else none)
    else bif Nat.beq a 9007 then x_ai st fun q i r => (bif Nat.ble (x_cat r) 8 && Nat.ble x_str q then (match x_sbyt[q - x_str]? with
      | some bs => x_in i bs.length (x_go (pc + 3) l (.int (bs.getD i.toNatClampNeg 0) :: r) h k z)
      | none => none) else none)
    else x_cal false a b st
  | .invokestatic _ => bif Nat.beq a 9001 then x_i2 st fun x y r => (bif Nat.ble (x_cat r) 8 then x_go (pc + 3) l (.int (if x < y then y else x) :: r) h k z else none)
    else bif Nat.beq a 9002 then x_i2 st fun x y r => (bif Nat.ble (x_cat r) 8 then x_go (pc + 3) l (.int (if y < x then y else x) :: r) h k z else none)
    else bif Nat.beq a 9003 then x_i1 st fun x r => (bif Nat.ble (x_cat r) 8 then x_go (pc + 3) l (.int (if 0 ≤ x then x else 0 - x) :: r) h k z else none)
    else bif Nat.beq a 9004 then x_cp st fun a0 sp a1 dp n r => (bif Nat.ble (x_cat r) 8 then x_ari 0 h a0 fun n0 f => x_ari 0 h a1 fun n1 g => if sp < 0 ∨ dp < 0 ∨ n < 0 ∨ n0 < sp.toNatClampNeg + n.toNatClampNeg ∨ n1 < dp.toNatClampNeg + n.toNatClampNeg then none else x_go (pc + 3) l r (h.set a1 (.inl (0, n1, .inl (va_cpy f g sp.toNatClampNeg dp.toNatClampNeg n.toNatClampNeg)))) k z else none)
    else bif Nat.beq a 9005 then x_cp st fun a0 sp a1 dp n r => (bif Nat.ble (x_cat r) 8 then x_arl h a0 fun n0 f => x_arl h a1 fun n1 g => if sp < 0 ∨ dp < 0 ∨ n < 0 ∨ n0 < sp.toNatClampNeg + n.toNatClampNeg ∨ n1 < dp.toNatClampNeg + n.toNatClampNeg then none else x_go (pc + 3) l r (h.set a1 (.inl (1, n1, .inr (.inl (va_cpy f g sp.toNatClampNeg dp.toNatClampNeg n.toNatClampNeg))))) k z else none)
    else x_cal true a b st
  | _ => none
/-- of which group an instruction is -/
def x_grp : Instr → Nat
  | .getfield _ | .putfield _ | .iaload | .iastore | .baload | .bastore | .laload | .lastore | .aaload | .aastore | .arraylength | .newarray _ | .anewarray _ | .new _ => 2
  | .invokespecial _ | .invokevirtual _ | .invokestatic _ => 3
  | .ireturn | .lreturn | .areturn | .return_ => 4
  | _ => 1
def x_step (M : xM) (S : Option xS) (c : xC) : xO := match x_row M.2.2.2.2.2.2.2 c.1 with
  | none => none
  | some r => match x_grp r.2.1 with
    | 1 => x_ins1 r.2.1 c.1 r.2.2.2.1 c.2.1 c.2.2.1 c.2.2.2.1 c.2.2.2.2.1 c.2.2.2.2.2
    | 2 => x_ins2 S r.2.1 c.1 r.2.2.2.1 r.2.2.2.2.1 c.2.1 c.2.2.1 c.2.2.2.1 c.2.2.2.2.1 c.2.2.2.2.2
    | 3 => x_ins3 r.2.1 c.1 r.2.2.2.1 r.2.2.2.2.1 c.2.1 c.2.2.1 c.2.2.2.1 c.2.2.2.2.1 c.2.2.2.2.2
    | _ => match x_ret M.2.2.2.2.1 r.2.1 c.2.2.1 with
      | some v => some (.inr (.inr v))
      | none => none
/-- the receiver is an object of the method's own class -/
def x_rcv (M : xM) (vs : List Value) (h : xH) : Bool := M.2.2.2.2.2.1 || (match vs with
  | .ref q :: _ => (match h[q]? with
    | some (.inr (c, _)) => Nat.beq c M.2.2.2.2.2.2.1
    | _ => false)
  | _ => false)
/-- n steps at most, calls at most d deep below this one -/
def x_run (mt : List xM) (S : Option xS) : Nat → Nat → xM → xC → Option (Option Value × xH × Nat × Nat)
  | 0, _, _, _ => none
  | n + 1, d, M, c => match x_step M S c with
    | none => none
    | some (.inl c') => x_run mt S n d M c'
    | some (.inr (.inr v)) => some (v, c.2.2.2.1, c.2.2.2.2.1, c.2.2.2.2.2)
    | some (.inr (.inl q)) => match d, mt[q.1]? with
      | d' + 1, some M' => bif Nat.ble (x_cat q.2.1) M'.2.2.2.1 && x_rcv M' q.2.1 c.2.2.2.1 then (match x_run mt none n d' M' (0, lv_args 0 q.2.1, [], c.2.2.2.1, 0, 0) with
        | some r => x_run mt S n (d' + 1) M (c.1 + 3, c.2.1, r.1.toList ++ q.2.2, r.2.1, c.2.2.2.2.1 + r.2.2.1, c.2.2.2.2.2 + r.2.2.2)
        | none => none) else none
      | _, _ => none
