/-! THE CLEAN MACHINE: what the methods' bytecode does, without the JVM around it. A reference carries its sort: (0, c, a) an object of class c; (1, n, a) int[], (2, n, a) byte[], (3, n, a) boolean[], (4, n, a) long[]; (5..9, n, a) Basket[], Clues[], Parish[], Told[], Year[]; (10, k, _) the String constant k. The heap is what ints and longs stand at (address, place). -/
def qm_wide (o : Option qm_V) : Bool := match o with
  | some (.inr (.inl _)) => true
  | _ => false
def qm_kill (L : List (Option qm_V)) (i : Nat) : List (Option qm_V) := match i with
  | 0 => L
  | j + 1 => if qm_wide (L.getD j none) = true then L.set j none else L
def qm_st1 (L : List (Option qm_V)) (i : Nat) (v : qm_V) : List (Option qm_V) := (qm_kill L i).set i (some v)
def qm_st2 (L : List (Option qm_V)) (i : Nat) (v : qm_V) : List (Option qm_V) := ((qm_kill L i).set i (some v)).set (i + 1) none
def qm_cat (v : qm_V) : Nat := match v with
  | .inr (.inl _) => 2
  | _ => 1
/-- the type of field k of class c: 0 an int, 1 a long, 2 a reference, 3 a boolean -/
def qm_ft (c k : Nat) : Nat := match c with
  | 0 => (match k with | 0 => 2 | 1 => 2 | 2 => 2 | 3 => 0 | 4 => 0 | 5 => 3 | _ => 1)
  | 1 => (match k with | 0 => 2 | _ => 0)
  | 2 => (match k with | 0 => 2 | 1 => 2 | _ => 0)
  | 3 => (match k with | 0 => 2 | 1 => 2 | 2 => 2 | 3 => 2 | 4 => 2 | _ => 0)
  | 4 => (match k with | 0 => 2 | 1 => 2 | 2 => 2 | 3 => 2 | 4 => 2 | 5 => 2 | _ => 0)
  | 5 => (match k with | 0 => 2 | 1 => 0 | 2 => 0 | 3 => 0 | _ => 3)
  | 6 => (match k with | 0 => 2 | _ => 0)
  | 7 => (match k with | 0 => 2 | 1 => 2 | 2 => 2 | _ => 0)
  | 8 => (match k with | 0 => 2 | _ => 0)
  | 9 => (match k with | 0 => 2 | 1 => 2 | 2 => 2 | 3 => 2 | 4 => 2 | 5 => 2 | _ => 0)
  | 10 => (match k with | 0 => 2 | _ => 0)
  | 11 => 2
  | _ => (match k with | 0 => 0 | 10 => 0 | 11 => 0 | 12 => 0 | 13 => 0 | 14 => 0 | 15 => 1 | 16 => 0 | 17 => 0 | 18 => 0 | 21 => 0 | 22 => 0 | 23 => 3 | 24 => 0 | 25 => 0 | 26 => 0 | 27 => 0 | 28 => 0 | 32 => 0 | 35 => 0 | 40 => 0 | 41 => 0 | 42 => 0 | 46 => 0 | 47 => 0 | 49 => 0 | _ => 2)
/-- where the reference in field k of the object a of class c goes: sort, number, address -/
def qm_ref (c k a : Nat) : Nat × Nat × Nat := match c with
  | 0 => (match k with | 0 => (1, 16, a + 1) | 1 => (1, 16, a + 2) | _ => (1, 81, a + 3))
  | 1 => (1, 30, a + 1)
  | 2 => (match k with | 0 => (1, 6, a + 1) | _ => (1, 8, a + 2))
  | 3 => (match k with | 0 => (0, 8, a + 12) | 1 => (0, 0, a + 1) | 2 => (0, 10, a + 5) | 3 => (0, 2, a + 7) | _ => (0, 1, a + 10))
  | 4 => (match k with | 0 => (1, 6, a + 1) | 1 => (1, 6, a + 2) | 2 => (1, 256, a + 3) | 3 => (1, 256, a + 4) | 4 => (1, 6, a + 5) | _ => (1, 4, a + 6))
  | 5 => (1, 64, a + 1)
  | 6 => (0, 0, a + 1)
  | 7 => (match k with | 0 => (4, 64, a + 1) | 1 => (1, 3, a + 2) | _ => (1, 64, a + 3))
  | 8 => (2, 600, a - 41)
  | 9 => (match k with | 0 => (2, 600, a + 1) | 1 => (1, 4, a + 2) | 2 => (5, 2, a + 3) | 3 => (9, 2, a + 4) | 4 => (7, 2, a + 5) | _ => (6, 2, a + 6))
  | 10 => (1, 160, a + 1)
  | 11 => (match k with | 0 => (0, 9, a + 1) | 1 => (8, 3, a + 30) | 2 => (0, 3, a + 31) | 3 => (0, 6, a + 44) | 4 => (0, 7, a + 49) | 5 => (0, 4, a + 53) | _ => (0, 5, a + 60))
  | _ => (match k with | 1 => (2, 2400, a + 1) | 2 => (1, 4, a + 2) | 3 => (1, 4, a + 3) | 4 => (1, 4, a + 4) | 5 => (1, 16, a + 5) | 6 => (1, 344, a + 6) | 7 => (1, 1288, a + 7) | 8 => (1, 136, a + 8) | 9 => (1, 264, a + 9) | 19 => (1, 161, a + 10) | 20 => (1, 4, a + 11) | 29 => (1, 16, a + 12) | 30 => (1, 16, a + 13) | 31 => (1, 8, a + 14) | 33 => (1, 3, a + 15) | 34 => (4, 64, a + 16) | 36 => (1, 3, a + 17) | 37 => (1, 64, a + 18) | 38 => (1, 64, a + 19) | 39 => (1, 8, a + 20) | 43 => (1, 6, a + 21) | 44 => (1, 1792, a + 22) | 45 => (1, 6, a + 23) | 48 => (1, 1296, a + 24) | _ => (3, 3, a + 25))
/-- how many fields class c has -/
def qm_nf (c : Nat) : Nat := match c with
  | 0 => 7 | 1 => 4 | 2 => 5 | 3 => 9 | 4 => 7 | 5 => 5 | 6 => 5 | 7 => 4 | 8 => 6 | 9 => 9 | 10 => 2 | 11 => 7 | _ => 51
/-- the element j of the array of references at a, by its sort: class and address (the images' elements come and go: 8) -/
def qm_el (s a j : Nat) : Nat × Nat := match s with
  | 5 => (0, a + 4 + 11 * j)
  | 6 => (1, a + 10 + 11 * j)
  | 7 => (2, a + 8 + 11 * j)
  | 8 => (9, 1000 * (j + 1))
  | _ => (10, a + 7 + 11 * j)
/-- what an array of references holds -/
def qm_elv (h : qm_H) (s a j : Nat) : Option (Nat × Nat × Nat) := if s = 8 ∧ h.1 a j = 0 then none else some (0, (qm_el s a j).1, (qm_el s a j).2)
def qm_getf (h : qm_H) (c k a : Nat) : qm_V := match qm_ft c k with
  | 1 => qm_l (h.2 a k)
  | 2 => .inr (.inr (some (qm_ref c k a)))
  | _ => qm_i (h.1 a k)
abbrev qm_go (pc : Nat) (L : List (Option qm_V)) (S : List qm_V) (h : qm_H) : Option (qm_F ⊕ qm_O) := some (.inl (pc, L, S, h))
def qm_tgt (pc : Nat) (off : Int) : Nat := ((pc : Int) + off).toNat
/-- a jump: where to, by a condition -/
def qm_br (b : Prop) [Decidable b] (pc : Nat) (off : Int) (L : List (Option qm_V)) (S : List qm_V) (h : qm_H) : Option (qm_F ⊕ qm_O) := if (pc : Int) + off < 0 then none else some (.inl (if b then qm_tgt pc off else pc + 3, L, S, h))
def qm_cond (cd : Jvm.ClassFile.Cond) (x y : Int32) : Bool := match cd with
  | .eq => decide (x = y) | .ne => decide (¬ x = y) | .lt => decide (x < y) | .ge => decide (y ≤ x) | .gt => decide (y < x) | .le => decide (x ≤ y)
def qm_ii (S : List qm_V) (k : Int32 → Int32 → List qm_V → Option (qm_F ⊕ qm_O)) : Option (qm_F ⊕ qm_O) := match S with
  | .inl y :: .inl x :: T => k x y T
  | _ => none
def qm_ll (S : List qm_V) (k : Int64 → Int64 → List qm_V → Option (qm_F ⊕ qm_O)) : Option (qm_F ⊕ qm_O) := match S with
  | .inr (.inl y) :: .inr (.inl x) :: T => k x y T
  | _ => none
def qm_li (S : List qm_V) (k : Int64 → Int32 → List qm_V → Option (qm_F ⊕ qm_O)) : Option (qm_F ⊕ qm_O) := match S with
  | .inl y :: .inr (.inl x) :: T => k x y T
  | _ => none
def qm_1i (S : List qm_V) (k : Int32 → List qm_V → Option (qm_F ⊕ qm_O)) : Option (qm_F ⊕ qm_O) := match S with
  | .inl x :: T => k x T
  | _ => none
def qm_1l (S : List qm_V) (k : Int64 → List qm_V → Option (qm_F ⊕ qm_O)) : Option (qm_F ⊕ qm_O) := match S with
  | .inr (.inl x) :: T => k x T
  | _ => none
def qm_1r (S : List qm_V) (k : Option (Nat × Nat × Nat) → List qm_V → Option (qm_F ⊕ qm_O)) : Option (qm_F ⊕ qm_O) := match S with
  | .inr (.inr x) :: T => k x T
  | _ => none
def qm_ldi (L : List (Option qm_V)) (i : Nat) (k : Int32 → Option (qm_F ⊕ qm_O)) : Option (qm_F ⊕ qm_O) := match L.getD i none with
  | some (.inl x) => k x
  | _ => none
def qm_ldl (L : List (Option qm_V)) (i : Nat) (k : Int64 → Option (qm_F ⊕ qm_O)) : Option (qm_F ⊕ qm_O) := match L.getD i none with
  | some (.inr (.inl x)) => k x
  | _ => none
def qm_lda (L : List (Option qm_V)) (i : Nat) (k : Option (Nat × Nat × Nat) → Option (qm_F ⊕ qm_O)) : Option (qm_F ⊕ qm_O) := match L.getD i none with
  | some (.inr (.inr x)) => k x
  | _ => none
/-- an array of a sort on the stack, behind an index -/
def qm_ai (S : List qm_V) (k : Int32 → Nat → Nat → Nat → List qm_V → Option (qm_F ⊕ qm_O)) : Option (qm_F ⊕ qm_O) := match S with
  | .inl j :: .inr (.inr (some (s, n, a))) :: T => if j < 0 ∨ n ≤ j.toNatClampNeg then none else k j s n a T
  | _ => none
def qm_cont (X : Option qm_O) (pc : Nat) (L : List (Option qm_V)) (T : List qm_V) : Option (qm_F ⊕ qm_O) := match X with
  | some o => some (.inl (pc, L, o.1.toList ++ T, o.2))
  | none => none
def qm_inv (call : Nat → Option (Nat × Nat × qm_C)) (kd idx pc : Nat) (L : List (Option qm_V)) (S : List qm_V) (h : qm_H) : Option (qm_F ⊕ qm_O) := match call idx with
  | some (kd', n, f) => if kd = kd' ∧ n ≤ S.length ∧ ((S.drop n).map qm_cat).sum ≤ 8 then qm_cont (f (S.take n).reverse h) (pc + 3) L (S.drop n) else none
  | none => none
def qm_sw (x : Int32) (d lo hi : Int) (offs : Array Int) (pc : Nat) (L : List (Option qm_V)) (T : List qm_V) (h : qm_H) : Option (qm_F ⊕ qm_O) := if x.toInt < lo ∨ hi < x.toInt then (if (pc : Int) + d < 0 then none else qm_go (qm_tgt pc d) L T h) else (match offs[(x.toInt - lo).toNat]? with | some o => if (pc : Int) + o < 0 then none else qm_go (qm_tgt pc o) L T h | none => none)
def qm_pf (S : List qm_V) (fk : Option (Nat × Nat)) (pc : Nat) (L : List (Option qm_V)) (h : qm_H) : Option (qm_F ⊕ qm_O) := match S, fk with
  | .inl x :: .inr (.inr (some (0, c, a))) :: T, some (c', j) => if c = c' ∧ (qm_ft c j = 0 ∨ qm_ft c j = 3 ∧ x &&& 1 = x) then qm_go (pc + 3) L T (qm_seti h a j x) else none
  | .inr (.inl x) :: .inr (.inr (some (0, c, a))) :: T, some (c', j) => if c = c' ∧ qm_ft c j = 1 then qm_go (pc + 3) L T (qm_setl h a j x) else none
  | _, _ => none
def qm_irt (S : List qm_V) (ret : Option FieldType) (h : qm_H) : Option (qm_F ⊕ qm_O) := match S, ret with
  | [.inl x], some .int => some (.inr (some (qm_i x), h))
  | [.inl x], some .boolean => if x &&& 1 = x then some (.inr (some (qm_i x), h)) else none
  | _, _ => none
def qm_lrt (S : List qm_V) (ret : Option FieldType) (h : qm_H) : Option (qm_F ⊕ qm_O) := match S, ret with
  | [.inr (.inl x)], some .long => some (.inr (some (qm_l x), h))
  | _, _ => none
def qm_art (S : List qm_V) (ret : Option FieldType) (h : qm_H) : Option (qm_F ⊕ qm_O) := match S, ret with
  | [.inr (.inr x)], some (.object _) => some (.inr (some (.inr (.inr x)), h))
  | _, _ => none
def qm_vrt (S : List qm_V) (ret : Option FieldType) (h : qm_H) : Option (qm_F ⊕ qm_O) := match S, ret with
  | [], none => some (.inr (none, h))
  | _, _ => none
/-- one step: fld: a pool's fields; con: its constants; call: its methods -/
def qm_step (ret : Option FieldType) (fld : Nat → Option (Nat × Nat)) (con : Nat → Option qm_V) (call : Nat → Option (Nat × Nat × qm_C)) (ins : Instr) (len pc : Nat) (L : List (Option qm_V)) (S : List qm_V) (h : qm_H) : Option (qm_F ⊕ qm_O) := match ins with
  | .iconst n => qm_go (pc + 1) L (qm_i (Int32.ofInt n) :: S) h
  | .bipush n => qm_go (pc + 2) L (qm_i (Int8.ofInt n).toInt32 :: S) h
  | .sipush n => qm_go (pc + 3) L (qm_i (Int16.ofInt n).toInt32 :: S) h
  | .lconst n => qm_go (pc + 1) L (qm_l (Int64.ofNat (n : Nat)) :: S) h
  | .aconst_null => qm_go (pc + 1) L (qm_0 :: S) h
  | .iload_n k => qm_ldi L k fun x => qm_go (pc + 1) L (qm_i x :: S) h
  | .iload i => qm_ldi L i fun x => qm_go (pc + 2) L (qm_i x :: S) h
  | .lload_n k => qm_ldl L k fun x => qm_go (pc + 1) L (qm_l x :: S) h
  | .lload i => qm_ldl L i fun x => qm_go (pc + 2) L (qm_l x :: S) h
  | .aload_n k => qm_lda L k fun x => qm_go (pc + 1) L (.inr (.inr x) :: S) h
  | .aload i => qm_lda L i fun x => qm_go (pc + 2) L (.inr (.inr x) :: S) h
  | .istore_n k => qm_1i S fun x T => if (k : Nat) < L.length then qm_go (pc + 1) (qm_st1 L k (qm_i x)) T h else none
  | .istore i => qm_1i S fun x T => if i < L.length then qm_go (pc + 2) (qm_st1 L i (qm_i x)) T h else none
  | .astore_n k => qm_1r S fun x T => if (k : Nat) < L.length then qm_go (pc + 1) (qm_st1 L k (.inr (.inr x))) T h else none
  | .astore i => qm_1r S fun x T => if i < L.length then qm_go (pc + 2) (qm_st1 L i (.inr (.inr x))) T h else none
  | .lstore_n k => qm_1l S fun x T => if (k : Nat) + 1 < L.length then qm_go (pc + 1) (qm_st2 L k (qm_l x)) T h else none
  | .lstore i => qm_1l S fun x T => if i + 1 < L.length then qm_go (pc + 2) (qm_st2 L i (qm_l x)) T h else none
  | .iinc i n => qm_ldi L i fun x => if i < L.length then qm_go (pc + 3) (qm_st1 L i (qm_i (x + Int32.ofInt n))) S h else none
  | .iadd => qm_ii S fun x y T => qm_go (pc + 1) L (qm_i (x + y) :: T) h
  | .isub => qm_ii S fun x y T => qm_go (pc + 1) L (qm_i (x - y) :: T) h
  | .imul => qm_ii S fun x y T => qm_go (pc + 1) L (qm_i (x * y) :: T) h
  | .iand => qm_ii S fun x y T => qm_go (pc + 1) L (qm_i (x &&& y) :: T) h
  | .ior => qm_ii S fun x y T => qm_go (pc + 1) L (qm_i (x ||| y) :: T) h
  | .ixor => qm_ii S fun x y T => qm_go (pc + 1) L (qm_i (x ^^^ y) :: T) h
  | .idiv => qm_ii S fun x y T => if y = 0 then none else qm_go (pc + 1) L (qm_i (x / y) :: T) h
  | .irem => qm_ii S fun x y T => if y = 0 then none else qm_go (pc + 1) L (qm_i (x - x / y * y) :: T) h
  | .ishl => qm_ii S fun x y T => qm_go (pc + 1) L (qm_i (x <<< (y &&& 31)) :: T) h
  | .ishr => qm_ii S fun x y T => qm_go (pc + 1) L (qm_i (x >>> (y &&& 31)) :: T) h
  | .iushr => qm_ii S fun x y T => qm_go (pc + 1) L (qm_i (x.toUInt32 >>> (y.toUInt32 &&& Int32.toUInt32 31)).toInt32 :: T) h
  | .ineg => qm_1i S fun x T => qm_go (pc + 1) L (qm_i (-x) :: T) h
  | .i2l => qm_1i S fun x T => qm_go (pc + 1) L (qm_l x.toInt64 :: T) h
  | .i2b => qm_1i S fun x T => qm_go (pc + 1) L (qm_i x.toInt8.toInt32 :: T) h
  | .l2i => qm_1l S fun x T => qm_go (pc + 1) L (qm_i x.toInt32 :: T) h
  | .lneg => qm_1l S fun x T => qm_go (pc + 1) L (qm_l (-x) :: T) h
  | .ladd => qm_ll S fun x y T => qm_go (pc + 1) L (qm_l (x + y) :: T) h
  | .lsub => qm_ll S fun x y T => qm_go (pc + 1) L (qm_l (x - y) :: T) h
  | .lmul => qm_ll S fun x y T => qm_go (pc + 1) L (qm_l (x * y) :: T) h
  | .land => qm_ll S fun x y T => qm_go (pc + 1) L (qm_l (x &&& y) :: T) h
  | .lor => qm_ll S fun x y T => qm_go (pc + 1) L (qm_l (x ||| y) :: T) h
  | .lxor => qm_ll S fun x y T => qm_go (pc + 1) L (qm_l (x ^^^ y) :: T) h
  | .ldiv => qm_ll S fun x y T => if y = 0 then none else qm_go (pc + 1) L (qm_l (x / y) :: T) h
  | .lrem => qm_ll S fun x y T => if y = 0 then none else qm_go (pc + 1) L (qm_l (x - x / y * y) :: T) h
  | .lcmp => qm_ll S fun x y T => qm_go (pc + 1) L (qm_i (lg_cmp x y) :: T) h
  | .lshl => qm_li S fun x y T => qm_go (pc + 1) L (qm_l (x <<< (y.toInt64 &&& 63)) :: T) h
  | .lushr => qm_li S fun x y T => qm_go (pc + 1) L (qm_l (x.toUInt64 >>> (y.toInt64.toUInt64 &&& Int64.toUInt64 63)).toInt64 :: T) h
  | .dup => (match S with | v :: T => if qm_cat v = 1 then qm_go (pc + 1) L (v :: v :: T) h else none | _ => none)
  | .pop => (match S with | v :: T => if qm_cat v = 1 then qm_go (pc + 1) L T h else none | _ => none)
  | .dup2 => (match S with | v :: w :: T => if qm_cat v = 1 ∧ qm_cat w = 1 then qm_go (pc + 1) L (v :: w :: v :: w :: T) h else none | _ => none)
  | .goto off => if (pc : Int) + off < 0 then none else qm_go (qm_tgt pc off) L S h
  | .ifCond cd off => qm_1i S fun x T => qm_br (qm_cond cd x 0 = true) pc off L T h
  | .if_icmp cd off => qm_ii S fun x y T => qm_br (qm_cond cd x y = true) pc off L T h
  | .ifnull off => qm_1r S fun x T => qm_br (x = none) pc off L T h
  | .ifnonnull off => qm_1r S fun x T => qm_br (¬ x = none) pc off L T h
  | .tableswitch d lo hi offs => qm_1i S fun x T => qm_sw x d lo hi offs pc L T h
  | .ldc k => (match con k with | some (.inl x) => qm_go (pc + 2) L (qm_i x :: S) h | some (.inr (.inr (some (10, n, 0)))) => qm_go (pc + 2) L (qm_r 10 n 0 :: S) h | _ => none)
  | .ldc_w k => (match con k with | some (.inl x) => qm_go (pc + 3) L (qm_i x :: S) h | _ => none)
  | .ldc2_w k => (match con k with | some (.inr (.inl x)) => qm_go (pc + 3) L (qm_l x :: S) h | _ => none)
  | .getfield k => qm_1r S fun r T => (match r, fld k with | some (0, c, a), some (c', j) => if c = c' then qm_go (pc + 3) L (qm_getf h c j a :: T) h else none | _, _ => none)
  | .putfield k => qm_pf S (fld k) pc L h
  | .arraylength => qm_1r S fun r T => (match r with | some (s, n, a) => if 1 ≤ s ∧ s ≤ 9 then qm_go (pc + 1) L (qm_i (Int32.ofNat n) :: T) h else none | none => none)
  | .iaload => qm_ai S fun j s _ a T => if s = 1 then qm_go (pc + 1) L (qm_i (h.1 a j.toNatClampNeg) :: T) h else none
  | .baload => qm_ai S fun j s _ a T => if s = 2 ∨ s = 3 then qm_go (pc + 1) L (qm_i (h.1 a j.toNatClampNeg) :: T) h else none
  | .laload => qm_ai S fun j s _ a T => if s = 4 then qm_go (pc + 1) L (qm_l (h.2 a j.toNatClampNeg) :: T) h else none
  | .aaload => qm_ai S fun j s _ a T => if 5 ≤ s ∧ s ≤ 9 then qm_go (pc + 1) L (.inr (.inr (qm_elv h s a j.toNatClampNeg)) :: T) h else none
  | .iastore => qm_1i S fun x T => qm_ai T fun j s _ a U => if s = 1 then qm_go (pc + 1) L U (qm_seti h a j.toNatClampNeg x) else none
  | .bastore => qm_1i S fun x T => qm_ai T fun j s _ a U => if s = 2 then qm_go (pc + 1) L U (qm_seti h a j.toNatClampNeg (vp_nar .byte x)) else if s = 3 then qm_go (pc + 1) L U (qm_seti h a j.toNatClampNeg (vp_nar .boolean x)) else none
  | .lastore => qm_1l S fun x T => qm_ai T fun j s _ a U => if s = 4 then qm_go (pc + 1) L U (qm_setl h a j.toNatClampNeg x) else none
  | .invokevirtual k => qm_inv call 0 k pc L S h
  | .invokespecial k => qm_inv call 1 k pc L S h
  | .invokestatic k => qm_inv call 2 k pc L S h
  | .ireturn => qm_irt S ret h
  | .lreturn => qm_lrt S ret h
  | .areturn => qm_art S ret h
  | .return_ => qm_vrt S ret h
  | _ => none
/-- a run of at most n steps; tab: the instructions by their places -/
def qm_run (ret : Option FieldType) (fld : Nat → Option (Nat × Nat)) (con : Nat → Option qm_V) (call : Nat → Option (Nat × Nat × qm_C)) (tab : Nat → Option (Instr × Nat)) : Nat → qm_F → Option qm_O
  | 0, _ => none
  | n + 1, (pc, L, S, h) => match tab pc with
    | some (ins, len) => (match qm_step ret fld con call ins len pc L S h with
      | some (.inl g) => qm_run ret fld con call tab n g
      | some (.inr o) => some o
      | none => none)
    | none => none
/-- the tables' words that go into calls -/
def qm_all : List Jvm.Cond := lw_tbl.filter goodWord
abbrev vwCl : List vw_C := [(RX0, TX0, 7), (RX1, TX1, 4), (RX2, TX2, 5), (RX3, TX3, 9), (RX4, TX4, 7), (RX5, TX5, 5), (RX6, TX6, 5), (RX7, TX7, 4), (RX8, TX8, 6), (RX9, TX9, 9), (RX10, TX10, 2), (RX11, TX11, 7), (RX12, TX12, 51)]
