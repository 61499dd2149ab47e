/-! THE METHODS' FUNCTIONS: what each method of the class and of the reference does, over the clean heap (proved against the bytecode in the parts behind). -/
def qX0_begin_24  (fuel : Nat) (a0 : Nat) (x1 : Int32) (h : qm_H) : Option (qm_H) := match fuel with
  | 0 => none
  | n + 1 =>
    if x1 < (16 : Int32) then
    if x1 < 0 ∨ 16 ≤ (x1).toNatClampNeg then none else
    qm_let (qm_seti h (a0 + 1) (x1).toNatClampNeg (2 : Int32)) fun h1 =>
    if x1 < 0 ∨ 16 ≤ (x1).toNatClampNeg then none else
    qm_let (qm_seti h1 (a0 + 2) (x1).toNatClampNeg (0 : Int32)) fun h2 =>
    (qX0_begin_24 n) a0 (x1 + (1 : Int32)) h2
    else
    some h
def qX0_begin  (a0 : Nat) (h : qm_H) : Option (qm_H) :=
  qm_let (qm_seti h a0 3 (6 : Int32)) fun h1 =>
  qm_let (qm_seti h1 a0 4 (6 : Int32)) fun h2 =>
  qm_let (qm_seti h2 a0 5 (0 : Int32)) fun h3 =>
  qm_let (qm_setl h3 a0 6 (0 : Int64)) fun h4 =>
  qX0_begin_24 qm_N a0 (0 : Int32) h4
def qX0_take  (a0 : Nat) (a1 : Nat) (h : qm_H) : Option (qm_H) :=
  qm_let (qm_seti h a0 3 (h.1 a1 3)) fun h1 =>
  qm_let (qm_seti h1 a0 4 (h1.1 a1 4)) fun h2 =>
  if (h2.1 a1 5) &&& 1 = (h2.1 a1 5) then
  qm_let (qm_seti h2 a0 5 (h2.1 a1 5)) fun h3 =>
  qm_let (qm_setl h3 a0 6 (h3.2 a1 6)) fun h4 =>
  (qm_cp 1 16 (a1 + 1) (0 : Int32) 1 16 (a0 + 1) (0 : Int32) (16 : Int32) h4).bind fun h5 =>
  (qm_cp 1 16 (a1 + 2) (0 : Int32) 1 16 (a0 + 2) (0 : Int32) (16 : Int32) h5).bind fun h6 =>
  some h6
  else none
def qX0_bit  (x0 : Int32) (x1 : Int32) (h : qm_H) : Option (Int64 × qm_H) :=
  some ((qm_lshl (1 : Int64) (((8 : Int32) * x0) + x1)), h)
def qX0_block_13  (fuel : Nat) (x0 : Int32) (x1 : Int32) (x3 : Int32) (l4 : Int64) (l6 : Int64) (x8 : Int32) (h : qm_H) : Option (Int64 × qm_H) := match fuel with
  | 0 => none
  | n + 1 =>
    if x8 < x3 then
    qm_let (l6 ||| (qm_lshl l4 ((8 : Int32) * x8))) fun v1 =>
    (qX0_block_13 n) x0 x1 x3 l4 v1 (x8 + (1 : Int32)) h
    else
    some ((qm_lshl l6 (((8 : Int32) * x0) + x1)), h)
def qX0_block  (x0 : Int32) (x1 : Int32) (x2 : Int32) (x3 : Int32) (h : qm_H) : Option (Int64 × qm_H) :=
  qm_let ((qm_lshl (1 : Int64) x2) - (1 : Int64)) fun v1 =>
  qX0_block_13 qm_N x0 x1 x3 v1 (0 : Int64) (0 : Int32) h
def qX0_rowOf  (a0 : Nat) (x1 : Int32) (h : qm_H) : Option (Int32 × qm_H) :=
  if (0 : Int32) < (h.1 a0 3) then
  if (h.1 a0 3) = 0 then none else
  some ((x1 / (h.1 a0 3)), h)
  else
  some ((0 : Int32), h)
def qX0_columnOf  (a0 : Nat) (x1 : Int32) (h : qm_H) : Option (Int32 × qm_H) :=
  if (0 : Int32) < (h.1 a0 3) then
  if (h.1 a0 3) = 0 then none else
  some ((qm_irem x1 (h.1 a0 3)), h)
  else
  some ((0 : Int32), h)
def qX0_strokeOf  (a0 : Nat) (x1 : Int32) (h : qm_H) : Option (Int32 × qm_H) :=
  some ((((x1 / (8 : Int32)) * (h.1 a0 3)) + (qm_irem x1 (8 : Int32))), h)
def qX0_hasStroke  (a0 : Nat) (x1 : Int32) (h : qm_H) : Option (Int32 × qm_H) :=
  if x1 < (0 : Int32) then
  some ((0 : Int32), h)
  else
  if x1 < ((h.1 a0 3) * (h.1 a0 4)) then
  some ((1 : Int32), h)
  else
  some ((0 : Int32), h)
def qX0_hasTwig  (a0 : Nat) (x1 : Int32) (x2 : Int32) (h : qm_H) : Option (Int32 × qm_H) :=
  if x2 < (0 : Int32) then
  some ((0 : Int32), h)
  else
  if x1 = (0 : Int32) then
  if x2 < (h.1 a0 4) then
  some ((1 : Int32), h)
  else
  some ((0 : Int32), h)
  else
  if x2 < (h.1 a0 3) then
  some ((1 : Int32), h)
  else
  some ((0 : Int32), h)
def qX0_setTwig  (a0 : Nat) (x1 : Int32) (x2 : Int32) (x3 : Int32) (x4 : Int32) (h : qm_H) : Option (qm_H) :=
  qm_let (((8 : Int32) * x1) + x2) fun v1 =>
  if v1 < (0 : Int32) then
  some h
  else
  if v1 < (16 : Int32) then
  if v1 < 0 ∨ 16 ≤ (v1).toNatClampNeg then none else
  qm_let (qm_seti h (a0 + 1) (v1).toNatClampNeg x3) fun h2 =>
  if v1 < 0 ∨ 16 ≤ (v1).toNatClampNeg then none else
  qm_let (qm_seti h2 (a0 + 2) (v1).toNatClampNeg x4) fun h3 =>
  some h3
  else
  some h
def qX0_isOpen  (a0 : Nat) (x1 : Int32) (x2 : Int32) (h : qm_H) : Option (Int32 × qm_H) :=
  qm_b2 (qX0_bit x1 x2 h) fun r2 h1 =>
  if (lg_cmp ((h.2 a0 6) &&& r2) (0 : Int64)) = (0 : Int32) then
  some ((0 : Int32), h1)
  else
  some ((1 : Int32), h1)
def qJ9_max_7cf53  (x0 : Int32) (x1 : Int32) (h : qm_H) : Option (Int32 × qm_H) :=
  if x0 < x1 then
  some (x1, h)
  else
  some (x0, h)
def qX0_strengthIn_25  (a0 : Nat) (x1 : Int32) (x2 : Int32) (xs0 : Int32) (h : qm_H) : Option (Int32 × qm_H) :=
  if xs0 = (0 : Int32) then
  some ((0 : Int32), h)
  else
  if (lg_cmp ((qm_lushr (h.2 a0 6) (((8 : Int32) * x1) + x2)) &&& (1 : Int64)) (0 : Int64)) = (0 : Int32) then
  qm_let ((8 : Int32) + x2) fun v1 =>
  if x1 < 0 ∨ 16 ≤ (x1).toNatClampNeg then none else
  if v1 < 0 ∨ 16 ≤ (v1).toNatClampNeg then none else
  if x1 < 0 ∨ 16 ≤ (x1).toNatClampNeg then none else
  if v1 < 0 ∨ 16 ≤ (v1).toNatClampNeg then none else
  qm_b2 (qJ9_max_7cf53 (0 : Int32) ((((h.1 (a0 + 1) (x1).toNatClampNeg) + (h.1 (a0 + 1) (v1).toNatClampNeg)) - (h.1 (a0 + 2) (x1).toNatClampNeg)) - (h.1 (a0 + 2) (v1).toNatClampNeg)) h) fun r3 h2 =>
  if (h2.1 a0 5) = (0 : Int32) then
  some (r3, h2)
  else
  some ((r3 / (2 : Int32)), h2)
  else
  some ((0 : Int32), h)
def qX0_strengthIn  (a0 : Nat) (x1 : Int32) (x2 : Int32) (h : qm_H) : Option (Int32 × qm_H) :=
  if x1 < (0 : Int32) then
  qX0_strengthIn_25 a0 x1 x2 (0 : Int32) h
  else
  if x1 < (8 : Int32) then
  if x2 < (0 : Int32) then
  qX0_strengthIn_25 a0 x1 x2 (0 : Int32) h
  else
  if x2 < (8 : Int32) then
  qX0_strengthIn_25 a0 x1 x2 (1 : Int32) h
  else
  qX0_strengthIn_25 a0 x1 x2 (0 : Int32) h
  else
  qX0_strengthIn_25 a0 x1 x2 (0 : Int32) h
def qX0_strengthOf  (a0 : Nat) (x1 : Int32) (h : qm_H) : Option (Int32 × qm_H) :=
  qm_b2 (qX0_rowOf a0 x1 h) fun r2 h1 =>
  qm_b2 (qX0_columnOf a0 x1 h1) fun r4 h3 =>
  qm_b2 (qX0_strengthIn a0 r2 r4 h3) fun r6 h5 =>
  some (r6, h5)
def qX0_strengthOfRectangle_34 (K21 : Nat → Int32 → Int32 → Int32 → Int32 → Int32 → Int32 → qm_H → Option (Int32 × qm_H)) (fuel : Nat) (a0 : Nat) (x2 : Int32) (x3 : Int32) (x4 : Int32) (x5 : Int32) (x6 : Int32) (x7 : Int32) (x8 : Int32) (h : qm_H) : Option (Int32 × qm_H) := match fuel with
  | 0 => none
  | n + 1 =>
    if x8 < (x5 + x2) then
    qm_b2 (qX0_strengthIn a0 x7 x8 h) fun r2 h1 =>
    (qX0_strengthOfRectangle_34 K21 n) a0 x2 x3 x4 x5 (x6 + r2) x7 (x8 + (1 : Int32)) h1
    else
    K21 a0 x2 x3 x4 x5 x6 (x7 + (1 : Int32)) h
def qX0_strengthOfRectangle_21  (fuel : Nat) (a0 : Nat) (x2 : Int32) (x3 : Int32) (x4 : Int32) (x5 : Int32) (x6 : Int32) (x7 : Int32) (h : qm_H) : Option (Int32 × qm_H) := match fuel with
  | 0 => none
  | n + 1 =>
    if x7 < (x4 + x3) then
    qX0_strengthOfRectangle_34 (qX0_strengthOfRectangle_21 n) qm_N a0 x2 x3 x4 x5 x6 x7 x5 h
    else
    some (x6, h)
def qX0_strengthOfRectangle  (a0 : Nat) (x1 : Int32) (x2 : Int32) (x3 : Int32) (h : qm_H) : Option (Int32 × qm_H) :=
  qm_b2 (qX0_rowOf a0 x1 h) fun r2 h1 =>
  qm_b2 (qX0_columnOf a0 x1 h1) fun r4 h3 =>
  qX0_strengthOfRectangle_21 qm_N a0 x2 x3 r2 r4 (0 : Int32) r2 h3
def qX0_strengthOfAll  (a0 : Nat) (h : qm_H) : Option (Int32 × qm_H) :=
  qm_b2 (qX0_strengthOfRectangle a0 (0 : Int32) (h.1 a0 3) (h.1 a0 4) h) fun r2 h1 =>
  some (r2, h1)
def qX0_part_114  (a0 : Nat) (x2 : Int32) (x3 : Int32) (xs0 : Int32) (h : qm_H) : Option (Int32 × qm_H) :=
  if xs0 = (0 : Int32) then
  if (((8 : Int32) * x3) + x2) < 0 ∨ 16 ≤ (((8 : Int32) * x3) + x2).toNatClampNeg then none else
  some ((h.1 (a0 + 2) (((8 : Int32) * x3) + x2).toNatClampNeg), h)
  else
  if (((8 : Int32) * x3) + x2) < 0 ∨ 16 ≤ (((8 : Int32) * x3) + x2).toNatClampNeg then none else
  some ((h.1 (a0 + 1) (((8 : Int32) * x3) + x2).toNatClampNeg), h)
def qX0_part_80  (a0 : Nat) (x1 : Int32) (x2 : Int32) (xs0 : Int32) (h : qm_H) : Option (Int32 × qm_H) :=
  qm_b2 (qX0_hasTwig a0 xs0 x2 h) fun r2 h1 =>
  if r2 = (0 : Int32) then
  some ((-2 : Int32), h1)
  else
  if x2 < (8 : Int32) then
  if (qm_irem (x1 / (10 : Int32)) (2 : Int32)) = (1 : Int32) then
  qX0_part_114 a0 x2 xs0 (1 : Int32) h1
  else
  qX0_part_114 a0 x2 xs0 (0 : Int32) h1
  else
  some ((-2 : Int32), h1)
def qX0_part  (a0 : Nat) (x1 : Int32) (h : qm_H) : Option (Int32 × qm_H) :=
  if x1 < (100 : Int32) then
  if x1 < (10 : Int32) then
  some ((-2 : Int32), h)
  else
  if x1 < (50 : Int32) then
  qm_let (qm_irem x1 (10 : Int32)) fun v1 =>
  if x1 < (30 : Int32) then
  qX0_part_80 a0 x1 v1 (0 : Int32) h
  else
  qX0_part_80 a0 x1 v1 (1 : Int32) h
  else
  some ((-2 : Int32), h)
  else
  qm_let (x1 - (100 : Int32)) fun v2 =>
  qm_b2 (qX0_hasStroke a0 v2 h) fun r4 h3 =>
  if r4 = (0 : Int32) then
  some ((-2 : Int32), h3)
  else
  qm_b2 (qX0_rowOf a0 v2 h3) fun r6 h5 =>
  qm_b2 (qX0_columnOf a0 v2 h5) fun r8 h7 =>
  qm_b2 (qX0_isOpen a0 r6 r8 h7) fun r10 h9 =>
  if r10 = (0 : Int32) then
  qm_b2 (qX0_strengthOf a0 v2 h9) fun r12 h11 =>
  some (r12, h11)
  else
  some ((-1 : Int32), h9)
def qX0_gapIn_28 (K13 : Nat → Int64 → Int32 → Int32 → Int64 → Int32 → qm_H → Option (Int32 × qm_H)) (fuel : Nat) (a0 : Nat) (l1 : Int64) (x3 : Int32) (x4 : Int32) (l5 : Int64) (x7 : Int32) (x8 : Int32) (h : qm_H) : Option (Int32 × qm_H) := match fuel with
  | 0 => none
  | n + 1 =>
    if (h.1 a0 3) < (x8 + x3) then
    K13 a0 l1 x3 x4 l5 (x7 + (1 : Int32)) h
    else
    qm_let (qm_lshl l5 (((8 : Int32) * x7) + x8)) fun v1 =>
    if (lg_cmp (l1 &&& v1) v1) = (0 : Int32) then
    some ((((h.1 a0 3) * x7) + x8), h)
    else
    (qX0_gapIn_28 K13 n) a0 l1 x3 x4 l5 x7 (x8 + (1 : Int32)) h
def qX0_gapIn_13  (fuel : Nat) (a0 : Nat) (l1 : Int64) (x3 : Int32) (x4 : Int32) (l5 : Int64) (x7 : Int32) (h : qm_H) : Option (Int32 × qm_H) := match fuel with
  | 0 => none
  | n + 1 =>
    if (h.1 a0 4) < (x7 + x4) then
    some ((-1 : Int32), h)
    else
    qX0_gapIn_28 (qX0_gapIn_13 n) qm_N a0 l1 x3 x4 l5 x7 (0 : Int32) h
def qX0_gapIn  (a0 : Nat) (l1 : Int64) (x3 : Int32) (x4 : Int32) (h : qm_H) : Option (Int32 × qm_H) :=
  qm_b2 (qX0_block (0 : Int32) (0 : Int32) x3 x4 h) fun r2 h1 =>
  qX0_gapIn_13 qm_N a0 l1 x3 x4 r2 (0 : Int32) h1
def qX0_gapFor  (a0 : Nat) (x1 : Int32) (x2 : Int32) (h : qm_H) : Option (Int32 × qm_H) :=
  qm_b2 (qX0_gapIn a0 (h.2 a0 6) x1 x2 h) fun r2 h1 =>
  some (r2, h1)
def qX0_gapWithout_9  (fuel : Nat) (a0 : Nat) (x1 : Int32) (x2 : Int32) (x3 : Int32) (l4 : Int64) (x6 : Int32) (h : qm_H) : Option (Int32 × qm_H) := match fuel with
  | 0 => none
  | n + 1 =>
    if x6 < (h.1 a0 4) then
    if ((qm_ishr x1 x6) &&& (1 : Int32)) = (0 : Int32) then
    (qX0_gapWithout_9 n) a0 x1 x2 x3 l4 (x6 + (1 : Int32)) h
    else
    qm_b2 (qX0_block x6 (0 : Int32) (h.1 a0 3) (1 : Int32) h) fun r4 h3 =>
    (qX0_gapWithout_9 n) a0 x1 x2 x3 (l4 ||| r4) (x6 + (1 : Int32)) h3
    else
    qm_b2 (qX0_gapIn a0 l4 x2 x3 h) fun r2 h1 =>
    some (r2, h1)
def qX0_gapWithout  (a0 : Nat) (x1 : Int32) (x2 : Int32) (x3 : Int32) (h : qm_H) : Option (Int32 × qm_H) :=
  qX0_gapWithout_9 qm_N a0 x1 x2 x3 (h.2 a0 6) (0 : Int32) h
def qX0_sumTo  (a0 : Nat) (x1 : Int32) (x2 : Int32) (h : qm_H) : Option (Int32 × qm_H) :=
  qm_let (((9 : Int32) * x1) + x2) fun v1 =>
  if v1 < (0 : Int32) then
  some ((0 : Int32), h)
  else
  if v1 < (Int32.ofNat 81) then
  if v1 < 0 ∨ 81 ≤ (v1).toNatClampNeg then none else
  some ((h.1 (a0 + 3) (v1).toNatClampNeg), h)
  else
  some ((0 : Int32), h)
def qX0_sumUp_20 (K2 : Nat → Int32 → qm_H → Option (qm_H)) (fuel : Nat) (a0 : Nat) (x1 : Int32) (x2 : Int32) (x3 : Int32) (h : qm_H) : Option (qm_H) := match fuel with
  | 0 => none
  | n + 1 =>
    if x3 < (h.1 a0 3) then
    if x3 < (8 : Int32) then
    qm_b2 (qX0_strengthIn a0 x1 x3 h) fun r2 h1 =>
    qm_b2 (qX0_sumTo a0 x1 (x3 + (1 : Int32)) h1) fun r4 h3 =>
    if ((((9 : Int32) * (x1 + (1 : Int32))) + x3) + (1 : Int32)) < 0 ∨ 81 ≤ ((((9 : Int32) * (x1 + (1 : Int32))) + x3) + (1 : Int32)).toNatClampNeg then none else
    qm_let (qm_seti h3 (a0 + 3) ((((9 : Int32) * (x1 + (1 : Int32))) + x3) + (1 : Int32)).toNatClampNeg (r4 + (x2 + r2))) fun h5 =>
    (qX0_sumUp_20 K2 n) a0 x1 (x2 + r2) (x3 + (1 : Int32)) h5
    else
    K2 a0 (x1 + (1 : Int32)) h
    else
    K2 a0 (x1 + (1 : Int32)) h
def qX0_sumUp_2  (fuel : Nat) (a0 : Nat) (x1 : Int32) (h : qm_H) : Option (qm_H) := match fuel with
  | 0 => none
  | n + 1 =>
    if x1 < (h.1 a0 4) then
    if x1 < (8 : Int32) then
    qX0_sumUp_20 (qX0_sumUp_2 n) qm_N a0 x1 (0 : Int32) (0 : Int32) h
    else
    some h
    else
    some h
def qX0_sumUp  (a0 : Nat) (h : qm_H) : Option (qm_H) :=
  qX0_sumUp_2 qm_N a0 (0 : Int32) h
def qX0_softest_26 (K12 : Nat → Int32 → Int32 → Int32 → Int32 → Int32 → qm_H → Option (Int32 × qm_H)) (fuel : Nat) (a0 : Nat) (x1 : Int32) (x2 : Int32) (x3 : Int32) (x4 : Int32) (x5 : Int32) (x6 : Int32) (h : qm_H) : Option (Int32 × qm_H) := match fuel with
  | 0 => none
  | n + 1 =>
    if (h.1 a0 3) < (x6 + x1) then
    K12 a0 x1 x2 x3 x4 (x5 + (1 : Int32)) h
    else
    qm_b2 (qX0_sumTo a0 (x5 + x2) (x6 + x1) h) fun r2 h1 =>
    qm_b2 (qX0_sumTo a0 (x5 + x2) x6 h1) fun r4 h3 =>
    qm_b2 (qX0_sumTo a0 x5 (x6 + x1) h3) fun r6 h5 =>
    qm_b2 (qX0_sumTo a0 x5 x6 h5) fun r8 h7 =>
    qm_let (((r2 - r4) - r6) + r8) fun v9 =>
    if x3 = (-1 : Int32) then
    qm_let (((h7.1 a0 3) * x5) + x6) fun v10 =>
    (qX0_softest_26 K12 n) a0 x1 x2 v10 v9 x5 (x6 + (1 : Int32)) h7
    else
    if v9 < x4 then
    qm_let (((h7.1 a0 3) * x5) + x6) fun v11 =>
    (qX0_softest_26 K12 n) a0 x1 x2 v11 v9 x5 (x6 + (1 : Int32)) h7
    else
    (qX0_softest_26 K12 n) a0 x1 x2 x3 x4 x5 (x6 + (1 : Int32)) h7
def qX0_softest_12  (fuel : Nat) (a0 : Nat) (x1 : Int32) (x2 : Int32) (x3 : Int32) (x4 : Int32) (x5 : Int32) (h : qm_H) : Option (Int32 × qm_H) := match fuel with
  | 0 => none
  | n + 1 =>
    if (h.1 a0 4) < (x5 + x2) then
    some (x3, h)
    else
    qX0_softest_26 (qX0_softest_12 n) qm_N a0 x1 x2 x3 x4 x5 (0 : Int32) h
def qX0_softest  (a0 : Nat) (x1 : Int32) (x2 : Int32) (h : qm_H) : Option (Int32 × qm_H) :=
  (qX0_sumUp a0 h).bind fun h1 =>
  qX0_softest_12 qm_N a0 x1 x2 (-1 : Int32) (0 : Int32) (0 : Int32) h1
def qX0_holdOf  (a0 : Nat) (x1 : Int32) (x2 : Int32) (h : qm_H) : Option (Int32 × qm_H) :=
  qm_b2 (qX0_gapFor a0 x1 x2 h) fun r2 h1 =>
  if r2 = (-1 : Int32) then
  qm_b2 (qX0_softest a0 x1 x2 h1) fun r4 h3 =>
  if r4 = (-1 : Int32) then
  some ((-1 : Int32), h3)
  else
  qm_b2 (qX0_strengthOfRectangle a0 r4 x1 x2 h3) fun r6 h5 =>
  some (r6, h5)
  else
  some ((-1 : Int32), h1)
def qX0_holdIfThicker  (a0 : Nat) (x1 : Int32) (x2 : Int32) (x3 : Int32) (h : qm_H) : Option (Int32 × qm_H) :=
  if x1 < (0 : Int32) then
  some ((-1 : Int32), h)
  else
  if x1 < (16 : Int32) then
  qm_b2 (qX0_hasTwig a0 (x1 / (8 : Int32)) (qm_irem x1 (8 : Int32)) h) fun r2 h1 =>
  if r2 = (0 : Int32) then
  some ((-1 : Int32), h1)
  else
  if x1 < 0 ∨ 16 ≤ (x1).toNatClampNeg then none else
  if (h1.1 (a0 + 1) (x1).toNatClampNeg) < (9 : Int32) then
  if x1 < 0 ∨ 16 ≤ (x1).toNatClampNeg then none else
  if x1 < 0 ∨ 16 ≤ (x1).toNatClampNeg then none else
  qm_let (qm_seti h1 (a0 + 1) (x1).toNatClampNeg ((h1.1 (a0 + 1) (x1).toNatClampNeg) + (1 : Int32))) fun h3 =>
  qm_b2 (qX0_holdOf a0 x2 x3 h3) fun r5 h4 =>
  if x1 < 0 ∨ 16 ≤ (x1).toNatClampNeg then none else
  if x1 < 0 ∨ 16 ≤ (x1).toNatClampNeg then none else
  qm_let (qm_seti h4 (a0 + 1) (x1).toNatClampNeg ((h4.1 (a0 + 1) (x1).toNatClampNeg) - (1 : Int32))) fun h6 =>
  some (r5, h6)
  else
  some ((-1 : Int32), h1)
  else
  some ((-1 : Int32), h)
def qX0_openRectangle  (a0 : Nat) (x1 : Int32) (x2 : Int32) (x3 : Int32) (h : qm_H) : Option (qm_H) :=
  qm_b2 (qX0_rowOf a0 x1 h) fun r2 h1 =>
  qm_b2 (qX0_columnOf a0 x1 h1) fun r4 h3 =>
  qm_b2 (qX0_block r2 r4 x2 x3 h3) fun r6 h5 =>
  qm_let (qm_setl h5 a0 6 ((h.2 a0 6) ||| r6)) fun h7 =>
  some h7
def qJ13_bitCount_95d88  (l0 : Int64) (h : qm_H) : Option (Int32 × qm_H) :=
  qm_let (l0 - ((qm_lushr l0 (1 : Int32)) &&& (6148914691236517205 : Int64))) fun v1 =>
  qm_let ((v1 &&& (3689348814741910323 : Int64)) + ((qm_lushr v1 (2 : Int32)) &&& (3689348814741910323 : Int64))) fun v2 =>
  qm_let ((v2 + (qm_lushr v2 (4 : Int32))) &&& (1085102592571150095 : Int64)) fun v3 =>
  qm_let (v3 + (qm_lushr v3 (8 : Int32))) fun v4 =>
  qm_let (v4 + (qm_lushr v4 (16 : Int32))) fun v5 =>
  qm_let (v5 + (qm_lushr v5 (32 : Int32))) fun v6 =>
  some (((v6).toInt32 &&& (127 : Int32)), h)
def qX0_shutIn  (a0 : Nat) (x1 : Int32) (x2 : Int32) (x3 : Int32) (h : qm_H) : Option (Int32 × qm_H) :=
  qm_b2 (qX0_rowOf a0 x1 h) fun r2 h1 =>
  qm_b2 (qX0_columnOf a0 x1 h1) fun r4 h3 =>
  qm_b2 (qX0_block r2 r4 x2 x3 h3) fun r6 h5 =>
  qm_b2 (qJ13_bitCount_95d88 (r6 &&& ((h5.2 a0 6) ^^^ (-1 : Int64))) h5) fun r8 h7 =>
  some (r8, h7)
def qX0_likeliest_22 (K8 : Nat → Int32 → Int32 → Int32 → Int32 → Int32 → qm_H → Option (Int32 × qm_H)) (fuel : Nat) (a0 : Nat) (x1 : Int32) (x2 : Int32) (x3 : Int32) (x4 : Int32) (x5 : Int32) (x6 : Int32) (h : qm_H) : Option (Int32 × qm_H) := match fuel with
  | 0 => none
  | n + 1 =>
    if (h.1 a0 3) < (x6 + x1) then
    K8 a0 x1 x2 x3 x4 (x5 + (1 : Int32)) h
    else
    qm_let (((h.1 a0 3) * x5) + x6) fun v1 =>
    qm_b2 (qX0_shutIn a0 v1 x1 x2 h) fun r3 h2 =>
    if x3 = (-1 : Int32) then
    (qX0_likeliest_22 K8 n) a0 x1 x2 v1 r3 x5 (x6 + (1 : Int32)) h2
    else
    if r3 < x4 then
    (qX0_likeliest_22 K8 n) a0 x1 x2 v1 r3 x5 (x6 + (1 : Int32)) h2
    else
    (qX0_likeliest_22 K8 n) a0 x1 x2 x3 x4 x5 (x6 + (1 : Int32)) h2
def qX0_likeliest_8  (fuel : Nat) (a0 : Nat) (x1 : Int32) (x2 : Int32) (x3 : Int32) (x4 : Int32) (x5 : Int32) (h : qm_H) : Option (Int32 × qm_H) := match fuel with
  | 0 => none
  | n + 1 =>
    if (h.1 a0 4) < (x5 + x2) then
    some (x3, h)
    else
    qX0_likeliest_22 (qX0_likeliest_8 n) qm_N a0 x1 x2 x3 x4 x5 (0 : Int32) h
def qX0_likeliest  (a0 : Nat) (x1 : Int32) (x2 : Int32) (h : qm_H) : Option (Int32 × qm_H) :=
  qX0_likeliest_8 qm_N a0 x1 x2 (-1 : Int32) (0 : Int32) (0 : Int32) h
def qX0_joinedTo_5  (fuel : Nat) (a0 : Nat) (l3 : Int64) (x5 : Int32) (h : qm_H) : Option (Int64 × qm_H) := match fuel with
  | 0 => none
  | n + 1 =>
    if x5 < (64 : Int32) then
    qm_let (((qm_lshl l3 (1 : Int32)) &&& (-72340172838076674 : Int64)) ||| ((qm_lushr l3 (1 : Int32)) &&& (9187201950435737471 : Int64))) fun v1 =>
    qm_let ((((l3 ||| v1) ||| (qm_lshl l3 (8 : Int32))) ||| (qm_lushr l3 (8 : Int32))) &&& (h.2 a0 6)) fun v2 =>
    if (lg_cmp v2 l3) = (0 : Int32) then
    some (l3, h)
    else
    (qX0_joinedTo_5 n) a0 v2 (x5 + (1 : Int32)) h
    else
    some (l3, h)
def qX0_joinedTo  (a0 : Nat) (l1 : Int64) (h : qm_H) : Option (Int64 × qm_H) :=
  qX0_joinedTo_5 qm_N a0 l1 (0 : Int32) h
def qX0_holesOrLargest_14  (fuel : Nat) (a0 : Nat) (x1 : Int32) (l2 : Int64) (x4 : Int32) (x5 : Int32) (x6 : Int32) (h : qm_H) : Option (Int32 × qm_H) := match fuel with
  | 0 => none
  | n + 1 =>
    if x6 < (64 : Int32) then
    if (lg_cmp l2 (0 : Int64)) = (0 : Int32) then
    if x1 = (0 : Int32) then
    some (x4, h)
    else
    some (x5, h)
    else
    qm_b2 (qX0_joinedTo a0 (l2 &&& (-l2)) h) fun r2 h1 =>
    qm_let (l2 &&& (r2 ^^^ (-1 : Int64))) fun v3 =>
    qm_b2 (qJ13_bitCount_95d88 r2 h1) fun r5 h4 =>
    qm_b2 (qJ9_max_7cf53 x5 r5 h4) fun r7 h6 =>
    (qX0_holesOrLargest_14 n) a0 x1 v3 (x4 + (1 : Int32)) r7 (x6 + (1 : Int32)) h6
    else
    if x1 = (0 : Int32) then
    some (x4, h)
    else
    some (x5, h)
def qX0_holesOrLargest  (a0 : Nat) (x1 : Int32) (h : qm_H) : Option (Int32 × qm_H) :=
  qX0_holesOrLargest_14 qm_N a0 x1 (h.2 a0 6) (0 : Int32) (0 : Int32) (0 : Int32) h
def qX0_largestGap_14 (K4 : Nat → Int32 → Int32 → qm_H → Option (Int32 × qm_H)) (fuel : Nat) (a0 : Nat) (x1 : Int32) (x2 : Int32) (x3 : Int32) (h : qm_H) : Option (Int32 × qm_H) := match fuel with
  | 0 => none
  | n + 1 =>
    if (h.1 a0 4) < x3 then
    K4 a0 x1 (x2 + (1 : Int32)) h
    else
    if x1 < (x2 * x3) then
    qm_b2 (qX0_gapFor a0 x2 x3 h) fun r2 h1 =>
    if r2 = (-1 : Int32) then
    (qX0_largestGap_14 K4 n) a0 x1 x2 (x3 + (1 : Int32)) h1
    else
    (qX0_largestGap_14 K4 n) a0 (x2 * x3) x2 (x3 + (1 : Int32)) h1
    else
    (qX0_largestGap_14 K4 n) a0 x1 x2 (x3 + (1 : Int32)) h
def qX0_largestGap_4  (fuel : Nat) (a0 : Nat) (x1 : Int32) (x2 : Int32) (h : qm_H) : Option (Int32 × qm_H) := match fuel with
  | 0 => none
  | n + 1 =>
    if (h.1 a0 3) < x2 then
    some (x1, h)
    else
    qX0_largestGap_14 (qX0_largestGap_4 n) qm_N a0 x1 x2 (1 : Int32) h
def qX0_largestGap  (a0 : Nat) (h : qm_H) : Option (Int32 × qm_H) :=
  qX0_largestGap_4 qm_N a0 (0 : Int32) (1 : Int32) h
def qX0_mendedFirst_55 (K4 : Nat → Int32 → Int32 → Int32 → qm_H → Option (Int32 × qm_H)) (K15 : Nat → Int32 → Int32 → Int32 → Int32 → Int32 → qm_H → Option (Int32 × qm_H)) (a0 : Nat) (x1 : Int32) (x2 : Int32) (x3 : Int32) (x4 : Int32) (x5 : Int32) (xs0 : Int32) (h : qm_H) : Option (Int32 × qm_H) :=
  if xs0 = (0 : Int32) then
  if x4 = (-1 : Int32) then
  K15 a0 x1 x2 x3 x5 (x5 + (1 : Int32)) h
  else
  if x5 < 0 ∨ 16 ≤ (x5).toNatClampNeg then none else
  if x4 < 0 ∨ 16 ≤ (x4).toNatClampNeg then none else
  if (h.1 (a0 + 2) (x4).toNatClampNeg) < (h.1 (a0 + 2) (x5).toNatClampNeg) then
  K15 a0 x1 x2 x3 x5 (x5 + (1 : Int32)) h
  else
  K15 a0 x1 x2 x3 x4 (x5 + (1 : Int32)) h
  else
  K15 a0 x1 x2 x3 x4 (x5 + (1 : Int32)) h
def qX0_mendedFirst_15 (K4 : Nat → Int32 → Int32 → Int32 → qm_H → Option (Int32 × qm_H)) (fuel : Nat) (a0 : Nat) (x1 : Int32) (x2 : Int32) (x3 : Int32) (x4 : Int32) (x5 : Int32) (h : qm_H) : Option (Int32 × qm_H) := match fuel with
  | 0 => none
  | n + 1 =>
    if x5 < (h.1 a0 4) then
    if x5 < (8 : Int32) then
    if ((qm_ishr x2 x5) &&& (1 : Int32)) = (0 : Int32) then
    if x5 < 0 ∨ 16 ≤ (x5).toNatClampNeg then none else
    if (h.1 (a0 + 2) (x5).toNatClampNeg) = (0 : Int32) then
    qX0_mendedFirst_55 K4 (qX0_mendedFirst_15 K4 n) a0 x1 x2 x3 x4 x5 (1 : Int32) h
    else
    qX0_mendedFirst_55 K4 (qX0_mendedFirst_15 K4 n) a0 x1 x2 x3 x4 x5 (0 : Int32) h
    else
    qX0_mendedFirst_55 K4 (qX0_mendedFirst_15 K4 n) a0 x1 x2 x3 x4 x5 (1 : Int32) h
    else
    if x4 = (-1 : Int32) then
    K4 a0 x1 x2 (x3 + (1 : Int32)) h
    else
    qm_let (x2 ||| (qm_ishl (1 : Int32) x4)) fun v2 =>
    K4 a0 x1 v2 (x3 + (1 : Int32)) h
    else
    if x4 = (-1 : Int32) then
    K4 a0 x1 x2 (x3 + (1 : Int32)) h
    else
    qm_let (x2 ||| (qm_ishl (1 : Int32) x4)) fun v1 =>
    K4 a0 x1 v1 (x3 + (1 : Int32)) h
def qX0_mendedFirst_4  (fuel : Nat) (a0 : Nat) (x1 : Int32) (x2 : Int32) (x3 : Int32) (h : qm_H) : Option (Int32 × qm_H) := match fuel with
  | 0 => none
  | n + 1 =>
    if x3 < x1 then
    qX0_mendedFirst_15 (qX0_mendedFirst_4 n) qm_N a0 x1 x2 x3 (-1 : Int32) (0 : Int32) h
    else
    some (x2, h)
def qX0_mendedFirst  (a0 : Nat) (x1 : Int32) (h : qm_H) : Option (Int32 × qm_H) :=
  qX0_mendedFirst_4 qm_N a0 x1 (0 : Int32) (0 : Int32) h
def qX0_soundWays_5  (fuel : Nat) (a0 : Nat) (x1 : Int32) (l2 : Int64) (x4 : Int32) (h : qm_H) : Option (Int64 × qm_H) := match fuel with
  | 0 => none
  | n + 1 =>
    if x4 < (h.1 a0 4) then
    if x4 < (8 : Int32) then
    if ((qm_ishr x1 x4) &&& (1 : Int32)) = (0 : Int32) then
    if x4 < 0 ∨ 16 ≤ (x4).toNatClampNeg then none else
    qm_let (l2 * (((10 : Int32) - (h.1 (a0 + 2) (x4).toNatClampNeg))).toInt64) fun v1 =>
    (qX0_soundWays_5 n) a0 x1 v1 (x4 + (1 : Int32)) h
    else
    qm_let (l2 * (10 : Int64)) fun v2 =>
    (qX0_soundWays_5 n) a0 x1 v2 (x4 + (1 : Int32)) h
    else
    some (l2, h)
    else
    some (l2, h)
def qX0_soundWays  (a0 : Nat) (x1 : Int32) (h : qm_H) : Option (Int64 × qm_H) :=
  qX0_soundWays_5 qm_N a0 x1 (1 : Int64) (0 : Int32) h
def qX0_allWays_4  (fuel : Nat) (a0 : Nat) (l1 : Int64) (x3 : Int32) (h : qm_H) : Option (Int64 × qm_H) := match fuel with
  | 0 => none
  | n + 1 =>
    if x3 < (h.1 a0 4) then
    if x3 < (8 : Int32) then
    qm_let (l1 * (10 : Int64)) fun v1 =>
    (qX0_allWays_4 n) a0 v1 (x3 + (1 : Int32)) h
    else
    some (l1, h)
    else
    some (l1, h)
def qX0_allWays  (a0 : Nat) (h : qm_H) : Option (Int64 × qm_H) :=
  qX0_allWays_4 qm_N a0 (1 : Int64) (0 : Int32) h
def qX0_mirrors_60 (K6 : Nat → Int32 → Int32 → Int32 → qm_H → Option (Int32 × qm_H)) (K17 : Nat → Int32 → Int32 → Int32 → Int32 → qm_H → Option (Int32 × qm_H)) (a0 : Nat) (x2 : Int32) (x3 : Int32) (x4 : Int32) (x5 : Int32) (xs0 : Int32) (xs1 : Int32) (h : qm_H) : Option (Int32 × qm_H) :=
  qm_let (xs1 &&& xs0) fun v1 =>
  qm_b2 (qX0_isOpen a0 (((h.1 a0 4) - (1 : Int32)) - x3) x4 h) fun r3 h2 =>
  if x5 = r3 then
  qm_let (x2 &&& (1 : Int32)) fun v5 =>
  K17 a0 v1 v5 x3 (x4 + (1 : Int32)) h2
  else
  qm_let (x2 &&& (0 : Int32)) fun v4 =>
  K17 a0 v1 v4 x3 (x4 + (1 : Int32)) h2
def qX0_mirrors_17 (K6 : Nat → Int32 → Int32 → Int32 → qm_H → Option (Int32 × qm_H)) (fuel : Nat) (a0 : Nat) (x1 : Int32) (x2 : Int32) (x3 : Int32) (x4 : Int32) (h : qm_H) : Option (Int32 × qm_H) := match fuel with
  | 0 => none
  | n + 1 =>
    if x4 < (h.1 a0 3) then
    qm_b2 (qX0_isOpen a0 x3 x4 h) fun r2 h1 =>
    qm_b2 (qX0_isOpen a0 x3 (((h1.1 a0 3) - (1 : Int32)) - x4) h1) fun r4 h3 =>
    if r2 = r4 then
    qX0_mirrors_60 K6 (qX0_mirrors_17 K6 n) a0 x2 x3 x4 r2 (1 : Int32) x1 h3
    else
    qX0_mirrors_60 K6 (qX0_mirrors_17 K6 n) a0 x2 x3 x4 r2 (0 : Int32) x1 h3
    else
    K6 a0 x1 x2 (x3 + (1 : Int32)) h
def qX0_mirrors_6  (fuel : Nat) (a0 : Nat) (x1 : Int32) (x2 : Int32) (x3 : Int32) (h : qm_H) : Option (Int32 × qm_H) := match fuel with
  | 0 => none
  | n + 1 =>
    if x3 < (h.1 a0 4) then
    qX0_mirrors_17 (qX0_mirrors_6 n) qm_N a0 x1 x2 x3 (0 : Int32) h
    else
    if x1 = (0 : Int32) then
    if x2 = (0 : Int32) then
    some (((0 : Int32) + (0 : Int32)), h)
    else
    some (((0 : Int32) + (2 : Int32)), h)
    else
    if x2 = (0 : Int32) then
    some (((1 : Int32) + (0 : Int32)), h)
    else
    some (((1 : Int32) + (2 : Int32)), h)
def qX0_mirrors  (a0 : Nat) (h : qm_H) : Option (Int32 × qm_H) :=
  qX0_mirrors_6 qm_N a0 (1 : Int32) (1 : Int32) (0 : Int32) h
def qX0_openIn  (a0 : Nat) (l1 : Int64) (h : qm_H) : Option (Int32 × qm_H) :=
  qm_b2 (qJ13_bitCount_95d88 ((h.2 a0 6) &&& l1) h) fun r2 h1 =>
  some (r2, h1)
def qX0_crowdedRow_4  (fuel : Nat) (a0 : Nat) (x1 : Int32) (x2 : Int32) (h : qm_H) : Option (Int32 × qm_H) := match fuel with
  | 0 => none
  | n + 1 =>
    if x2 < (h.1 a0 4) then
    qm_b2 (qX0_block x2 (0 : Int32) (h.1 a0 3) (1 : Int32) h) fun r2 h1 =>
    qm_b2 (qX0_openIn a0 r2 h1) fun r4 h3 =>
    qm_b2 (qX0_block x1 (0 : Int32) (h3.1 a0 3) (1 : Int32) h3) fun r6 h5 =>
    qm_b2 (qX0_openIn a0 r6 h5) fun r8 h7 =>
    if r8 < r4 then
    (qX0_crowdedRow_4 n) a0 x2 (x2 + (1 : Int32)) h7
    else
    (qX0_crowdedRow_4 n) a0 x1 (x2 + (1 : Int32)) h7
    else
    some (x1, h)
def qX0_crowdedRow  (a0 : Nat) (h : qm_H) : Option (Int32 × qm_H) :=
  qX0_crowdedRow_4 qm_N a0 (0 : Int32) (1 : Int32) h
def qX0_crowdedColumn_4  (fuel : Nat) (a0 : Nat) (x1 : Int32) (x2 : Int32) (h : qm_H) : Option (Int32 × qm_H) := match fuel with
  | 0 => none
  | n + 1 =>
    if x2 < (h.1 a0 3) then
    qm_b2 (qX0_block (0 : Int32) x2 (1 : Int32) (h.1 a0 4) h) fun r2 h1 =>
    qm_b2 (qX0_openIn a0 r2 h1) fun r4 h3 =>
    qm_b2 (qX0_block (0 : Int32) x1 (1 : Int32) (h3.1 a0 4) h3) fun r6 h5 =>
    qm_b2 (qX0_openIn a0 r6 h5) fun r8 h7 =>
    if r8 < r4 then
    (qX0_crowdedColumn_4 n) a0 x2 (x2 + (1 : Int32)) h7
    else
    (qX0_crowdedColumn_4 n) a0 x1 (x2 + (1 : Int32)) h7
    else
    some (x1, h)
def qX0_crowdedColumn  (a0 : Nat) (h : qm_H) : Option (Int32 × qm_H) :=
  qX0_crowdedColumn_4 qm_N a0 (0 : Int32) (1 : Int32) h
def qX1_begin  (a0 : Nat) (h : qm_H) : Option (qm_H) :=
  qm_let (qm_seti h a0 1 (6 : Int32)) fun h1 =>
  qm_let (qm_seti h1 a0 2 (6 : Int32)) fun h2 =>
  qm_let (qm_seti h2 a0 3 (0 : Int32)) fun h3 =>
  some h3
def qX1_take  (a0 : Nat) (a1 : Nat) (h : qm_H) : Option (qm_H) :=
  (qm_cp 1 30 (a1 + 1) (0 : Int32) 1 30 (a0 + 1) (0 : Int32) (30 : Int32) h).bind fun h1 =>
  qm_let (qm_seti h1 a0 1 (h1.1 a1 1)) fun h2 =>
  qm_let (qm_seti h2 a0 2 (h2.1 a1 2)) fun h3 =>
  qm_let (qm_seti h3 a0 3 (h3.1 a1 3)) fun h4 =>
  some h4
def qX1_add  (a0 : Nat) (x1 : Int32) (x2 : Int32) (x3 : Int32) (h : qm_H) : Option (qm_H) :=
  if (h.1 a0 3) < (10 : Int32) then
  qm_let ((3 : Int32) * (h.1 a0 3)) fun v1 =>
  if v1 < 0 ∨ 30 ≤ (v1).toNatClampNeg then none else
  qm_let (qm_seti h (a0 + 1) (v1).toNatClampNeg x1) fun h2 =>
  if (v1 + (1 : Int32)) < 0 ∨ 30 ≤ (v1 + (1 : Int32)).toNatClampNeg then none else
  qm_let (qm_seti h2 (a0 + 1) (v1 + (1 : Int32)).toNatClampNeg x2) fun h3 =>
  if (v1 + (2 : Int32)) < 0 ∨ 30 ≤ (v1 + (2 : Int32)).toNatClampNeg then none else
  qm_let (qm_seti h3 (a0 + 1) (v1 + (2 : Int32)).toNatClampNeg x3) fun h4 =>
  qm_let (qm_seti h4 a0 3 ((h4.1 a0 3) + (1 : Int32))) fun h5 =>
  some h5
  else
  some h
def qX1_part_59  (a0 : Nat) (x1 : Int32) (x2 : Int32) (xs0 : Int32) (h : qm_H) : Option (Int32 × qm_H) :=
  if xs0 = (0 : Int32) then
  some ((-1 : Int32), h)
  else
  if ((((3 : Int32) * x2) + (x1 / (10 : Int32))) - (1 : Int32)) < 0 ∨ 30 ≤ ((((3 : Int32) * x2) + (x1 / (10 : Int32))) - (1 : Int32)).toNatClampNeg then none else
  some ((h.1 (a0 + 1) ((((3 : Int32) * x2) + (x1 / (10 : Int32))) - (1 : Int32)).toNatClampNeg), h)
def qX1_part  (a0 : Nat) (x1 : Int32) (h : qm_H) : Option (Int32 × qm_H) :=
  if x1 = (0 : Int32) then
  some ((h.1 a0 1), h)
  else
  if x1 = (1 : Int32) then
  some ((h.1 a0 2), h)
  else
  if x1 = (2 : Int32) then
  some ((h.1 a0 3), h)
  else
  qm_let (qm_irem x1 (10 : Int32)) fun v1 =>
  if x1 < (10 : Int32) then
  qX1_part_59 a0 x1 v1 (0 : Int32) h
  else
  if x1 < (40 : Int32) then
  if v1 < (h.1 a0 3) then
  qX1_part_59 a0 x1 v1 (1 : Int32) h
  else
  qX1_part_59 a0 x1 v1 (0 : Int32) h
  else
  qX1_part_59 a0 x1 v1 (0 : Int32) h
def qX1_agrees  (x0 : Int32) (x1 : Int32) (x2 : Int32) (h : qm_H) : Option (Int32 × qm_H) :=
  if x0 = (0 : Int32) then
  if x1 &&& 1 = x1 then some (x1, h) else none
  else if x0 = (1 : Int32) then
  if x1 = (0 : Int32) then
  some ((1 : Int32), h)
  else
  some ((0 : Int32), h)
  else if x0 = (2 : Int32) then
  if x2 &&& 1 = x2 then some (x2, h) else none
  else 
  if x2 = (0 : Int32) then
  some ((1 : Int32), h)
  else
  some ((0 : Int32), h)
def qX1_allow_102 (K3 : Nat → Int32 → Int32 → Int32 → Int32 → Int32 → qm_H → Option (Int32 × qm_H)) (a0 : Nat) (x1 : Int32) (x2 : Int32) (x3 : Int32) (x4 : Int32) (x5 : Int32) (x8 : Int32) (xs0 : Int32) (h : qm_H) : Option (Int32 × qm_H) :=
  if x5 < 0 ∨ 30 ≤ (x5).toNatClampNeg then none else
  qm_b2 (qX1_agrees (h.1 (a0 + 1) (x5).toNatClampNeg) x8 xs0 h) fun r2 h1 =>
  if r2 = (0 : Int32) then
  some ((0 : Int32), h1)
  else
  K3 a0 x1 x2 x3 x4 (x5 + (3 : Int32)) h1
def qX1_allow_3  (fuel : Nat) (a0 : Nat) (x1 : Int32) (x2 : Int32) (x3 : Int32) (x4 : Int32) (x5 : Int32) (h : qm_H) : Option (Int32 × qm_H) := match fuel with
  | 0 => none
  | n + 1 =>
    if x5 < ((3 : Int32) * (h.1 a0 3)) then
    if (x5 + (2 : Int32)) < (Int32.ofNat 30) then
    if (x5 + (1 : Int32)) < 0 ∨ 30 ≤ (x5 + (1 : Int32)).toNatClampNeg then none else
    qm_let (h.1 (a0 + 1) (x5 + (1 : Int32)).toNatClampNeg) fun v1 =>
    if (x5 + (2 : Int32)) < 0 ∨ 30 ≤ (x5 + (2 : Int32)).toNatClampNeg then none else
    qm_let (h.1 (a0 + 1) (x5 + (2 : Int32)).toNatClampNeg) fun v2 =>
    if v1 < x2 then
    if x3 < v1 then
    qX1_allow_102 (qX1_allow_3 n) a0 x1 x2 x3 x4 x5 (0 : Int32) (0 : Int32) h
    else
    if x4 < v2 then
    qX1_allow_102 (qX1_allow_3 n) a0 x1 x2 x3 x4 x5 (0 : Int32) (0 : Int32) h
    else
    qX1_allow_102 (qX1_allow_3 n) a0 x1 x2 x3 x4 x5 (0 : Int32) (1 : Int32) h
    else
    if v1 < (x2 + x3) then
    if v2 < x1 then
    if x3 < v1 then
    qX1_allow_102 (qX1_allow_3 n) a0 x1 x2 x3 x4 x5 (0 : Int32) (0 : Int32) h
    else
    if x4 < v2 then
    qX1_allow_102 (qX1_allow_3 n) a0 x1 x2 x3 x4 x5 (0 : Int32) (0 : Int32) h
    else
    qX1_allow_102 (qX1_allow_3 n) a0 x1 x2 x3 x4 x5 (0 : Int32) (1 : Int32) h
    else
    if v2 < (x1 + x4) then
    if x3 < v1 then
    qX1_allow_102 (qX1_allow_3 n) a0 x1 x2 x3 x4 x5 (1 : Int32) (0 : Int32) h
    else
    if x4 < v2 then
    qX1_allow_102 (qX1_allow_3 n) a0 x1 x2 x3 x4 x5 (1 : Int32) (0 : Int32) h
    else
    qX1_allow_102 (qX1_allow_3 n) a0 x1 x2 x3 x4 x5 (1 : Int32) (1 : Int32) h
    else
    if x3 < v1 then
    qX1_allow_102 (qX1_allow_3 n) a0 x1 x2 x3 x4 x5 (0 : Int32) (0 : Int32) h
    else
    if x4 < v2 then
    qX1_allow_102 (qX1_allow_3 n) a0 x1 x2 x3 x4 x5 (0 : Int32) (0 : Int32) h
    else
    qX1_allow_102 (qX1_allow_3 n) a0 x1 x2 x3 x4 x5 (0 : Int32) (1 : Int32) h
    else
    if x3 < v1 then
    qX1_allow_102 (qX1_allow_3 n) a0 x1 x2 x3 x4 x5 (0 : Int32) (0 : Int32) h
    else
    if x4 < v2 then
    qX1_allow_102 (qX1_allow_3 n) a0 x1 x2 x3 x4 x5 (0 : Int32) (0 : Int32) h
    else
    qX1_allow_102 (qX1_allow_3 n) a0 x1 x2 x3 x4 x5 (0 : Int32) (1 : Int32) h
    else
    some ((1 : Int32), h)
    else
    some ((1 : Int32), h)
def qX1_allow  (a0 : Nat) (x1 : Int32) (x2 : Int32) (x3 : Int32) (x4 : Int32) (h : qm_H) : Option (Int32 × qm_H) :=
  qX1_allow_3 qm_N a0 x1 x2 x3 x4 (0 : Int32) h
def qX2_begin  (a0 : Nat) (h : qm_H) : Option (qm_H) :=
  qm_let (qm_seti h a0 2 (0 : Int32)) fun h1 =>
  qm_let (qm_seti h1 a0 3 (0 : Int32)) fun h2 =>
  qm_let (qm_seti h2 a0 4 (3 : Int32)) fun h3 =>
  some h3
def qX2_take  (a0 : Nat) (a1 : Nat) (h : qm_H) : Option (qm_H) :=
  (qm_cp 1 6 (a1 + 1) (0 : Int32) 1 6 (a0 + 1) (0 : Int32) (6 : Int32) h).bind fun h1 =>
  (qm_cp 1 8 (a1 + 2) (0 : Int32) 1 8 (a0 + 2) (0 : Int32) (8 : Int32) h1).bind fun h2 =>
  qm_let (qm_seti h2 a0 2 (h2.1 a1 2)) fun h3 =>
  qm_let (qm_seti h3 a0 3 (h3.1 a1 3)) fun h4 =>
  qm_let (qm_seti h4 a0 4 (h4.1 a1 4)) fun h5 =>
  some h5
def qX2_addRod  (a0 : Nat) (x1 : Int32) (h : qm_H) : Option (qm_H) :=
  if (h.1 a0 2) < (6 : Int32) then
  if (h.1 a0 2) < 0 ∨ 6 ≤ (h.1 a0 2).toNatClampNeg then none else
  qm_let (qm_seti h (a0 + 1) (h.1 a0 2).toNatClampNeg x1) fun h1 =>
  qm_let (qm_seti h1 a0 2 ((h1.1 a0 2) + (1 : Int32))) fun h2 =>
  some h2
  else
  some h
def qX2_addPiece  (a0 : Nat) (x1 : Int32) (h : qm_H) : Option (qm_H) :=
  if (h.1 a0 3) < (8 : Int32) then
  if (h.1 a0 3) < 0 ∨ 8 ≤ (h.1 a0 3).toNatClampNeg then none else
  qm_let (qm_seti h (a0 + 2) (h.1 a0 3).toNatClampNeg x1) fun h1 =>
  qm_let (qm_seti h1 a0 3 ((h1.1 a0 3) + (1 : Int32))) fun h2 =>
  some h2
  else
  some h
def qX2_part_56  (a0 : Nat) (x1 : Int32) (h : qm_H) : Option (Int32 × qm_H) :=
  if x1 < (20 : Int32) then
  some ((-1 : Int32), h)
  else
  if x1 < ((20 : Int32) + (h.1 a0 3)) then
  if (x1 - (20 : Int32)) < 0 ∨ 8 ≤ (x1 - (20 : Int32)).toNatClampNeg then none else
  some ((h.1 (a0 + 2) (x1 - (20 : Int32)).toNatClampNeg), h)
  else
  some ((-1 : Int32), h)
def qX2_part  (a0 : Nat) (x1 : Int32) (h : qm_H) : Option (Int32 × qm_H) :=
  if x1 = (0 : Int32) then
  some ((h.1 a0 2), h)
  else
  if x1 = (1 : Int32) then
  some ((h.1 a0 3), h)
  else
  if x1 = (2 : Int32) then
  some ((h.1 a0 4), h)
  else
  if x1 < (10 : Int32) then
  qX2_part_56 a0 x1 h
  else
  if x1 < ((10 : Int32) + (h.1 a0 2)) then
  if (x1 - (10 : Int32)) < 0 ∨ 6 ≤ (x1 - (10 : Int32)).toNatClampNeg then none else
  some ((h.1 (a0 + 1) (x1 - (10 : Int32)).toNatClampNeg), h)
  else
  qX2_part_56 a0 x1 h
def qX2_wins_103  (x3 : Int32) (x4 : Int32) (x5 : Int32) (h : qm_H) : Option (Int32 × qm_H) :=
  if x3 = (0 : Int32) then
  if x4 = (0 : Int32) then
  some ((0 : Int32), h)
  else
  some ((1 : Int32), h)
  else
  if x5 = (0 : Int32) then
  if x4 = (0 : Int32) then
  some ((1 : Int32), h)
  else
  some ((0 : Int32), h)
  else
  if x4 = (0 : Int32) then
  some ((0 : Int32), h)
  else
  some ((1 : Int32), h)
def qX2_wins_72 (K9 : Nat → Int32 → Int32 → Int32 → Int32 → Int32 → Int32 → qm_H → Option (Int32 × qm_H)) (a0 : Nat) (x1 : Int32) (x2 : Int32) (x3 : Int32) (x4 : Int32) (x5 : Int32) (x6 : Int32) (xs0 : Int32) (h : qm_H) : Option (Int32 × qm_H) :=
  if (1 : Int32) < xs0 then
  qm_let (x5 ||| (1 : Int32)) fun v2 =>
  K9 a0 x1 x2 x3 (x4 ^^^ xs0) v2 (x6 + (1 : Int32)) h
  else
  qm_let (x5 ||| (0 : Int32)) fun v1 =>
  K9 a0 x1 x2 x3 (x4 ^^^ xs0) v1 (x6 + (1 : Int32)) h
def qX2_wins_9  (fuel : Nat) (a0 : Nat) (x1 : Int32) (x2 : Int32) (x3 : Int32) (x4 : Int32) (x5 : Int32) (x6 : Int32) (h : qm_H) : Option (Int32 × qm_H) := match fuel with
  | 0 => none
  | n + 1 =>
    if x6 < (h.1 a0 2) then
    if x6 < (6 : Int32) then
    if x6 = x1 then
    if x6 < 0 ∨ 6 ≤ (x6).toNatClampNeg then none else
    qm_let ((h.1 (a0 + 1) (x6).toNatClampNeg) - x2) fun v2 =>
    if (0 : Int32) < (h.1 a0 4) then
    if ((h.1 a0 4) + (1 : Int32)) = 0 then none else
    qX2_wins_72 (qX2_wins_9 n) a0 x1 x2 x3 x4 x5 x6 (qm_irem v2 ((h.1 a0 4) + (1 : Int32))) h
    else
    qX2_wins_72 (qX2_wins_9 n) a0 x1 x2 x3 x4 x5 x6 (0 : Int32) h
    else
    if x6 < 0 ∨ 6 ≤ (x6).toNatClampNeg then none else
    qm_let (h.1 (a0 + 1) (x6).toNatClampNeg) fun v1 =>
    if (0 : Int32) < (h.1 a0 4) then
    if ((h.1 a0 4) + (1 : Int32)) = 0 then none else
    qX2_wins_72 (qX2_wins_9 n) a0 x1 x2 x3 x4 x5 x6 (qm_irem v1 ((h.1 a0 4) + (1 : Int32))) h
    else
    qX2_wins_72 (qX2_wins_9 n) a0 x1 x2 x3 x4 x5 x6 (0 : Int32) h
    else
    qX2_wins_103 x3 x4 x5 h
    else
    qX2_wins_103 x3 x4 x5 h
def qX2_wins  (a0 : Nat) (x1 : Int32) (x2 : Int32) (x3 : Int32) (h : qm_H) : Option (Int32 × qm_H) :=
  qX2_wins_9 qm_N a0 x1 x2 x3 (0 : Int32) (0 : Int32) (0 : Int32) h
def qX2_winningCut_18 (K2 : Nat → Int32 → Int32 → qm_H → Option (Int32 × qm_H)) (fuel : Nat) (a0 : Nat) (x1 : Int32) (x2 : Int32) (x3 : Int32) (h : qm_H) : Option (Int32 × qm_H) := match fuel with
  | 0 => none
  | n + 1 =>
    if (h.1 a0 4) < x3 then
    K2 a0 x1 (x2 + (1 : Int32)) h
    else
    if x2 < 0 ∨ 6 ≤ (x2).toNatClampNeg then none else
    if (h.1 (a0 + 1) (x2).toNatClampNeg) < x3 then
    K2 a0 x1 (x2 + (1 : Int32)) h
    else
    qm_b2 (qX2_wins a0 x2 x3 x1 h) fun r2 h1 =>
    if r2 = (0 : Int32) then
    some ((((10 : Int32) * x2) + x3), h1)
    else
    (qX2_winningCut_18 K2 n) a0 x1 x2 (x3 + (1 : Int32)) h1
def qX2_winningCut_2  (fuel : Nat) (a0 : Nat) (x1 : Int32) (x2 : Int32) (h : qm_H) : Option (Int32 × qm_H) := match fuel with
  | 0 => none
  | n + 1 =>
    if x2 < (h.1 a0 2) then
    if x2 < (6 : Int32) then
    qX2_winningCut_18 (qX2_winningCut_2 n) qm_N a0 x1 x2 (1 : Int32) h
    else
    some ((-1 : Int32), h)
    else
    some ((-1 : Int32), h)
def qX2_winningCut  (a0 : Nat) (x1 : Int32) (h : qm_H) : Option (Int32 × qm_H) :=
  qX2_winningCut_2 qm_N a0 x1 (0 : Int32) h
def qJ9_min_7cf53  (x0 : Int32) (x1 : Int32) (h : qm_H) : Option (Int32 × qm_H) :=
  if x1 < x0 then
  some (x1, h)
  else
  some (x0, h)
def qX8_kindAt_49  (x2 : Int32) (h : qm_H) : Option (Int32 × qm_H) :=
  if x2 = (59 : Int32) then
  some ((3 : Int32), h)
  else
  if x2 = (10 : Int32) then
  some ((4 : Int32), h)
  else
  if x2 = (32 : Int32) then
  some ((4 : Int32), h)
  else
  some ((5 : Int32), h)
def qX8_kindAt  (a0 : Nat) (x1 : Int32) (h : qm_H) : Option (Int32 × qm_H) :=
  if x1 < (0 : Int32) then
  some ((0 : Int32), h)
  else
  if x1 < (h.1 a0 1) then
  if x1 < 0 ∨ 600 ≤ (x1).toNatClampNeg then none else
  qm_let (h.1 (a0 - 41) (x1).toNatClampNeg) fun v1 =>
  if v1 < (97 : Int32) then
  if v1 < (48 : Int32) then
  qX8_kindAt_49 v1 h
  else
  if (57 : Int32) < v1 then
  qX8_kindAt_49 v1 h
  else
  some ((2 : Int32), h)
  else
  if (122 : Int32) < v1 then
  if v1 < (48 : Int32) then
  qX8_kindAt_49 v1 h
  else
  if (57 : Int32) < v1 then
  qX8_kindAt_49 v1 h
  else
  some ((2 : Int32), h)
  else
  some ((1 : Int32), h)
  else
  some ((0 : Int32), h)
def qX8_takeNumber_29  (fuel : Nat) (a0 : Nat) (x1 : Int32) (h : qm_H) : Option (qm_H) := match fuel with
  | 0 => none
  | n + 1 =>
    if x1 < (h.1 a0 4) then
    if x1 < (h.1 a0 1) then
    if x1 < 0 ∨ 600 ≤ (x1).toNatClampNeg then none else
    qm_let (qm_seti h a0 5 (((10 : Int32) * (h.1 a0 5)) + ((h.1 (a0 - 41) (x1).toNatClampNeg) - (48 : Int32)))) fun h1 =>
    (qX8_takeNumber_29 n) a0 (x1 + (1 : Int32)) h1
    else
    some h
    else
    some h
def qX8_takeNumber  (a0 : Nat) (h : qm_H) : Option (qm_H) :=
  if (2 : Int32) < ((h.1 a0 4) - (h.1 a0 3)) then
  qm_let (qm_seti h a0 2 (5 : Int32)) fun h2 =>
  some h2
  else
  qm_let (qm_seti h a0 5 (0 : Int32)) fun h1 =>
  qX8_takeNumber_29 qm_N a0 (h1.1 a0 3) h1
def qX8_advance_138  (a0 : Nat) (h : qm_H) : Option (qm_H) :=
  if (h.1 a0 2) = (2 : Int32) then
  (qX8_takeNumber a0 h).bind fun h1 =>
  some h1
  else
  some h
def qX8_advance_95  (fuel : Nat) (a0 : Nat) (x1 : Int32) (h : qm_H) : Option (qm_H) := match fuel with
  | 0 => none
  | n + 1 =>
    if x1 = (0 : Int32) then
    qX8_advance_138 a0 h
    else
    if (h.1 a0 4) < (h.1 a0 1) then
    qm_b2 (qX8_kindAt a0 (h.1 a0 4) h) fun r2 h1 =>
    if r2 = (h1.1 a0 2) then
    qm_let (qm_seti h1 a0 4 ((h1.1 a0 4) + (1 : Int32))) fun h3 =>
    (qX8_advance_95 n) a0 x1 h3
    else
    qX8_advance_138 a0 h1
    else
    qX8_advance_138 a0 h
def qX8_advance_73  (a0 : Nat) (h : qm_H) : Option (qm_H) :=
  if (h.1 a0 2) = (1 : Int32) then
  qX8_advance_95 qm_N a0 (1 : Int32) h
  else
  if (h.1 a0 2) = (2 : Int32) then
  qX8_advance_95 qm_N a0 (1 : Int32) h
  else
  qX8_advance_95 qm_N a0 (0 : Int32) h
def qX8_advance_36  (a0 : Nat) (h : qm_H) : Option (qm_H) :=
  qm_let (qm_seti h a0 3 (h.1 a0 4)) fun h1 =>
  qm_b2 (qX8_kindAt a0 (h1.1 a0 3) h1) fun r3 h2 =>
  if ((qm_seti h2 a0 2 r3).1 a0 2) = (0 : Int32) then
  qX8_advance_73 a0 (qm_seti h2 a0 2 r3)
  else
  qX8_advance_73 a0 (qm_seti (qm_seti h2 a0 2 r3) a0 4 (((qm_seti h2 a0 2 r3).1 a0 4) + (1 : Int32)))
def qX8_advance_0  (fuel : Nat) (a0 : Nat) (h : qm_H) : Option (qm_H) := match fuel with
  | 0 => none
  | n + 1 =>
    if (h.1 a0 4) < (h.1 a0 1) then
    qm_b2 (qX8_kindAt a0 (h.1 a0 4) h) fun r2 h1 =>
    if r2 = (4 : Int32) then
    qm_let (qm_seti h1 a0 4 ((h1.1 a0 4) + (1 : Int32))) fun h3 =>
    (qX8_advance_0 n) a0 h3
    else
    qX8_advance_36 a0 h1
    else
    qX8_advance_36 a0 h
def qX8_advance (p0 : Nat) (h : qm_H) : Option (qm_H) := qX8_advance_0 qm_N p0 h
def qX8_begin  (a0 : Nat) (x1 : Int32) (h : qm_H) : Option (qm_H) :=
  qm_b2 (qJ9_min_7cf53 x1 (Int32.ofNat 600) h) fun r2 h1 =>
  qm_let (qm_seti (qm_seti h1 a0 1 r2) a0 4 (0 : Int32)) fun h3 =>
  (qX8_advance a0 h3).bind fun h4 =>
  some h4
def qX3_goesOn  (a0 : Nat) (h : qm_H) : Option (Int32 × qm_H) :=
  if (h.1 a0 5) = (1 : Int32) then
  some ((0 : Int32), h)
  else
  some ((1 : Int32), h)
def qX3_refuse  (a0 : Nat) (h : qm_H) : Option (qm_H) :=
  if (h.1 a0 5) = (1 : Int32) then
  some h
  else
  qm_let (qm_seti h a0 5 (1 : Int32)) fun h1 =>
  qm_let (qm_seti h1 a0 6 (h1.1 (a0 + 12) 3)) fun h2 =>
  some h2
def qX3_note  (a0 : Nat) (x1 : Int32) (x2 : Int32) (h : qm_H) : Option (qm_H) :=
  if (h.1 a0 5) = (0 : Int32) then
  qm_let (qm_seti (qm_seti h a0 5 x1) a0 6 x2) fun h1 =>
  some h1
  else
  some h
def qX3_readNumber_18  (a0 : Nat) (x1 : Int32) (h : qm_H) : Option (Int32 × qm_H) :=
  (qX3_refuse a0 h).bind fun h1 =>
  some (x1, h1)
def qX3_readNumber_56  (a0 : Nat) (x3 : Int32) (h : qm_H) : Option (Int32 × qm_H) :=
  (qX8_advance (a0 + 12) h).bind fun h1 =>
  some (x3, h1)
def qX3_readNumber_42  (a0 : Nat) (x1 : Int32) (h : qm_H) : Option (Int32 × qm_H) :=
  (qX3_note a0 (2 : Int32) (h.1 (a0 + 12) 3) h).bind fun h1 =>
  qX3_readNumber_56 a0 x1 h1
def qX3_readNumber  (a0 : Nat) (x1 : Int32) (x2 : Int32) (h : qm_H) : Option (Int32 × qm_H) :=
  qm_b2 (qX3_goesOn a0 h) fun r2 h1 =>
  if r2 = (0 : Int32) then
  qX3_readNumber_18 a0 x1 h1
  else
  if (h1.1 (a0 + 12) 2) = (2 : Int32) then
  qm_let (h1.1 (a0 + 12) 5) fun v3 =>
  if v3 < x1 then
  qX3_readNumber_42 a0 x1 h1
  else
  if x2 < v3 then
  qX3_readNumber_42 a0 x1 h1
  else
  qX3_readNumber_56 a0 v3 h1
  else
  qX3_readNumber_18 a0 x1 h1
def qX3_readColumn  (a0 : Nat) (h : qm_H) : Option (Int32 × qm_H) :=
  qm_b2 (qX3_readNumber a0 (0 : Int32) (7 : Int32) h) fun r2 h1 =>
  qm_b2 (qJ9_max_7cf53 (h1.1 a0 7) r2 h1) fun r4 h3 =>
  some (r2, (qm_seti h3 a0 7 r4))
def qX3_readRow  (a0 : Nat) (h : qm_H) : Option (Int32 × qm_H) :=
  qm_b2 (qX3_readNumber a0 (0 : Int32) (7 : Int32) h) fun r2 h1 =>
  qm_b2 (qJ9_max_7cf53 (h1.1 a0 8) r2 h1) fun r4 h3 =>
  some (r2, (qm_seti h3 a0 8 r4))
def qX3_readTwig  (a0 : Nat) (x1 : Int32) (x2 : Int32) (h : qm_H) : Option (qm_H) :=
  qm_b2 (qX3_readNumber a0 (0 : Int32) (9 : Int32) h) fun r2 h1 =>
  qm_b2 (qX3_readNumber a0 (0 : Int32) (9 : Int32) h1) fun r4 h3 =>
  (qX0_setTwig (a0 + 1) x1 x2 r2 r4 h3).bind fun h5 =>
  some h5
def qX10_add  (a0 : Nat) (x1 : Int32) (x2 : Int32) (x3 : Int32) (x4 : Int32) (h : qm_H) : Option (qm_H) :=
  if (h.1 a0 1) < (40 : Int32) then
  qm_let ((4 : Int32) * (h.1 a0 1)) fun v1 =>
  if v1 < 0 ∨ 160 ≤ (v1).toNatClampNeg then none else
  qm_let (qm_seti h (a0 + 1) (v1).toNatClampNeg x1) fun h2 =>
  if (v1 + (1 : Int32)) < 0 ∨ 160 ≤ (v1 + (1 : Int32)).toNatClampNeg then none else
  qm_let (qm_seti h2 (a0 + 1) (v1 + (1 : Int32)).toNatClampNeg x2) fun h3 =>
  if (v1 + (2 : Int32)) < 0 ∨ 160 ≤ (v1 + (2 : Int32)).toNatClampNeg then none else
  qm_let (qm_seti h3 (a0 + 1) (v1 + (2 : Int32)).toNatClampNeg x3) fun h4 =>
  if (v1 + (3 : Int32)) < 0 ∨ 160 ≤ (v1 + (3 : Int32)).toNatClampNeg then none else
  qm_let (qm_seti h4 (a0 + 1) (v1 + (3 : Int32)).toNatClampNeg x4) fun h5 =>
  qm_let (qm_seti h5 a0 1 ((h5.1 a0 1) + (1 : Int32))) fun h6 =>
  some h6
  else
  some h
def qX3_readStop_28  (a0 : Nat) (h : qm_H) : Option (qm_H) :=
  (qX3_refuse a0 h).bind fun h1 =>
  some h1
def qX3_readStop  (a0 : Nat) (h : qm_H) : Option (qm_H) :=
  qm_b2 (qX3_goesOn a0 h) fun r2 h1 =>
  if r2 = (0 : Int32) then
  qX3_readStop_28 a0 h1
  else
  if (h1.1 (a0 + 12) 2) = (3 : Int32) then
  (qX8_advance (a0 + 12) h1).bind fun h3 =>
  some h3
  else
  qX3_readStop_28 a0 h1
def qX3_lookForAll_16  (a0 : Nat) (h : qm_H) : Option (qm_H) :=
  (qX3_note a0 (4 : Int32) (h.1 (a0 + 12) 1) h).bind fun h1 =>
  some h1
def qX3_lookForAll  (a0 : Nat) (x1 : Int32) (x2 : Int32) (h : qm_H) : Option (qm_H) :=
  if (h.1 a0 7) < x1 then
  if (h.1 a0 8) < x2 then
  some h
  else
  qX3_lookForAll_16 a0 h
  else
  qX3_lookForAll_16 a0 h
def qX4_wholeRods_2  (fuel : Nat) (a0 : Nat) (a1 : Nat) (x2 : Int32) (x3 : Int32) (h : qm_H) : Option (qm_H) := match fuel with
  | 0 => none
  | n + 1 =>
    if x3 < (h.1 a1 2) then
    if x3 < (6 : Int32) then
    if x3 < 0 ∨ 6 ≤ (x3).toNatClampNeg then none else
    if x3 < 0 ∨ 6 ≤ (x3).toNatClampNeg then none else
    qm_let (qm_seti h (a0 + 1) (x3).toNatClampNeg (h.1 (a1 + 1) (x3).toNatClampNeg)) fun h1 =>
    if x2 = (0 : Int32) then
    if x3 < 0 ∨ 6 ≤ (x3).toNatClampNeg then none else
    qm_let (qm_seti h1 (a0 + 2) (x3).toNatClampNeg (1 : Int32)) fun h2 =>
    (qX4_wholeRods_2 n) a0 a1 x2 (x3 + (1 : Int32)) h2
    else
    if x3 < 0 ∨ 6 ≤ (x3).toNatClampNeg then none else
    if x3 < 0 ∨ 6 ≤ (x3).toNatClampNeg then none else
    qm_let (qm_seti h1 (a0 + 2) (x3).toNatClampNeg (h1.1 (a1 + 1) (x3).toNatClampNeg)) fun h3 =>
    (qX4_wholeRods_2 n) a0 a1 x2 (x3 + (1 : Int32)) h3
    else
    some h
    else
    some h
def qX4_wholeRods  (a0 : Nat) (a1 : Nat) (x2 : Int32) (h : qm_H) : Option (qm_H) :=
  qX4_wholeRods_2 qm_N a0 a1 x2 (0 : Int32) h
def qX4_allFrom  (a0 : Nat) (x1 : Int32) (h : qm_H) : Option (Int32 × qm_H) :=
  qm_b2 (qJ9_min_7cf53 (h.1 a0 3) (8 : Int32) h) fun r2 h1 =>
  qm_b2 (qJ9_max_7cf53 (0 : Int32) (r2 - x1) h1) fun r4 h3 =>
  some (((qm_ishl (1 : Int32) r4) - (1 : Int32)), h3)
def qJ6_numberOfTrailingZeros_0f7a4_62  (x0 : Int32) (x1 : Int32) (h : qm_H) : Option (Int32 × qm_H) :=
  if (4 : Int32) < x0 then
  qm_let (qm_iushr x0 (2 : Int32)) fun v1 =>
  some (((x1 + (2 : Int32)) + (qm_iushr v1 (1 : Int32))), h)
  else
  some ((x1 + (qm_iushr x0 (1 : Int32))), h)
def qJ6_numberOfTrailingZeros_0f7a4_34  (x0 : Int32) (x1 : Int32) (h : qm_H) : Option (Int32 × qm_H) :=
  if (256 : Int32) < x0 then
  qm_let (qm_iushr x0 (8 : Int32)) fun v2 =>
  if (16 : Int32) < v2 then
  qm_let (qm_iushr v2 (4 : Int32)) fun v3 =>
  qJ6_numberOfTrailingZeros_0f7a4_62 v3 ((x1 + (8 : Int32)) + (4 : Int32)) h
  else
  qJ6_numberOfTrailingZeros_0f7a4_62 v2 (x1 + (8 : Int32)) h
  else
  if (16 : Int32) < x0 then
  qm_let (qm_iushr x0 (4 : Int32)) fun v1 =>
  qJ6_numberOfTrailingZeros_0f7a4_62 v1 (x1 + (4 : Int32)) h
  else
  qJ6_numberOfTrailingZeros_0f7a4_62 x0 x1 h
def qJ6_numberOfTrailingZeros_0f7a4  (x0 : Int32) (h : qm_H) : Option (Int32 × qm_H) :=
  qm_let ((x0 ^^^ (-1 : Int32)) &&& (x0 - (1 : Int32))) fun v1 =>
  if (0 : Int32) < v1 then
  if (65536 : Int32) < v1 then
  qm_let (qm_iushr v1 (16 : Int32)) fun v2 =>
  qJ6_numberOfTrailingZeros_0f7a4_34 v2 ((1 : Int32) + (16 : Int32)) h
  else
  qJ6_numberOfTrailingZeros_0f7a4_34 v1 (1 : Int32) h
  else
  some ((v1 &&& (32 : Int32)), h)
def qX4_packInto_9 (K2 : Nat → Int32 → Int32 → qm_H → Option (qm_H)) (fuel : Nat) (a0 : Nat) (x1 : Int32) (x3 : Int32) (x4 : Int32) (h : qm_H) : Option (qm_H) := match fuel with
  | 0 => none
  | n + 1 =>
    if (0 : Int32) < x4 then
    if x4 < 0 ∨ 256 ≤ (x4).toNatClampNeg then none else
    if x1 < 0 ∨ 6 ≤ (x1).toNatClampNeg then none else
    if (h.1 (a0 + 1) (x1).toNatClampNeg) < (h.1 (a0 + 3) (x4).toNatClampNeg) then
    qm_let ((x4 - (1 : Int32)) &&& x3) fun v1 =>
    (qX4_packInto_9 K2 n) a0 x1 x3 v1 h
    else
    if x3 < 0 ∨ 256 ≤ (x3).toNatClampNeg then none else
    if (x3 ^^^ x4) < 0 ∨ 256 ≤ (x3 ^^^ x4).toNatClampNeg then none else
    if x1 < 0 ∨ 6 ≤ (x1).toNatClampNeg then none else
    qm_b2 (qJ9_min_7cf53 (h.1 (a0 + 4) (x3).toNatClampNeg) ((h.1 (a0 + 4) (x3 ^^^ x4).toNatClampNeg) + (h.1 (a0 + 2) (x1).toNatClampNeg)) h) fun r3 h2 =>
    if x3 < 0 ∨ 256 ≤ (x3).toNatClampNeg then none else
    qm_let (qm_seti h2 (a0 + 4) (x3).toNatClampNeg r3) fun h4 =>
    qm_let ((x4 - (1 : Int32)) &&& x3) fun v5 =>
    (qX4_packInto_9 K2 n) a0 x1 x3 v5 h4
    else
    K2 a0 x1 (x3 + (-1 : Int32)) h
def qX4_packInto_2  (fuel : Nat) (a0 : Nat) (x1 : Int32) (x3 : Int32) (h : qm_H) : Option (qm_H) := match fuel with
  | 0 => none
  | n + 1 =>
    if (0 : Int32) < x3 then
    qX4_packInto_9 (qX4_packInto_2 n) qm_N a0 x1 x3 x3 h
    else
    some h
def qX4_packInto  (a0 : Nat) (x1 : Int32) (x2 : Int32) (h : qm_H) : Option (qm_H) :=
  qX4_packInto_2 qm_N a0 x1 x2 h
def qX4_pack_102  (fuel : Nat) (a0 : Nat) (a1 : Nat) (x3 : Int32) (x4 : Int32) (h : qm_H) : Option (Int32 × qm_H) := match fuel with
  | 0 => none
  | n + 1 =>
    if x4 < (h.1 a1 2) then
    if x4 < (6 : Int32) then
    (qX4_packInto a0 x4 x3 h).bind fun h1 =>
    (qX4_pack_102 n) a0 a1 x3 (x4 + (1 : Int32)) h1
    else
    if x3 < (256 : Int32) then
    if x3 < 0 ∨ 256 ≤ (x3).toNatClampNeg then none else
    some ((h.1 (a0 + 4) (x3).toNatClampNeg), h)
    else
    some ((1000000 : Int32), h)
    else
    if x3 < (256 : Int32) then
    if x3 < 0 ∨ 256 ≤ (x3).toNatClampNeg then none else
    some ((h.1 (a0 + 4) (x3).toNatClampNeg), h)
    else
    some ((1000000 : Int32), h)
def qX4_pack_23  (fuel : Nat) (a0 : Nat) (a1 : Nat) (x2 : Int32) (x3 : Int32) (x4 : Int32) (h : qm_H) : Option (Int32 × qm_H) := match fuel with
  | 0 => none
  | n + 1 =>
    if x3 < x4 then
    qX4_pack_102 qm_N a0 a1 x3 (0 : Int32) h
    else
    if x4 < (256 : Int32) then
    qm_b2 (qJ6_numberOfTrailingZeros_0f7a4 x4 h) fun r2 h1 =>
    if (x4 &&& (x4 - (1 : Int32))) < 0 ∨ 256 ≤ (x4 &&& (x4 - (1 : Int32))).toNatClampNeg then none else
    if (x2 + r2) < (8 : Int32) then
    if (x2 + r2) < 0 ∨ 8 ≤ (x2 + r2).toNatClampNeg then none else
    if x4 < 0 ∨ 256 ≤ (x4).toNatClampNeg then none else
    qm_let (qm_seti h1 (a0 + 3) (x4).toNatClampNeg ((h1.1 (a0 + 3) (x4 &&& (x4 - (1 : Int32))).toNatClampNeg) + (h1.1 (a1 + 2) (x2 + r2).toNatClampNeg))) fun h5 =>
    if x4 < 0 ∨ 256 ≤ (x4).toNatClampNeg then none else
    qm_let (qm_seti h5 (a0 + 4) (x4).toNatClampNeg (1000000 : Int32)) fun h6 =>
    (qX4_pack_23 n) a0 a1 x2 x3 (x4 + (1 : Int32)) h6
    else
    if x4 < 0 ∨ 256 ≤ (x4).toNatClampNeg then none else
    qm_let (qm_seti h1 (a0 + 3) (x4).toNatClampNeg ((h1.1 (a0 + 3) (x4 &&& (x4 - (1 : Int32))).toNatClampNeg) + (0 : Int32))) fun h3 =>
    if x4 < 0 ∨ 256 ≤ (x4).toNatClampNeg then none else
    qm_let (qm_seti h3 (a0 + 4) (x4).toNatClampNeg (1000000 : Int32)) fun h4 =>
    (qX4_pack_23 n) a0 a1 x2 x3 (x4 + (1 : Int32)) h4
    else
    qX4_pack_102 qm_N a0 a1 x3 (0 : Int32) h
def qX4_pack  (a0 : Nat) (a1 : Nat) (x2 : Int32) (h : qm_H) : Option (Int32 × qm_H) :=
  qm_b2 (qX4_allFrom a1 x2 h) fun r2 h1 =>
  qm_let (qm_seti h1 (a0 + 3) (0 : Int32).toNatClampNeg (0 : Int32)) fun h3 =>
  qm_let (qm_seti h3 (a0 + 4) (0 : Int32).toNatClampNeg (0 : Int32)) fun h4 =>
  qX4_pack_23 qm_N a0 a1 x2 r2 (1 : Int32) h4
def qX4_fewest  (a0 : Nat) (a1 : Nat) (h : qm_H) : Option (Int32 × qm_H) :=
  (qX4_wholeRods a0 a1 (0 : Int32) h).bind fun h1 =>
  qm_b2 (qX4_pack a0 a1 (0 : Int32) h1) fun r3 h2 =>
  if r3 < (1000000 : Int32) then
  some (r3, h2)
  else
  some ((-1 : Int32), h2)
def qX4_spare  (a0 : Nat) (a1 : Nat) (h : qm_H) : Option (Int32 × qm_H) :=
  (qX4_wholeRods a0 a1 (1 : Int32) h).bind fun h1 =>
  qm_b2 (qX4_pack a0 a1 (0 : Int32) h1) fun r3 h2 =>
  if r3 < (1000000 : Int32) then
  qm_b2 (qX4_allFrom a1 (0 : Int32) h2) fun r5 h4 =>
  if r5 < 0 ∨ 256 ≤ (r5).toNatClampNeg then none else
  some ((r3 - (h4.1 (a0 + 3) (r5).toNatClampNeg)), h4)
  else
  some ((-1 : Int32), h2)
def qJ6_bitCount_0f7a4  (x0 : Int32) (h : qm_H) : Option (Int32 × qm_H) :=
  qm_let (x0 - ((qm_iushr x0 (1 : Int32)) &&& (1431655765 : Int32))) fun v1 =>
  qm_let ((v1 &&& (858993459 : Int32)) + ((qm_iushr v1 (2 : Int32)) &&& (858993459 : Int32))) fun v2 =>
  qm_let ((v2 + (qm_iushr v2 (4 : Int32))) &&& (252645135 : Int32)) fun v3 =>
  qm_let (v3 + (qm_iushr v3 (8 : Int32))) fun v4 =>
  qm_let (v4 + (qm_iushr v4 (16 : Int32))) fun v5 =>
  some ((v5 &&& (63 : Int32)), h)
def qX4_longest_17  (fuel : Nat) (a0 : Nat) (a1 : Nat) (x2 : Int32) (x3 : Int32) (h : qm_H) : Option (Int32 × qm_H) := match fuel with
  | 0 => none
  | n + 1 =>
    qm_b2 (qX4_allFrom a1 (0 : Int32) h) fun r2 h1 =>
    if r2 < x3 then
    some (x2, h1)
    else
    if x3 < 0 ∨ 256 ≤ (x3).toNatClampNeg then none else
    if (h1.1 (a0 + 4) (x3).toNatClampNeg) < (1000000 : Int32) then
    qm_b2 (qJ6_bitCount_0f7a4 x3 h1) fun r4 h3 =>
    qm_b2 (qJ9_max_7cf53 x2 r4 h3) fun r6 h5 =>
    (qX4_longest_17 n) a0 a1 r6 (x3 + (1 : Int32)) h5
    else
    (qX4_longest_17 n) a0 a1 x2 (x3 + (1 : Int32)) h1
def qX4_longest  (a0 : Nat) (a1 : Nat) (h : qm_H) : Option (Int32 × qm_H) :=
  (qX4_wholeRods a0 a1 (0 : Int32) h).bind fun h1 =>
  qm_b2 (qX4_pack a0 a1 (0 : Int32) h1) fun r3 h2 =>
  qX4_longest_17 qm_N a0 a1 (0 : Int32) (0 : Int32) h2
def qX4_cutOff  (a0 : Nat) (x1 : Int32) (x2 : Int32) (x3 : Int32) (h : qm_H) : Option (qm_H) :=
  if x1 < (0 : Int32) then
  some h
  else
  if x1 < (6 : Int32) then
  if x1 < 0 ∨ 6 ≤ (x1).toNatClampNeg then none else
  if x1 < 0 ∨ 6 ≤ (x1).toNatClampNeg then none else
  qm_let (qm_seti h (a0 + 1) (x1).toNatClampNeg ((h.1 (a0 + 1) (x1).toNatClampNeg) - x2)) fun h1 =>
  if x1 < 0 ∨ 6 ≤ (x1).toNatClampNeg then none else
  qm_let (qm_seti h1 (a0 + 2) (x1).toNatClampNeg x3) fun h2 =>
  some h2
  else
  some h
def qX4_firstRodFor_3  (fuel : Nat) (a0 : Nat) (a1 : Nat) (x2 : Int32) (x3 : Int32) (x4 : Int32) (h : qm_H) : Option (Int32 × qm_H) := match fuel with
  | 0 => none
  | n + 1 =>
    if x4 < (h.1 a1 2) then
    if x4 < (6 : Int32) then
    if x2 < 0 ∨ 8 ≤ (x2).toNatClampNeg then none else
    qm_let (h.1 (a1 + 2) (x2).toNatClampNeg) fun v1 =>
    if x4 < 0 ∨ 6 ≤ (x4).toNatClampNeg then none else
    qm_let (h.1 (a0 + 2) (x4).toNatClampNeg) fun v2 =>
    if x4 < 0 ∨ 6 ≤ (x4).toNatClampNeg then none else
    if (h.1 (a0 + 1) (x4).toNatClampNeg) < v1 then
    (qX4_firstRodFor_3 n) a0 a1 x2 x3 (x4 + (1 : Int32)) h
    else
    if x3 < v2 then
    (qX4_firstRodFor_3 n) a0 a1 x2 x3 (x4 + (1 : Int32)) h
    else
    (qX4_cutOff a0 x4 v1 (0 : Int32) h).bind fun h3 =>
    qm_b2 (qX4_pack a0 a1 (x2 + (1 : Int32)) h3) fun r5 h4 =>
    (qX4_cutOff a0 x4 (-v1) v2 h4).bind fun h6 =>
    if x3 < (v2 + r5) then
    (qX4_firstRodFor_3 n) a0 a1 x2 x3 (x4 + (1 : Int32)) h6
    else
    some (x4, h6)
    else
    some ((-1 : Int32), h)
    else
    some ((-1 : Int32), h)
def qX4_firstRodFor  (a0 : Nat) (a1 : Nat) (x2 : Int32) (x3 : Int32) (h : qm_H) : Option (Int32 × qm_H) :=
  qX4_firstRodFor_3 qm_N a0 a1 x2 x3 (0 : Int32) h
def qX4_rodOf_22  (fuel : Nat) (a0 : Nat) (a1 : Nat) (x2 : Int32) (x3 : Int32) (x4 : Int32) (x5 : Int32) (x6 : Int32) (h : qm_H) : Option (Int32 × qm_H) := match fuel with
  | 0 => none
  | n + 1 =>
    if x2 < x6 then
    some (x4, h)
    else
    if x6 < (8 : Int32) then
    qm_b2 (qX4_firstRodFor a0 a1 x6 (x3 - x5) h) fun r2 h1 =>
    if r2 = (-1 : Int32) then
    some ((-1 : Int32), h1)
    else
    if r2 < 0 ∨ 6 ≤ (r2).toNatClampNeg then none else
    qm_let (x5 + (h1.1 (a0 + 2) (r2).toNatClampNeg)) fun v3 =>
    if x6 < 0 ∨ 8 ≤ (x6).toNatClampNeg then none else
    (qX4_cutOff a0 r2 (h1.1 (a1 + 2) (x6).toNatClampNeg) (0 : Int32) h1).bind fun h4 =>
    (qX4_rodOf_22 n) a0 a1 x2 x3 r2 v3 (x6 + (1 : Int32)) h4
    else
    some (x4, h)
def qX4_rodOf  (a0 : Nat) (a1 : Nat) (x2 : Int32) (h : qm_H) : Option (Int32 × qm_H) :=
  qm_b2 (qX4_fewest a0 a1 h) fun r2 h1 =>
  if r2 = (-1 : Int32) then
  some ((-1 : Int32), h1)
  else
  qX4_rodOf_22 qm_N a0 a1 x2 r2 (-1 : Int32) (0 : Int32) (0 : Int32) h1
def qX4_mostOf_73 (K42 : Nat → Nat → Int32 → Int32 → Int32 → Int32 → qm_H → Option (Int32 × qm_H)) (a0 : Nat) (a1 : Nat) (x2 : Int32) (x4 : Int32) (x6 : Int32) (x7 : Int32) (xs0 : Int32) (h : qm_H) : Option (Int32 × qm_H) :=
  if x6 < 0 ∨ 6 ≤ (x6).toNatClampNeg then none else
  qm_let (qm_seti h (a0 + 5) (x6).toNatClampNeg x7) fun h1 =>
  if x7 < (0 : Int32) then
  K42 a0 a1 x2 x4 xs0 (x6 + (-1 : Int32)) h1
  else
  if x7 < (4 : Int32) then
  if x7 < 0 ∨ 4 ≤ (x7).toNatClampNeg then none else
  if x6 < 0 ∨ 6 ≤ (x6).toNatClampNeg then none else
  if x7 < 0 ∨ 4 ≤ (x7).toNatClampNeg then none else
  qm_let (qm_seti h1 (a0 + 6) (x7).toNatClampNeg ((h1.1 (a0 + 6) (x7).toNatClampNeg) + (h1.1 (a1 + 1) (x6).toNatClampNeg))) fun h2 =>
  if x7 < 0 ∨ 4 ≤ (x7).toNatClampNeg then none else
  qm_b2 (qJ9_max_7cf53 x4 (h2.1 (a0 + 6) (x7).toNatClampNeg) h2) fun r4 h3 =>
  K42 a0 a1 x2 r4 xs0 (x6 + (-1 : Int32)) h3
  else
  K42 a0 a1 x2 x4 xs0 (x6 + (-1 : Int32)) h1
def qX4_mostOf_42  (fuel : Nat) (a0 : Nat) (a1 : Nat) (x2 : Int32) (x4 : Int32) (x5 : Int32) (x6 : Int32) (h : qm_H) : Option (Int32 × qm_H) := match fuel with
  | 0 => none
  | n + 1 =>
    if x6 < (0 : Int32) then
    some (x4, h)
    else
    if (0 : Int32) < x2 then
    if x2 = 0 then none else
    qm_let (qm_irem x5 x2) fun v1 =>
    if (0 : Int32) < x2 then
    if x2 = 0 then none else
    qX4_mostOf_73 (qX4_mostOf_42 n) a0 a1 x2 x4 x6 v1 (x5 / x2) h
    else
    qX4_mostOf_73 (qX4_mostOf_42 n) a0 a1 x2 x4 x6 v1 (0 : Int32) h
    else
    if (0 : Int32) < x2 then
    if x2 = 0 then none else
    qX4_mostOf_73 (qX4_mostOf_42 n) a0 a1 x2 x4 x6 (0 : Int32) (x5 / x2) h
    else
    qX4_mostOf_73 (qX4_mostOf_42 n) a0 a1 x2 x4 x6 (0 : Int32) (0 : Int32) h
def qX4_mostOf_3  (fuel : Nat) (a0 : Nat) (a1 : Nat) (x2 : Int32) (x3 : Int32) (x4 : Int32) (h : qm_H) : Option (Int32 × qm_H) := match fuel with
  | 0 => none
  | n + 1 =>
    if x4 < (4 : Int32) then
    if x4 < 0 ∨ 4 ≤ (x4).toNatClampNeg then none else
    qm_let (qm_seti h (a0 + 6) (x4).toNatClampNeg (0 : Int32)) fun h4 =>
    (qX4_mostOf_3 n) a0 a1 x2 x3 (x4 + (1 : Int32)) h4
    else
    qm_b2 (qJ9_min_7cf53 (h.1 a1 2) (6 : Int32) h) fun r2 h1 =>
    qm_let (r2 - (1 : Int32)) fun v3 =>
    qX4_mostOf_42 qm_N a0 a1 x2 (0 : Int32) x3 v3 h1
def qX4_mostOf  (a0 : Nat) (a1 : Nat) (x2 : Int32) (x3 : Int32) (h : qm_H) : Option (Int32 × qm_H) :=
  qX4_mostOf_3 qm_N a0 a1 x2 x3 (0 : Int32) h
def qX4_divide_43  (fuel : Nat) (a0 : Nat) (a1 : Nat) (x2 : Int32) (x3 : Int32) (x4 : Int32) (x5 : Int32) (h : qm_H) : Option (qm_H) := match fuel with
  | 0 => none
  | n + 1 =>
    if x5 < x3 then
    qm_b2 (qX4_mostOf a0 a1 x2 x5 h) fun r4 h3 =>
    if r4 < (h3.1 a0 6) then
    (qX4_divide_43 n) a0 a1 x2 x3 x5 (x5 + (1 : Int32)) (qm_seti h3 a0 6 r4)
    else
    (qX4_divide_43 n) a0 a1 x2 x3 x4 (x5 + (1 : Int32)) h3
    else
    qm_b2 (qX4_mostOf a0 a1 x2 x4 h) fun r2 h1 =>
    some h1
def qX4_divide_5  (fuel : Nat) (a0 : Nat) (a1 : Nat) (x2 : Int32) (x3 : Int32) (x4 : Int32) (h : qm_H) : Option (qm_H) := match fuel with
  | 0 => none
  | n + 1 =>
    if x4 < (h.1 a1 2) then
    if x4 < (6 : Int32) then
    (qX4_divide_5 n) a0 a1 x2 (x3 * x2) (x4 + (1 : Int32)) h
    else
    qm_let (qm_seti h a0 6 (1000000 : Int32)) fun h2 =>
    qX4_divide_43 qm_N a0 a1 x2 x3 (0 : Int32) (0 : Int32) h2
    else
    qm_let (qm_seti h a0 6 (1000000 : Int32)) fun h1 =>
    qX4_divide_43 qm_N a0 a1 x2 x3 (0 : Int32) (0 : Int32) h1
def qX4_divide  (a0 : Nat) (a1 : Nat) (x2 : Int32) (h : qm_H) : Option (qm_H) :=
  qX4_divide_5 qm_N a0 a1 x2 (1 : Int32) (1 : Int32) h
def qX5_tally_13 (K3 : Nat → Int32 → Int32 → Int32 → Int32 → Int32 → qm_H → Option (qm_H)) (fuel : Nat) (a0 : Nat) (x1 : Int32) (x2 : Int32) (x3 : Int32) (x4 : Int32) (x5 : Int32) (x6 : Int32) (h : qm_H) : Option (qm_H) := match fuel with
  | 0 => none
  | n + 1 =>
    if x6 < x3 then
    qm_let ((x2 + (x1 * x5)) + x6) fun v1 =>
    if v1 < (0 : Int32) then
    (qX5_tally_13 K3 n) a0 x1 x2 x3 x4 x5 (x6 + (1 : Int32)) h
    else
    if v1 < (64 : Int32) then
    if v1 < 0 ∨ 64 ≤ (v1).toNatClampNeg then none else
    if v1 < 0 ∨ 64 ≤ (v1).toNatClampNeg then none else
    qm_let (qm_seti h (a0 + 1) (v1).toNatClampNeg ((h.1 (a0 + 1) (v1).toNatClampNeg) + (1 : Int32))) fun h2 =>
    (qX5_tally_13 K3 n) a0 x1 x2 x3 x4 x5 (x6 + (1 : Int32)) h2
    else
    (qX5_tally_13 K3 n) a0 x1 x2 x3 x4 x5 (x6 + (1 : Int32)) h
    else
    K3 a0 x1 x2 x3 x4 (x5 + (1 : Int32)) h
def qX5_tally_3  (fuel : Nat) (a0 : Nat) (x1 : Int32) (x2 : Int32) (x3 : Int32) (x4 : Int32) (x5 : Int32) (h : qm_H) : Option (qm_H) := match fuel with
  | 0 => none
  | n + 1 =>
    if x5 < x4 then
    qX5_tally_13 (qX5_tally_3 n) qm_N a0 x1 x2 x3 x4 x5 (0 : Int32) h
    else
    some h
def qX5_tally  (a0 : Nat) (x1 : Int32) (x2 : Int32) (x3 : Int32) (x4 : Int32) (h : qm_H) : Option (qm_H) :=
  qX5_tally_3 qm_N a0 x1 x2 x3 x4 (0 : Int32) h
def qX5_lookAtSize_85 (K3 : Nat → Nat → Int32 → Int32 → Int32 → qm_H → Option (qm_H)) (K17 : Nat → Nat → Int32 → Int32 → Int32 → Int32 → qm_H → Option (qm_H)) (a0 : Nat) (a1 : Nat) (x2 : Int32) (x3 : Int32) (x4 : Int32) (x5 : Int32) (x6 : Int32) (h : qm_H) : Option (qm_H) :=
  qm_let (qm_seti h a0 1 ((h.1 a0 1) + (1 : Int32))) fun h1 =>
  if (h1.1 a0 4) = (0 : Int32) then
  K17 a0 a1 x2 x3 x4 (x5 + (1 : Int32)) h1
  else
  (qX5_tally a0 (h1.1 a1 1) x6 x2 x3 h1).bind fun h2 =>
  K17 a0 a1 x2 x3 x4 (x5 + (1 : Int32)) h2
def qX5_lookAtSize_17 (K3 : Nat → Nat → Int32 → Int32 → Int32 → qm_H → Option (qm_H)) (fuel : Nat) (a0 : Nat) (a1 : Nat) (x2 : Int32) (x3 : Int32) (x4 : Int32) (x5 : Int32) (h : qm_H) : Option (qm_H) := match fuel with
  | 0 => none
  | n + 1 =>
    if (h.1 a1 1) < (x5 + x2) then
    K3 a0 a1 x2 x3 (x4 + (1 : Int32)) h
    else
    qm_b2 (qX1_allow a1 x4 x5 x2 x3 h) fun r2 h1 =>
    if r2 = (0 : Int32) then
    (qX5_lookAtSize_17 K3 n) a0 a1 x2 x3 x4 (x5 + (1 : Int32)) h1
    else
    qm_let (((h1.1 a1 1) * x4) + x5) fun v3 =>
    if (h1.1 a0 1) = (h1.1 a0 2) then
    qX5_lookAtSize_85 K3 (qX5_lookAtSize_17 K3 n) a0 a1 x2 x3 x4 x5 v3 (qm_seti h1 a0 3 ((((512 : Int32) * (x3 - (1 : Int32))) + ((64 : Int32) * (x2 - (1 : Int32)))) + v3))
    else
    qX5_lookAtSize_85 K3 (qX5_lookAtSize_17 K3 n) a0 a1 x2 x3 x4 x5 v3 h1
def qX5_lookAtSize_3  (fuel : Nat) (a0 : Nat) (a1 : Nat) (x2 : Int32) (x3 : Int32) (x4 : Int32) (h : qm_H) : Option (qm_H) := match fuel with
  | 0 => none
  | n + 1 =>
    if (h.1 a1 2) < (x4 + x3) then
    some h
    else
    qX5_lookAtSize_17 (qX5_lookAtSize_3 n) qm_N a0 a1 x2 x3 x4 (0 : Int32) h
def qX5_lookAtSize  (a0 : Nat) (a1 : Nat) (x2 : Int32) (x3 : Int32) (h : qm_H) : Option (qm_H) :=
  qX5_lookAtSize_3 qm_N a0 a1 x2 x3 (0 : Int32) h
def qX5_look_59 (K47 : Nat → Nat → Int32 → qm_H → Option (qm_H)) (fuel : Nat) (a0 : Nat) (a1 : Nat) (x4 : Int32) (x5 : Int32) (h : qm_H) : Option (qm_H) := match fuel with
  | 0 => none
  | n + 1 =>
    if (h.1 a1 1) < x5 then
    K47 a0 a1 (x4 + (1 : Int32)) h
    else
    (qX5_lookAtSize a0 a1 x5 x4 h).bind fun h1 =>
    (qX5_look_59 K47 n) a0 a1 x4 (x5 + (1 : Int32)) h1
def qX5_look_47  (fuel : Nat) (a0 : Nat) (a1 : Nat) (x4 : Int32) (h : qm_H) : Option (qm_H) := match fuel with
  | 0 => none
  | n + 1 =>
    if (h.1 a1 2) < x4 then
    some h
    else
    qX5_look_59 (qX5_look_47 n) qm_N a0 a1 x4 (1 : Int32) h
def qX5_look_23  (fuel : Nat) (a0 : Nat) (a1 : Nat) (x4 : Int32) (h : qm_H) : Option (qm_H) := match fuel with
  | 0 => none
  | n + 1 =>
    if x4 < (64 : Int32) then
    if x4 < 0 ∨ 64 ≤ (x4).toNatClampNeg then none else
    qm_let (qm_seti h (a0 + 1) (x4).toNatClampNeg (0 : Int32)) fun h1 =>
    (qX5_look_23 n) a0 a1 (x4 + (1 : Int32)) h1
    else
    qX5_look_47 qm_N a0 a1 (1 : Int32) h
def qX5_look  (a0 : Nat) (a1 : Nat) (x2 : Int32) (x3 : Int32) (h : qm_H) : Option (qm_H) :=
  qm_let (qm_seti h a0 1 (0 : Int32)) fun h1 =>
  qm_let (qm_seti (qm_seti h1 a0 2 x2) a0 3 (-1 : Int32)) fun h2 =>
  if x3 &&& 1 = x3 then
  qX5_look_23 qm_N a0 a1 (0 : Int32) (qm_seti h2 a0 4 x3)
  else none
def qX5_howMany  (a0 : Nat) (a1 : Nat) (h : qm_H) : Option (Int32 × qm_H) :=
  (qX5_look a0 a1 (-1 : Int32) (0 : Int32) h).bind fun h1 =>
  some ((h1.1 a0 1), h1)
def qX5_gapAt  (a0 : Nat) (a1 : Nat) (x2 : Int32) (h : qm_H) : Option (Int32 × qm_H) :=
  (qX5_look a0 a1 x2 (0 : Int32) h).bind fun h1 =>
  if (h1.1 a0 3) = (-1 : Int32) then
  some ((-2 : Int32), h1)
  else
  some ((h1.1 a0 3), h1)
def qX5_sureOf  (a0 : Nat) (a1 : Nat) (x2 : Int32) (h : qm_H) : Option (Int32 × qm_H) :=
  (qX5_look a0 a1 (-1 : Int32) (1 : Int32) h).bind fun h1 =>
  if (h1.1 a0 1) = (0 : Int32) then
  some ((-1 : Int32), h1)
  else
  if x2 < (0 : Int32) then
  some ((-1 : Int32), h1)
  else
  if x2 < (64 : Int32) then
  if x2 < 0 ∨ 64 ≤ (x2).toNatClampNeg then none else
  if (h1.1 (a0 + 1) (x2).toNatClampNeg) = (h1.1 a0 1) then
  some ((1 : Int32), h1)
  else
  if x2 < 0 ∨ 64 ≤ (x2).toNatClampNeg then none else
  if (h1.1 (a0 + 1) (x2).toNatClampNeg) = (0 : Int32) then
  some ((0 : Int32), h1)
  else
  some ((-1 : Int32), h1)
  else
  some ((-1 : Int32), h1)
def qX5_bestAsked_36  (fuel : Nat) (a0 : Nat) (x2 : Int32) (x3 : Int32) (x4 : Int32) (x5 : Int32) (h : qm_H) : Option (Int32 × qm_H) := match fuel with
  | 0 => none
  | n + 1 =>
    if x5 < x4 then
    if x5 < (64 : Int32) then
    if x5 < 0 ∨ 64 ≤ (x5).toNatClampNeg then none else
    if x5 < 0 ∨ 64 ≤ (x5).toNatClampNeg then none else
    qm_b2 (qJ9_max_7cf53 (h.1 (a0 + 1) (x5).toNatClampNeg) ((h.1 a0 1) - (h.1 (a0 + 1) (x5).toNatClampNeg)) h) fun r2 h1 =>
    if x2 = (-1 : Int32) then
    (qX5_bestAsked_36 n) a0 x5 r2 x4 (x5 + (1 : Int32)) h1
    else
    if r2 < x3 then
    (qX5_bestAsked_36 n) a0 x5 r2 x4 (x5 + (1 : Int32)) h1
    else
    (qX5_bestAsked_36 n) a0 x2 x3 x4 (x5 + (1 : Int32)) h1
    else
    some (x2, h)
    else
    some (x2, h)
def qX5_bestAsked  (a0 : Nat) (a1 : Nat) (h : qm_H) : Option (Int32 × qm_H) :=
  (qX5_look a0 a1 (-1 : Int32) (1 : Int32) h).bind fun h1 =>
  if (h1.1 a0 1) = (0 : Int32) then
  qX5_bestAsked_36 qm_N a0 (-1 : Int32) (0 : Int32) (0 : Int32) (0 : Int32) h1
  else
  qm_let ((h1.1 a1 1) * (h1.1 a1 2)) fun v2 =>
  qX5_bestAsked_36 qm_N a0 (-1 : Int32) (0 : Int32) v2 (0 : Int32) h1
def qX6_begin  (a0 : Nat) (a1 : Nat) (h : qm_H) : Option (qm_H) :=
  (qX0_take (a0 + 1) a1 h).bind fun h1 =>
  qm_let (qm_seti h1 a0 1 (0 : Int32)) fun h2 =>
  qm_let (qm_seti h2 a0 2 (0 : Int32)) fun h3 =>
  qm_let (qm_seti h3 a0 3 (0 : Int32)) fun h4 =>
  some h4
def qX10_has  (a0 : Nat) (x1 : Int32) (h : qm_H) : Option (Int32 × qm_H) :=
  if x1 < (0 : Int32) then
  some ((0 : Int32), h)
  else
  if x1 < (h.1 a0 1) then
  if x1 < (40 : Int32) then
  some ((1 : Int32), h)
  else
  some ((0 : Int32), h)
  else
  some ((0 : Int32), h)
def qX10_part  (a0 : Nat) (x1 : Int32) (x2 : Int32) (h : qm_H) : Option (Int32 × qm_H) :=
  qm_let (((4 : Int32) * x1) + x2) fun v1 =>
  if v1 < (0 : Int32) then
  some ((-1 : Int32), h)
  else
  if v1 < (Int32.ofNat 160) then
  if v1 < 0 ∨ 160 ≤ (v1).toNatClampNeg then none else
  some ((h.1 (a0 + 1) (v1).toNatClampNeg), h)
  else
  some ((-1 : Int32), h)
def qX6_strike  (a0 : Nat) (x1 : Int32) (x2 : Int32) (x3 : Int32) (h : qm_H) : Option (qm_H) :=
  qm_b2 (qX0_gapFor (a0 + 1) x1 x2 h) fun r2 h1 =>
  if r2 = (-1 : Int32) then
  qm_b2 (qX0_softest (a0 + 1) x1 x2 h1) fun r4 h3 =>
  if r4 = (-1 : Int32) then
  qm_let (qm_seti h3 a0 3 ((h3.1 a0 3) + (1 : Int32))) fun h5 =>
  some h5
  else
  qm_b2 (qX0_strengthOfRectangle (a0 + 1) r4 x1 x2 h3) fun r7 h6 =>
  if r7 < x3 then
  (qX0_openRectangle (a0 + 1) r4 x1 x2 h6).bind fun h9 =>
  qm_let (qm_seti h9 a0 2 ((h9.1 a0 2) + (1 : Int32))) fun h10 =>
  some h10
  else
  qm_let (qm_seti h6 a0 3 ((h6.1 a0 3) + (1 : Int32))) fun h8 =>
  some h8
  else
  qm_let (qm_seti h1 a0 1 ((h1.1 a0 1) + (1 : Int32))) fun h11 =>
  some h11
def qX6_mend  (a0 : Nat) (x1 : Int32) (x2 : Int32) (h : qm_H) : Option (Int32 × qm_H) :=
  qm_b2 (qX0_hasTwig (a0 + 1) x1 x2 h) fun r2 h1 =>
  if r2 = (0 : Int32) then
  some ((0 : Int32), h1)
  else
  qm_let (((8 : Int32) * x1) + x2) fun v3 =>
  if v3 < 0 ∨ 16 ≤ (v3).toNatClampNeg then none else
  (qX0_setTwig (a0 + 1) x1 x2 (h1.1 ((a0 + 1) + 1) (v3).toNatClampNeg) (0 : Int32) h1).bind fun h4 =>
  some ((1 : Int32), h4)
def qX6_grow  (a0 : Nat) (x1 : Int32) (x2 : Int32) (h : qm_H) : Option (Int32 × qm_H) :=
  qm_b2 (qX0_hasTwig (a0 + 1) x1 x2 h) fun r2 h1 =>
  if r2 = (0 : Int32) then
  some ((0 : Int32), h1)
  else
  qm_let (((8 : Int32) * x1) + x2) fun v3 =>
  if v3 < 0 ∨ 16 ≤ (v3).toNatClampNeg then none else
  if (h1.1 ((a0 + 1) + 1) (v3).toNatClampNeg) < (9 : Int32) then
  if v3 < 0 ∨ 16 ≤ (v3).toNatClampNeg then none else
  if v3 < 0 ∨ 16 ≤ (v3).toNatClampNeg then none else
  (qX0_setTwig (a0 + 1) x1 x2 ((h1.1 ((a0 + 1) + 1) (v3).toNatClampNeg) + (1 : Int32)) (h1.1 ((a0 + 1) + 2) (v3).toNatClampNeg) h1).bind fun h4 =>
  some ((1 : Int32), h4)
  else
  some ((0 : Int32), h1)
def qX6_weave_35  (a0 : Nat) (x1 : Int32) (x2 : Int32) (xs0 : Int32) (h : qm_H) : Option (Int32 × qm_H) :=
  if xs0 = (0 : Int32) then
  some ((0 : Int32), h)
  else
  qm_b2 (qX0_isOpen (a0 + 1) x2 x1 h) fun r2 h1 =>
  if r2 = (0 : Int32) then
  some ((0 : Int32), h1)
  else
  qm_b2 (qX0_bit x2 x1 h1) fun r4 h3 =>
  qm_let (qm_setl h3 (a0 + 1) 6 ((h1.2 (a0 + 1) 6) &&& (r4 ^^^ (-1 : Int64)))) fun h5 =>
  some ((1 : Int32), h5)
def qX6_weave  (a0 : Nat) (x1 : Int32) (x2 : Int32) (h : qm_H) : Option (Int32 × qm_H) :=
  if x1 < (0 : Int32) then
  qX6_weave_35 a0 x1 x2 (0 : Int32) h
  else
  if x1 < (h.1 (a0 + 1) 3) then
  if x2 < (0 : Int32) then
  qX6_weave_35 a0 x1 x2 (0 : Int32) h
  else
  if x2 < (h.1 (a0 + 1) 4) then
  qX6_weave_35 a0 x1 x2 (1 : Int32) h
  else
  qX6_weave_35 a0 x1 x2 (0 : Int32) h
  else
  qX6_weave_35 a0 x1 x2 (0 : Int32) h
def qX6_winter_2  (fuel : Nat) (a0 : Nat) (x1 : Int32) (h : qm_H) : Option (qm_H) := match fuel with
  | 0 => none
  | n + 1 =>
    if x1 < (16 : Int32) then
    if x1 < 0 ∨ 16 ≤ (x1).toNatClampNeg then none else
    qm_b2 (qJ9_min_7cf53 (9 : Int32) ((h.1 ((a0 + 1) + 2) (x1).toNatClampNeg) + (1 : Int32)) h) fun r2 h1 =>
    if x1 < 0 ∨ 16 ≤ (x1).toNatClampNeg then none else
    qm_let (qm_seti h1 ((a0 + 1) + 2) (x1).toNatClampNeg r2) fun h3 =>
    (qX6_winter_2 n) a0 (x1 + (1 : Int32)) h3
    else
    some h
def qX6_winter  (a0 : Nat) (h : qm_H) : Option (qm_H) :=
  qX6_winter_2 qm_N a0 (0 : Int32) h
def qX6_turn  (a0 : Nat) (x1 : Int32) (h : qm_H) : Option (Int32 × qm_H) :=
  if (h.1 (a0 + 1) 5) = x1 then
  some ((0 : Int32), h)
  else
  if x1 &&& 1 = x1 then
  qm_let (qm_seti h (a0 + 1) 5 x1) fun h1 =>
  some ((1 : Int32), h1)
  else none
def qX6_happens  (a0 : Nat) (a1 : Nat) (x2 : Int32) (h : qm_H) : Option (Int32 × qm_H) :=
  qm_b2 (qX10_has a1 x2 h) fun r2 h1 =>
  if r2 = (0 : Int32) then
  some ((0 : Int32), h1)
  else
  qm_b2 (qX10_part a1 x2 (1 : Int32) h1) fun r4 h3 =>
  qm_b2 (qX10_part a1 x2 (2 : Int32) h3) fun r6 h5 =>
  qm_b2 (qX10_part a1 x2 (0 : Int32) h5) fun r8 h7 =>
  if r8 = (0 : Int32) then
  qm_b2 (qX10_part a1 x2 (3 : Int32) h7) fun r10 h9 =>
  (qX6_strike a0 r4 r6 r10 h9).bind fun h11 =>
  some ((1 : Int32), h11)
  else if r8 = (1 : Int32) then
  qm_b2 (qX6_mend a0 r4 r6 h7) fun r13 h12 =>
  if r13 &&& 1 = r13 then some (r13, h12) else none
  else if r8 = (2 : Int32) then
  qm_b2 (qX6_grow a0 r4 r6 h7) fun r15 h14 =>
  if r15 &&& 1 = r15 then some (r15, h14) else none
  else if r8 = (3 : Int32) then
  qm_b2 (qX6_weave a0 r4 r6 h7) fun r17 h16 =>
  if r17 &&& 1 = r17 then some (r17, h16) else none
  else if r8 = (4 : Int32) then
  (qX6_winter a0 h7).bind fun h18 =>
  some ((1 : Int32), h18)
  else if r8 = (5 : Int32) then
  qm_b2 (qX6_turn a0 (1 : Int32) h7) fun r20 h19 =>
  if r20 &&& 1 = r20 then some (r20, h19) else none
  else 
  qm_b2 (qX6_turn a0 (0 : Int32) h7) fun r22 h21 =>
  if r22 &&& 1 = r22 then some (r22, h21) else none
def qX6_pass_8  (fuel : Nat) (a0 : Nat) (a2 : Nat) (x3 : Int32) (x4 : Int32) (h : qm_H) : Option (Int32 × qm_H) := match fuel with
  | 0 => none
  | n + 1 =>
    if x4 < x3 then
    qm_b2 (qX6_happens a0 a2 x4 h) fun r2 h1 =>
    if r2 = (0 : Int32) then
    some (x4, h1)
    else
    (qX6_pass_8 n) a0 a2 x3 (x4 + (1 : Int32)) h1
    else
    some (x4, h)
def qX6_pass  (a0 : Nat) (a1 : Nat) (a2 : Nat) (x3 : Int32) (h : qm_H) : Option (Int32 × qm_H) :=
  (qX6_begin a0 a1 h).bind fun h1 =>
  qX6_pass_8 qm_N a0 a2 x3 (0 : Int32) h1
def qX6_drawBelow  (a0 : Nat) (x1 : Int32) (h : qm_H) : Option (Int32 × qm_H) :=
  qm_let (qm_seti h a0 4 (((h.1 a0 4) * (1103515245 : Int32)) + (12345 : Int32))) fun h1 =>
  if (0 : Int32) < x1 then
  if x1 = 0 then none else
  some ((qm_irem (qm_iushr (h1.1 a0 4) (16 : Int32)) x1), h1)
  else
  some ((0 : Int32), h1)
def qX6_drawWeave  (a0 : Nat) (h : qm_H) : Option (qm_H) :=
  qm_b2 (qX6_drawBelow a0 ((h.1 (a0 + 1) 3) * (h.1 (a0 + 1) 4)) h) fun r2 h1 =>
  qm_b2 (qX0_columnOf (a0 + 1) r2 h1) fun r4 h3 =>
  qm_b2 (qX0_rowOf (a0 + 1) r2 h3) fun r6 h5 =>
  qm_b2 (qX6_weave a0 r4 r6 h5) fun r8 h7 =>
  some h7
def qX6_drawDeed_106  (xs0 : Int32) (as1 : Nat) (h : qm_H) : Option (qm_H) :=
  qm_b2 (qX6_turn as1 xs0 h) fun r2 h1 =>
  some h1
def qX6_drawDeed  (a0 : Nat) (x1 : Int32) (h : qm_H) : Option (qm_H) :=
  if x1 = (3 : Int32) then
  qm_b2 (qX6_drawBelow a0 (h.1 (a0 + 1) 4) h) fun r2 h1 =>
  qm_b2 (qX6_mend a0 (0 : Int32) r2 h1) fun r4 h3 =>
  some h3
  else if x1 = (4 : Int32) then
  qm_b2 (qX6_drawBelow a0 (h.1 (a0 + 1) 3) h) fun r6 h5 =>
  qm_b2 (qX6_grow a0 (1 : Int32) r6 h5) fun r8 h7 =>
  some h7
  else if x1 = (5 : Int32) then
  (qX6_drawWeave a0 h).bind fun h9 =>
  some h9
  else if x1 = (6 : Int32) then
  (qX6_winter a0 h).bind fun h10 =>
  some h10
  else if x1 = (7 : Int32) then
  if (h.1 (a0 + 1) 5) = (0 : Int32) then
  qX6_drawDeed_106 (1 : Int32) a0 h
  else
  qX6_drawDeed_106 (0 : Int32) a0 h
  else 
  qm_b2 (qX6_drawBelow a0 (4 : Int32) h) fun r12 h11 =>
  qm_let (r12 + (1 : Int32)) fun v13 =>
  qm_b2 (qX6_drawBelow a0 (4 : Int32) h11) fun r15 h14 =>
  qm_let (r15 + (1 : Int32)) fun v16 =>
  qm_b2 (qX6_drawBelow a0 (40 : Int32) h14) fun r18 h17 =>
  (qX6_strike a0 v13 v16 r18 h17).bind fun h19 =>
  some h19
def qX6_draw_13  (fuel : Nat) (a0 : Nat) (x3 : Int32) (x4 : Int32) (h : qm_H) : Option (qm_H) := match fuel with
  | 0 => none
  | n + 1 =>
    if x4 < x3 then
    qm_b2 (qX6_drawBelow a0 (8 : Int32) h) fun r2 h1 =>
    (qX6_drawDeed a0 r2 h1).bind fun h3 =>
    (qX6_draw_13 n) a0 x3 (x4 + (1 : Int32)) h3
    else
    some h
def qX6_draw  (a0 : Nat) (a1 : Nat) (x2 : Int32) (x3 : Int32) (h : qm_H) : Option (qm_H) :=
  (qX6_begin a0 a1 h).bind fun h1 =>
  qX6_draw_13 qm_N a0 x3 (0 : Int32) (qm_seti h1 a0 4 x2)
def qX6_part  (a0 : Nat) (x1 : Int32) (h : qm_H) : Option (Int32 × qm_H) :=
  if x1 = (0 : Int32) then
  some ((h.1 a0 1), h)
  else if x1 = (1 : Int32) then
  some ((h.1 a0 2), h)
  else if x1 = (2 : Int32) then
  some ((h.1 a0 3), h)
  else if x1 = (3 : Int32) then
  qm_b2 (qJ13_bitCount_95d88 (h.2 (a0 + 1) 6) h) fun r2 h1 =>
  some (r2, h1)
  else if x1 = (4 : Int32) then
  if (h.1 (a0 + 1) 5) = (0 : Int32) then
  some ((0 : Int32), h)
  else
  some ((1 : Int32), h)
  else if x1 = (5 : Int32) then
  qm_b2 (qX0_strengthOfAll (a0 + 1) h) fun r4 h3 =>
  some (r4, h3)
  else 
  qm_b2 (qX0_part (a0 + 1) x1 h) fun r6 h5 =>
  some (r6, h5)
def qX7_findGaps_22 (K8 : Nat → Nat → Int32 → Int32 → Int32 → qm_H → Option (qm_H)) (fuel : Nat) (a0 : Nat) (a1 : Nat) (x2 : Int32) (x3 : Int32) (x4 : Int32) (x5 : Int32) (h : qm_H) : Option (qm_H) := match fuel with
  | 0 => none
  | n + 1 =>
    if (h.1 a1 3) < (x5 + x2) then
    K8 a0 a1 x2 x3 (x4 + (1 : Int32)) h
    else
    qm_b2 (qX0_block x4 x5 x2 x3 h) fun r2 h1 =>
    if (lg_cmp ((h1.2 a1 6) &&& r2) r2) = (0 : Int32) then
    if (h1.1 a0 3) < (64 : Int32) then
    if (h1.1 a0 3) < 0 ∨ 64 ≤ (h1.1 a0 3).toNatClampNeg then none else
    qm_let (qm_setl h1 (a0 + 1) (h1.1 a0 3).toNatClampNeg r2) fun h3 =>
    qm_let (qm_seti h3 a0 3 ((h3.1 a0 3) + (1 : Int32))) fun h4 =>
    (qX7_findGaps_22 K8 n) a0 a1 x2 x3 x4 (x5 + (1 : Int32)) h4
    else
    (qX7_findGaps_22 K8 n) a0 a1 x2 x3 x4 (x5 + (1 : Int32)) h1
    else
    (qX7_findGaps_22 K8 n) a0 a1 x2 x3 x4 (x5 + (1 : Int32)) h1
def qX7_findGaps_8  (fuel : Nat) (a0 : Nat) (a1 : Nat) (x2 : Int32) (x3 : Int32) (x4 : Int32) (h : qm_H) : Option (qm_H) := match fuel with
  | 0 => none
  | n + 1 =>
    if (h.1 a1 4) < (x4 + x3) then
    some h
    else
    qX7_findGaps_22 (qX7_findGaps_8 n) qm_N a0 a1 x2 x3 x4 (0 : Int32) h
def qX7_findGaps  (a0 : Nat) (a1 : Nat) (x2 : Int32) (x3 : Int32) (h : qm_H) : Option (qm_H) :=
  qm_let (qm_seti h a0 3 (0 : Int32)) fun h1 =>
  qX7_findGaps_8 qm_N a0 a1 x2 x3 (0 : Int32) h1
def qJ13_numberOfTrailingZeros_95d88  (l0 : Int64) (h : qm_H) : Option (Int32 × qm_H) :=
  if (l0).toInt32 = (0 : Int32) then
  qm_b2 (qJ6_numberOfTrailingZeros_0f7a4 ((qm_lushr l0 (32 : Int32))).toInt32 h) fun r4 h3 =>
  some (((32 : Int32) + r4), h3)
  else
  qm_b2 (qJ6_numberOfTrailingZeros_0f7a4 (l0).toInt32 h) fun r2 h1 =>
  some (r2, h1)
def qX7_leastInAll_59  (l3 : Int64) (h : qm_H) : Option (Int32 × qm_H) :=
  if (lg_cmp l3 (0 : Int64)) = (0 : Int32) then
  some ((-1 : Int32), h)
  else
  qm_b2 (qJ13_numberOfTrailingZeros_95d88 l3 h) fun r2 h1 =>
  some (r2, h1)
def qX7_leastInAll_7  (fuel : Nat) (a0 : Nat) (l1 : Int64) (l3 : Int64) (x5 : Int32) (h : qm_H) : Option (Int32 × qm_H) := match fuel with
  | 0 => none
  | n + 1 =>
    if x5 < (h.1 a0 3) then
    if x5 < (64 : Int32) then
    if (lg_cmp l3 (0 : Int64)) = (0 : Int32) then
    qX7_leastInAll_59 l3 h
    else
    if x5 < 0 ∨ 64 ≤ (x5).toNatClampNeg then none else
    if (lg_cmp ((h.2 (a0 + 1) (x5).toNatClampNeg) &&& l1) (0 : Int64)) = (0 : Int32) then
    if x5 < 0 ∨ 64 ≤ (x5).toNatClampNeg then none else
    qm_let (l3 &&& (h.2 (a0 + 1) (x5).toNatClampNeg)) fun v1 =>
    (qX7_leastInAll_7 n) a0 l1 v1 (x5 + (1 : Int32)) h
    else
    (qX7_leastInAll_7 n) a0 l1 l3 (x5 + (1 : Int32)) h
    else
    qX7_leastInAll_59 l3 h
    else
    qX7_leastInAll_59 l3 h
def qX7_leastInAll  (a0 : Nat) (l1 : Int64) (h : qm_H) : Option (Int32 × qm_H) :=
  qX7_leastInAll_7 qm_N a0 l1 (-1 : Int64) (0 : Int32) h
def qX7_closeTwo_2  (fuel : Nat) (a0 : Nat) (x1 : Int32) (h : qm_H) : Option (Int32 × qm_H) := match fuel with
  | 0 => none
  | n + 1 =>
    if x1 < (64 : Int32) then
    qm_b2 (qX7_leastInAll a0 (qm_lshl (1 : Int64) x1) h) fun r2 h1 =>
    if r2 = (-1 : Int32) then
    (qX7_closeTwo_2 n) a0 (x1 + (1 : Int32)) h1
    else
    qm_let (qm_seti h1 (a0 + 2) (0 : Int32).toNatClampNeg x1) fun h3 =>
    qm_let (qm_seti h3 (a0 + 2) (1 : Int32).toNatClampNeg r2) fun h4 =>
    some ((1 : Int32), h4)
    else
    some ((0 : Int32), h)
def qX7_closeTwo  (a0 : Nat) (h : qm_H) : Option (Int32 × qm_H) :=
  qX7_closeTwo_2 qm_N a0 (0 : Int32) h
def qX7_closeThree_12 (K2 : Nat → Int32 → qm_H → Option (Int32 × qm_H)) (fuel : Nat) (a0 : Nat) (x1 : Int32) (x2 : Int32) (h : qm_H) : Option (Int32 × qm_H) := match fuel with
  | 0 => none
  | n + 1 =>
    if x2 < (64 : Int32) then
    qm_b2 (qX7_leastInAll a0 ((qm_lshl (1 : Int64) x1) ||| (qm_lshl (1 : Int64) x2)) h) fun r2 h1 =>
    if r2 = (-1 : Int32) then
    (qX7_closeThree_12 K2 n) a0 x1 (x2 + (1 : Int32)) h1
    else
    qm_let (qm_seti h1 (a0 + 2) (0 : Int32).toNatClampNeg x1) fun h3 =>
    qm_let (qm_seti h3 (a0 + 2) (1 : Int32).toNatClampNeg x2) fun h4 =>
    qm_let (qm_seti h4 (a0 + 2) (2 : Int32).toNatClampNeg r2) fun h5 =>
    some ((1 : Int32), h5)
    else
    K2 a0 (x1 + (1 : Int32)) h
def qX7_closeThree_2  (fuel : Nat) (a0 : Nat) (x1 : Int32) (h : qm_H) : Option (Int32 × qm_H) := match fuel with
  | 0 => none
  | n + 1 =>
    if x1 < (64 : Int32) then
    qm_let (x1 + (1 : Int32)) fun v1 =>
    qX7_closeThree_12 (qX7_closeThree_2 n) qm_N a0 x1 v1 h
    else
    some ((0 : Int32), h)
def qX7_closeThree  (a0 : Nat) (h : qm_H) : Option (Int32 × qm_H) :=
  qX7_closeThree_2 qm_N a0 (0 : Int32) h
def qX7_fewestClosed  (a0 : Nat) (a1 : Nat) (x2 : Int32) (x3 : Int32) (h : qm_H) : Option (Int32 × qm_H) :=
  (qX7_findGaps a0 a1 x2 x3 h).bind fun h1 =>
  if (h1.1 a0 3) = (0 : Int32) then
  some ((0 : Int32), h1)
  else
  qm_b2 (qX7_leastInAll a0 (0 : Int64) h1) fun r3 h2 =>
  if r3 = (-1 : Int32) then
  qm_b2 (qX7_closeTwo a0 h2) fun r5 h4 =>
  if r5 = (0 : Int32) then
  qm_b2 (qX7_closeThree a0 h4) fun r7 h6 =>
  if r7 = (0 : Int32) then
  some ((-1 : Int32), h6)
  else
  some ((3 : Int32), h6)
  else
  some ((2 : Int32), h4)
  else
  qm_let (qm_seti h2 (a0 + 2) (0 : Int32).toNatClampNeg r3) fun h8 =>
  some ((1 : Int32), h8)
def qX7_forceOf  (x0 : Int32) (h : qm_H) : Option (Int32 × qm_H) :=
  some ((x0 / (128 : Int32)), h)
def qX7_stepsOf  (x0 : Int32) (h : qm_H) : Option (Int32 × qm_H) :=
  some ((qm_irem x0 (128 : Int32)), h)
def qX7_costOf  (a0 : Nat) (x1 : Int32) (h : qm_H) : Option (Int32 × qm_H) :=
  qm_b2 (qX0_strengthOf a0 x1 h) fun r2 h1 =>
  some (((r2 * (128 : Int32)) + (1 : Int32)), h1)
def qX7_keyAt  (a0 : Nat) (x1 : Int32) (h : qm_H) : Option (Int32 × qm_H) :=
  if x1 < (0 : Int32) then
  some ((0 : Int32), h)
  else
  if x1 < (64 : Int32) then
  if x1 < 0 ∨ 64 ≤ (x1).toNatClampNeg then none else
  some ((h.1 (a0 + 3) (x1).toNatClampNeg), h)
  else
  some ((0 : Int32), h)
def qX7_lower_109  (a0 : Nat) (a1 : Nat) (x2 : Int32) (x5 : Int32) (h : qm_H) : Option (Int32 × qm_H) :=
  qm_b2 (qX7_costOf a1 x2 h) fun r2 h1 =>
  qm_b2 (qX7_keyAt a0 x2 h1) fun r4 h3 =>
  if (x5 + r2) < r4 then
  if x2 < 0 ∨ 64 ≤ (x2).toNatClampNeg then none else
  qm_let (qm_seti h3 (a0 + 3) (x2).toNatClampNeg (x5 + r2)) fun h5 =>
  some ((1 : Int32), h5)
  else
  some ((0 : Int32), h3)
def qX7_lower_84  (a0 : Nat) (a1 : Nat) (x2 : Int32) (x4 : Int32) (x5 : Int32) (h : qm_H) : Option (Int32 × qm_H) :=
  if (x4 + (1 : Int32)) < (h.1 a1 3) then
  qm_b2 (qX7_keyAt a0 (x2 + (1 : Int32)) h) fun r2 h1 =>
  qm_b2 (qJ9_min_7cf53 x5 r2 h1) fun r4 h3 =>
  qX7_lower_109 a0 a1 x2 r4 h3
  else
  qX7_lower_109 a0 a1 x2 x5 h
def qX7_lower_65  (a0 : Nat) (a1 : Nat) (x2 : Int32) (x4 : Int32) (x5 : Int32) (h : qm_H) : Option (Int32 × qm_H) :=
  if (0 : Int32) < x4 then
  qm_b2 (qX7_keyAt a0 (x2 - (1 : Int32)) h) fun r2 h1 =>
  qm_b2 (qJ9_min_7cf53 x5 r2 h1) fun r4 h3 =>
  qX7_lower_84 a0 a1 x2 x4 r4 h3
  else
  qX7_lower_84 a0 a1 x2 x4 x5 h
def qX7_lower_38  (a0 : Nat) (a1 : Nat) (x2 : Int32) (x3 : Int32) (x4 : Int32) (x5 : Int32) (h : qm_H) : Option (Int32 × qm_H) :=
  if (x3 + (1 : Int32)) < (h.1 a1 4) then
  qm_b2 (qX7_keyAt a0 (x2 + (h.1 a1 3)) h) fun r2 h1 =>
  qm_b2 (qJ9_min_7cf53 x5 r2 h1) fun r4 h3 =>
  qX7_lower_65 a0 a1 x2 x4 r4 h3
  else
  qX7_lower_65 a0 a1 x2 x4 x5 h
def qX7_lower  (a0 : Nat) (a1 : Nat) (x2 : Int32) (h : qm_H) : Option (Int32 × qm_H) :=
  qm_b2 (qX0_rowOf a1 x2 h) fun r2 h1 =>
  qm_b2 (qX0_columnOf a1 x2 h1) fun r4 h3 =>
  if (0 : Int32) < r2 then
  qm_b2 (qX7_keyAt a0 (x2 - (h3.1 a1 3)) h3) fun r6 h5 =>
  qm_b2 (qJ9_min_7cf53 (1000000 : Int32) r6 h5) fun r8 h7 =>
  qX7_lower_38 a0 a1 x2 r2 r4 r8 h7
  else
  qX7_lower_38 a0 a1 x2 r2 r4 (1000000 : Int32) h3
def qX7_spread_84 (K66 : Nat → Nat → Int32 → Int32 → Int32 → qm_H → Option (qm_H)) (fuel : Nat) (a0 : Nat) (a1 : Nat) (x3 : Int32) (x4 : Int32) (x5 : Int32) (x6 : Int32) (h : qm_H) : Option (qm_H) := match fuel with
  | 0 => none
  | n + 1 =>
    if x6 < x3 then
    qm_b2 (qX7_lower a0 a1 x6 h) fun r2 h1 =>
    (qX7_spread_84 K66 n) a0 a1 x3 (x4 ||| r2) x5 (x6 + (1 : Int32)) h1
    else
    K66 a0 a1 x3 x4 (x5 + (1 : Int32)) h
def qX7_spread_66  (fuel : Nat) (a0 : Nat) (a1 : Nat) (x3 : Int32) (x4 : Int32) (x5 : Int32) (h : qm_H) : Option (qm_H) := match fuel with
  | 0 => none
  | n + 1 =>
    if x5 < (64 : Int32) then
    if x4 = (0 : Int32) then
    some h
    else
    qX7_spread_84 (qX7_spread_66 n) qm_N a0 a1 x3 (0 : Int32) x5 (0 : Int32) h
    else
    some h
def qX7_spread_18  (fuel : Nat) (a0 : Nat) (a1 : Nat) (x2 : Int32) (x3 : Int32) (x4 : Int32) (h : qm_H) : Option (qm_H) := match fuel with
  | 0 => none
  | n + 1 =>
    if x4 < x3 then
    if x4 < 0 ∨ 64 ≤ (x4).toNatClampNeg then none else
    qm_let (qm_seti h (a0 + 3) (x4).toNatClampNeg (1000000 : Int32)) fun h4 =>
    (qX7_spread_18 n) a0 a1 x2 x3 (x4 + (1 : Int32)) h4
    else
    if x2 < (0 : Int32) then
    some h
    else
    if x2 < x3 then
    qm_b2 (qX7_costOf a1 x2 h) fun r2 h1 =>
    if x2 < 0 ∨ 64 ≤ (x2).toNatClampNeg then none else
    qm_let (qm_seti h1 (a0 + 3) (x2).toNatClampNeg r2) fun h3 =>
    qX7_spread_66 qm_N a0 a1 x3 (1 : Int32) (0 : Int32) h3
    else
    some h
def qX7_spread  (a0 : Nat) (a1 : Nat) (x2 : Int32) (h : qm_H) : Option (qm_H) :=
  qm_b2 (qJ9_min_7cf53 ((h.1 a1 3) * (h.1 a1 4)) (64 : Int32) h) fun r2 h1 =>
  qX7_spread_18 qm_N a0 a1 x2 r2 (0 : Int32) h1
def qX7_toTheRim_60 (K5 : Nat → Nat → Int32 → Int32 → qm_H → Option (Int32 × qm_H)) (K16 : Nat → Nat → Int32 → Int32 → Int32 → qm_H → Option (Int32 × qm_H)) (a0 : Nat) (a1 : Nat) (x2 : Int32) (x3 : Int32) (x4 : Int32) (xs0 : Int32) (h : qm_H) : Option (Int32 × qm_H) :=
  if xs0 = (0 : Int32) then
  K16 a0 a1 x2 x3 (x4 + (1 : Int32)) h
  else
  qm_b2 (qX7_keyAt a0 (((h.1 a1 3) * x3) + x4) h) fun r2 h1 =>
  qm_b2 (qJ9_min_7cf53 x2 r2 h1) fun r4 h3 =>
  K16 a0 a1 r4 x3 (x4 + (1 : Int32)) h3
def qX7_toTheRim_16 (K5 : Nat → Nat → Int32 → Int32 → qm_H → Option (Int32 × qm_H)) (fuel : Nat) (a0 : Nat) (a1 : Nat) (x2 : Int32) (x3 : Int32) (x4 : Int32) (h : qm_H) : Option (Int32 × qm_H) := match fuel with
  | 0 => none
  | n + 1 =>
    if x4 < (h.1 a1 3) then
    if x3 = (0 : Int32) then
    qX7_toTheRim_60 K5 (qX7_toTheRim_16 K5 n) a0 a1 x2 x3 x4 (1 : Int32) h
    else
    if x4 = (0 : Int32) then
    qX7_toTheRim_60 K5 (qX7_toTheRim_16 K5 n) a0 a1 x2 x3 x4 (1 : Int32) h
    else
    if x3 = ((h.1 a1 4) - (1 : Int32)) then
    qX7_toTheRim_60 K5 (qX7_toTheRim_16 K5 n) a0 a1 x2 x3 x4 (1 : Int32) h
    else
    if x4 = ((h.1 a1 3) - (1 : Int32)) then
    qX7_toTheRim_60 K5 (qX7_toTheRim_16 K5 n) a0 a1 x2 x3 x4 (1 : Int32) h
    else
    qX7_toTheRim_60 K5 (qX7_toTheRim_16 K5 n) a0 a1 x2 x3 x4 (0 : Int32) h
    else
    K5 a0 a1 x2 (x3 + (1 : Int32)) h
def qX7_toTheRim_5  (fuel : Nat) (a0 : Nat) (a1 : Nat) (x2 : Int32) (x3 : Int32) (h : qm_H) : Option (Int32 × qm_H) := match fuel with
  | 0 => none
  | n + 1 =>
    if x3 < (h.1 a1 4) then
    qX7_toTheRim_16 (qX7_toTheRim_5 n) qm_N a0 a1 x2 x3 (0 : Int32) h
    else
    some (x2, h)
def qX7_toTheRim  (a0 : Nat) (a1 : Nat) (h : qm_H) : Option (Int32 × qm_H) :=
  qX7_toTheRim_5 qm_N a0 a1 (1000000 : Int32) (0 : Int32) h
def qX9_put_2  (fuel : Nat) (a0 : Nat) (x1 : Int32) (x2 : Int32) (h : qm_H) : Option (qm_H) := match fuel with
  | 0 => none
  | n + 1 =>
    if x2 < (4 : Int32) then
    if (h.1 a0 6) < (600 : Int32) then
    if (h.1 a0 6) < 0 ∨ 600 ≤ (h.1 a0 6).toNatClampNeg then none else
    qm_let (qm_seti h (a0 + 1) (h.1 a0 6).toNatClampNeg (vp_nar .byte ((qm_iushr x1 ((24 : Int32) - ((8 : Int32) * x2)))).toInt8.toInt32)) fun h1 =>
    qm_let (qm_seti h1 a0 6 ((h1.1 a0 6) + (1 : Int32))) fun h2 =>
    (qX9_put_2 n) a0 x1 (x2 + (1 : Int32)) h2
    else
    some h
    else
    some h
def qX9_put  (a0 : Nat) (x1 : Int32) (h : qm_H) : Option (qm_H) :=
  qX9_put_2 qm_N a0 x1 (0 : Int32) h
def qX9_basketAt  (a0 : Nat) (x1 : Int32) (h : qm_H) : Option (Option Nat × qm_H) :=
  if x1 < (0 : Int32) then
  some (none, h)
  else
  if x1 < (h.1 (a0 + 2) (0 : Int32).toNatClampNeg) then
  if x1 < (2 : Int32) then
  if x1 < 0 ∨ 2 ≤ (x1).toNatClampNeg then none else
  some ((some ((a0 + 3) + 4 + 11 * (x1).toNatClampNeg)), h)
  else
  some (none, h)
  else
  some (none, h)
