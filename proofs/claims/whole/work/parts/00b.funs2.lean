def qX9_yearAt  (a0 : Nat) (x1 : Int32) (h : qm_H) : Option (Option Nat × qm_H) :=
  if x1 < (0 : Int32) then
  some (none, h)
  else
  if x1 < (h.1 (a0 + 2) (1 : Int32).toNatClampNeg) then
  if x1 < (2 : Int32) then
  if x1 < 0 ∨ 2 ≤ (x1).toNatClampNeg then none else
  some ((some ((a0 + 4) + 7 + 11 * (x1).toNatClampNeg)), h)
  else
  some (none, h)
  else
  some (none, h)
def qX9_parishAt  (a0 : Nat) (x1 : Int32) (h : qm_H) : Option (Option Nat × qm_H) :=
  if x1 < (0 : Int32) then
  some (none, h)
  else
  if x1 < (h.1 (a0 + 2) (2 : Int32).toNatClampNeg) then
  if x1 < (2 : Int32) then
  if x1 < 0 ∨ 2 ≤ (x1).toNatClampNeg then none else
  some ((some ((a0 + 5) + 8 + 11 * (x1).toNatClampNeg)), h)
  else
  some (none, h)
  else
  some (none, h)
def qX9_cluesAt  (a0 : Nat) (x1 : Int32) (h : qm_H) : Option (Option Nat × qm_H) :=
  if x1 < (0 : Int32) then
  some (none, h)
  else
  if x1 < (h.1 (a0 + 2) (3 : Int32).toNatClampNeg) then
  if x1 < (2 : Int32) then
  if x1 < 0 ∨ 2 ≤ (x1).toNatClampNeg then none else
  some ((some ((a0 + 6) + 10 + 11 * (x1).toNatClampNeg)), h)
  else
  some (none, h)
  else
  some (none, h)
def qX10_take  (a0 : Nat) (a1 : Nat) (h : qm_H) : Option (qm_H) :=
  (qm_cp 1 160 (a1 + 1) (0 : Int32) 1 160 (a0 + 1) (0 : Int32) (160 : Int32) h).bind fun h1 =>
  qm_let (qm_seti h1 a0 1 (h1.1 a1 1)) fun h2 =>
  some h2
def qX9_keep  (a0 : Nat) (x1 : Int32) (x2 : Int32) (a3 : Nat) (h : qm_H) : Option (qm_H) :=
  if x2 < (0 : Int32) then
  some h
  else
  if x2 < (2 : Int32) then
  if x1 = (0 : Int32) then
  if x2 < 0 ∨ 2 ≤ (x2).toNatClampNeg then none else
  (qX0_take ((a0 + 3) + 4 + 11 * (x2).toNatClampNeg) (a3 + 1) h).bind fun h1 =>
  some h1
  else if x1 = (1 : Int32) then
  if x2 < 0 ∨ 2 ≤ (x2).toNatClampNeg then none else
  (qX10_take ((a0 + 4) + 7 + 11 * (x2).toNatClampNeg) (a3 + 5) h).bind fun h2 =>
  some h2
  else if x1 = (2 : Int32) then
  if x2 < 0 ∨ 2 ≤ (x2).toNatClampNeg then none else
  (qX2_take ((a0 + 5) + 8 + 11 * (x2).toNatClampNeg) (a3 + 7) h).bind fun h3 =>
  some h3
  else 
  if x2 < 0 ∨ 2 ≤ (x2).toNatClampNeg then none else
  (qX1_take ((a0 + 6) + 10 + 11 * (x2).toNatClampNeg) (a3 + 10) h).bind fun h4 =>
  some h4
  else
  some h
def qX9_take_56  (fuel : Nat) (a0 : Nat) (a1 : Nat) (x2 : Int32) (h : qm_H) : Option (qm_H) := match fuel with
  | 0 => none
  | n + 1 =>
    if x2 < (2 : Int32) then
    if x2 < 0 ∨ 2 ≤ (x2).toNatClampNeg then none else
    if x2 < 0 ∨ 2 ≤ (x2).toNatClampNeg then none else
    (qX0_take ((a0 + 3) + 4 + 11 * (x2).toNatClampNeg) ((a1 + 3) + 4 + 11 * (x2).toNatClampNeg) h).bind fun h1 =>
    if x2 < 0 ∨ 2 ≤ (x2).toNatClampNeg then none else
    if x2 < 0 ∨ 2 ≤ (x2).toNatClampNeg then none else
    (qX10_take ((a0 + 4) + 7 + 11 * (x2).toNatClampNeg) ((a1 + 4) + 7 + 11 * (x2).toNatClampNeg) h1).bind fun h2 =>
    if x2 < 0 ∨ 2 ≤ (x2).toNatClampNeg then none else
    if x2 < 0 ∨ 2 ≤ (x2).toNatClampNeg then none else
    (qX2_take ((a0 + 5) + 8 + 11 * (x2).toNatClampNeg) ((a1 + 5) + 8 + 11 * (x2).toNatClampNeg) h2).bind fun h3 =>
    if x2 < 0 ∨ 2 ≤ (x2).toNatClampNeg then none else
    if x2 < 0 ∨ 2 ≤ (x2).toNatClampNeg then none else
    (qX1_take ((a0 + 6) + 10 + 11 * (x2).toNatClampNeg) ((a1 + 6) + 10 + 11 * (x2).toNatClampNeg) h3).bind fun h4 =>
    (qX9_take_56 n) a0 a1 (x2 + (1 : Int32)) h4
    else
    some h
def qX9_take  (a0 : Nat) (a1 : Nat) (h : qm_H) : Option (qm_H) :=
  (qm_cp 2 600 (a1 + 1) (0 : Int32) 2 600 (a0 + 1) (0 : Int32) (600 : Int32) h).bind fun h1 =>
  (qm_cp 1 4 (a1 + 2) (0 : Int32) 1 4 (a0 + 2) (0 : Int32) (4 : Int32) h1).bind fun h2 =>
  qm_let (qm_seti h2 a0 6 (h2.1 a1 6)) fun h3 =>
  qm_let (qm_seti h3 a0 7 (h3.1 a1 7)) fun h4 =>
  qm_let (qm_seti h4 a0 8 (h4.1 a1 8)) fun h5 =>
  qX9_take_56 qm_N a0 a1 (0 : Int32) h5
def qX11_feed  (a0 : Nat) (x1 : Int32) (x2 : Int32) (x3 : Int32) (x4 : Int32) (x5 : Int32) (h : qm_H) : Option (Int32 × qm_H) :=
  if (580 : Int32) < (h.1 (a0 + 1) 6) then
  some ((-1 : Int32), h)
  else
  (qX9_put (a0 + 1) x1 h).bind fun h1 =>
  (qX9_put (a0 + 1) x2 h1).bind fun h2 =>
  (qX9_put (a0 + 1) x3 h2).bind fun h3 =>
  (qX9_put (a0 + 1) x4 h3).bind fun h4 =>
  (qX9_put (a0 + 1) x5 h4).bind fun h5 =>
  some ((h5.1 (a0 + 1) 6), h5)
def qX11_end  (a0 : Nat) (x1 : Int32) (h : qm_H) : Option (Int32 × qm_H) :=
  if x1 < (0 : Int32) then
  some ((-1 : Int32), h)
  else
  if (h.1 (a0 + 1) 6) < x1 then
  some ((-1 : Int32), h)
  else
  qm_let (qm_seti h (a0 + 1) 6 x1) fun h1 =>
  some (x1, h1)
def qX11_fault  (a0 : Nat) (x1 : Int32) (h : qm_H) : Option (Int32 × qm_H) :=
  if x1 = (0 : Int32) then
  some ((h.1 (a0 + 1) 7), h)
  else
  if x1 = (1 : Int32) then
  some ((h.1 (a0 + 1) 8), h)
  else
  some ((-1 : Int32), h)
def qX11_count  (a0 : Nat) (x1 : Int32) (h : qm_H) : Option (Int32 × qm_H) :=
  if x1 < (0 : Int32) then
  some ((-2 : Int32), h)
  else
  if x1 < (4 : Int32) then
  if x1 < 0 ∨ 4 ≤ (x1).toNatClampNeg then none else
  some ((h.1 ((a0 + 1) + 2) (x1).toNatClampNeg), h)
  else
  some ((-2 : Int32), h)
def qX11_again  (a0 : Nat) (x1 : Int32) (h : qm_H) : Option (Int32 × qm_H) :=
  if x1 < (0 : Int32) then
  some ((0 : Int32), h)
  else
  if x1 < (3 : Int32) then
  if x1 < 0 ∨ 3 ≤ (x1).toNatClampNeg then none else
  if h.1 (a0 + 30) (x1).toNatClampNeg = 0 then
  some ((0 : Int32), h)
  else
  (qX9_take (a0 + 1) (1000 * ((x1).toNatClampNeg + 1)) h).bind fun h1 =>
  some ((1 : Int32), h1)
  else
  some ((0 : Int32), h)
def qX11_basket  (a0 : Nat) (x1 : Int32) (x2 : Int32) (h : qm_H) : Option (Int32 × qm_H) :=
  qm_b2 (qX9_basketAt (a0 + 1) x1 h) fun r2 h1 =>
  qm_om r2 (
  some ((-2 : Int32), h1))
  (fun b3 =>
  if x2 = (0 : Int32) then
  some ((h1.1 b3 3), h1)
  else if x2 = (1 : Int32) then
  some ((h1.1 b3 4), h1)
  else if x2 = (2 : Int32) then
  if (h1.1 b3 5) = (0 : Int32) then
  some ((0 : Int32), h1)
  else
  some ((1 : Int32), h1)
  else if x2 = (3 : Int32) then
  qm_b2 (qJ13_bitCount_95d88 (h1.2 b3 6) h1) fun r5 h4 =>
  some (r5, h4)
  else 
  qm_b2 (qX0_part b3 x2 h1) fun r7 h6 =>
  some (r7, h6))
def qX11_isSize  (x0 : Int32) (x1 : Int32) (h : qm_H) : Option (Int32 × qm_H) :=
  if x0 < (1 : Int32) then
  some ((0 : Int32), h)
  else
  if (8 : Int32) < x0 then
  some ((0 : Int32), h)
  else
  if x1 < (1 : Int32) then
  some ((0 : Int32), h)
  else
  if (8 : Int32) < x1 then
  some ((0 : Int32), h)
  else
  some ((1 : Int32), h)
def qX11_slips  (a0 : Nat) (x1 : Int32) (x2 : Int32) (x3 : Int32) (x4 : Int32) (h : qm_H) : Option (Int32 × qm_H) :=
  qm_b2 (qX9_basketAt (a0 + 1) x1 h) fun r2 h1 =>
  qm_om r2 (
  some ((-2 : Int32), h1))
  (fun b3 =>
  qm_b2 (qX11_isSize x2 x3 h1) fun r5 h4 =>
  if r5 = (0 : Int32) then
  some ((-2 : Int32), h4)
  else
  if x4 = (0 : Int32) then
  qm_b2 (qX0_gapFor b3 x2 x3 h4) fun r7 h6 =>
  some (r7, h6)
  else
  qm_b2 (qX0_holdOf b3 x2 x3 h4) fun r9 h8 =>
  some (r9, h8))
def qX11_opens  (a0 : Nat) (x1 : Int32) (x2 : Int32) (x3 : Int32) (x4 : Int32) (h : qm_H) : Option (Int32 × qm_H) :=
  qm_b2 (qX9_basketAt (a0 + 1) x1 h) fun r2 h1 =>
  qm_om r2 (
  some ((-1 : Int32), h1))
  (fun b3 =>
  qm_b2 (qX11_isSize x2 x3 h1) fun r5 h4 =>
  if r5 = (0 : Int32) then
  some ((-1 : Int32), h4)
  else
  qm_b2 (qX0_likeliest b3 x2 x3 h4) fun r7 h6 =>
  if x4 = (0 : Int32) then
  if r7 = (-1 : Int32) then
  some (r7, h6)
  else
  qm_b2 (qX0_shutIn b3 r7 x2 x3 h6) fun r9 h8 =>
  some (r9, h8)
  else
  some (r7, h6))
def qX11_closes  (a0 : Nat) (x1 : Int32) (x2 : Int32) (x3 : Int32) (x4 : Int32) (h : qm_H) : Option (Int32 × qm_H) :=
  qm_b2 (qX9_basketAt (a0 + 1) x1 h) fun r2 h1 =>
  qm_om r2 (
  some ((-1 : Int32), h1))
  (fun b3 =>
  qm_b2 (qX11_isSize x2 x3 h1) fun r5 h4 =>
  if r5 = (0 : Int32) then
  some ((-1 : Int32), h4)
  else
  qm_b2 (qX7_fewestClosed (a0 + 49) b3 x2 x3 h4) fun r7 h6 =>
  if x4 = (-1 : Int32) then
  some (r7, h6)
  else
  if x4 < (0 : Int32) then
  some ((-1 : Int32), h6)
  else
  if x4 < r7 then
  if x4 < (3 : Int32) then
  if x4 < 0 ∨ 3 ≤ (x4).toNatClampNeg then none else
  qm_b2 (qX0_strokeOf b3 (h6.1 ((a0 + 49) + 2) (x4).toNatClampNeg) h6) fun r9 h8 =>
  some (r9, h8)
  else
  some ((-1 : Int32), h6)
  else
  some ((-1 : Int32), h6))
def qX11_sieve_77 (K41 : Int32 → Int32 → Int32 → Int32 → Nat → Int32 → Int32 → qm_H → Option (Int32 × qm_H)) (x2 : Int32) (x3 : Int32) (x4 : Int32) (x5 : Int32) (a6 : Nat) (x7 : Int32) (x8 : Int32) (xs0 : Int32) (h : qm_H) : Option (Int32 × qm_H) :=
  if xs0 = (0 : Int32) then
  K41 x2 x3 x4 x5 a6 x7 (x8 + (1 : Int32)) h
  else
  qm_b2 (qX0_gapWithout a6 x8 x2 x3 h) fun r2 h1 =>
  if r2 = (-1 : Int32) then
  K41 x2 x3 x4 x5 a6 x7 (x8 + (1 : Int32)) h1
  else
  qm_b2 (qX0_gapWithout a6 x8 x4 x5 h1) fun r4 h3 =>
  if r4 = (-1 : Int32) then
  K41 x2 x3 x4 x5 a6 x8 (x8 + (1 : Int32)) h3
  else
  K41 x2 x3 x4 x5 a6 x7 (x8 + (1 : Int32)) h3
def qX11_sieve_41  (fuel : Nat) (x2 : Int32) (x3 : Int32) (x4 : Int32) (x5 : Int32) (a6 : Nat) (x7 : Int32) (x8 : Int32) (h : qm_H) : Option (Int32 × qm_H) := match fuel with
  | 0 => none
  | n + 1 =>
    if x8 < (qm_ishl (1 : Int32) (h.1 a6 4)) then
    if x7 = (-1 : Int32) then
    qX11_sieve_77 (qX11_sieve_41 n) x2 x3 x4 x5 a6 x7 x8 (1 : Int32) h
    else
    qm_b2 (qJ6_bitCount_0f7a4 x8 h) fun r2 h1 =>
    qm_b2 (qJ6_bitCount_0f7a4 x7 h1) fun r4 h3 =>
    if r2 < r4 then
    qX11_sieve_77 (qX11_sieve_41 n) x2 x3 x4 x5 a6 x7 x8 (1 : Int32) h3
    else
    qX11_sieve_77 (qX11_sieve_41 n) x2 x3 x4 x5 a6 x7 x8 (0 : Int32) h3
    else
    some (x7, h)
def qX11_sieve  (a0 : Nat) (x1 : Int32) (x2 : Int32) (x3 : Int32) (x4 : Int32) (x5 : Int32) (h : qm_H) : Option (Int32 × qm_H) :=
  qm_b2 (qX9_basketAt (a0 + 1) x1 h) fun r2 h1 =>
  qm_om r2 (
  some ((-1 : Int32), h1))
  (fun b3 =>
  qm_b2 (qX11_isSize x2 x3 h1) fun r5 h4 =>
  if r5 = (0 : Int32) then
  some ((-1 : Int32), h4)
  else
  qm_b2 (qX11_isSize x4 x5 h4) fun r7 h6 =>
  if r7 = (0 : Int32) then
  some ((-1 : Int32), h6)
  else
  qX11_sieve_41 qm_N x2 x3 x4 x5 b3 (-1 : Int32) (0 : Int32) h6)
def qX11_escape  (a0 : Nat) (x1 : Int32) (x2 : Int32) (x3 : Int32) (h : qm_H) : Option (Int32 × qm_H) :=
  qm_b2 (qX9_basketAt (a0 + 1) x1 h) fun r2 h1 =>
  qm_om r2 (
  some ((-1 : Int32), h1))
  (fun b3 =>
  qm_b2 (qX0_hasStroke b3 x2 h1) fun r5 h4 =>
  if r5 = (0 : Int32) then
  some ((-1 : Int32), h4)
  else
  (qX7_spread (a0 + 49) b3 x2 h4).bind fun h6 =>
  qm_b2 (qX7_toTheRim (a0 + 49) b3 h6) fun r8 h7 =>
  if x3 = (0 : Int32) then
  qm_b2 (qX7_forceOf r8 h7) fun r10 h9 =>
  some (r10, h9)
  else
  qm_b2 (qX7_stepsOf r8 h7) fun r12 h11 =>
  some (r12, h11))
def qX11_tunnel  (a0 : Nat) (x1 : Int32) (x2 : Int32) (x3 : Int32) (h : qm_H) : Option (Int32 × qm_H) :=
  qm_b2 (qX9_basketAt (a0 + 1) x1 h) fun r2 h1 =>
  qm_om r2 (
  some ((-1 : Int32), h1))
  (fun b3 =>
  qm_b2 (qX0_hasStroke b3 x2 h1) fun r5 h4 =>
  if r5 = (0 : Int32) then
  some ((-1 : Int32), h4)
  else
  qm_b2 (qX0_hasStroke b3 x3 h4) fun r7 h6 =>
  if r7 = (0 : Int32) then
  some ((-1 : Int32), h6)
  else
  (qX7_spread (a0 + 49) b3 x2 h6).bind fun h8 =>
  if x3 < 0 ∨ 64 ≤ (x3).toNatClampNeg then none else
  qm_b2 (qX7_forceOf (h8.1 ((a0 + 49) + 3) (x3).toNatClampNeg) h8) fun r10 h9 =>
  some (r10, h9))
def qX11_holes_47  (xs0 : Int32) (as1 : Nat) (h : qm_H) : Option (Int32 × qm_H) :=
  qm_b2 (qX0_holesOrLargest as1 xs0 h) fun r2 h1 =>
  some (r2, h1)
def qX11_holes  (a0 : Nat) (x1 : Int32) (x2 : Int32) (h : qm_H) : Option (Int32 × qm_H) :=
  qm_b2 (qX9_basketAt (a0 + 1) x1 h) fun r2 h1 =>
  qm_om r2 (
  some ((-1 : Int32), h1))
  (fun b3 =>
  if x2 < (0 : Int32) then
  some ((-1 : Int32), h1)
  else
  if (2 : Int32) < x2 then
  some ((-1 : Int32), h1)
  else
  if x2 = (2 : Int32) then
  qm_b2 (qX0_largestGap b3 h1) fun r5 h4 =>
  some (r5, h4)
  else
  if x2 = (1 : Int32) then
  qX11_holes_47 (1 : Int32) b3 h1
  else
  qX11_holes_47 (0 : Int32) b3 h1)
def qX11_commonDivisor_9  (fuel : Nat) (l4 : Int64) (l6 : Int64) (x8 : Int32) (h : qm_H) : Option (Int64 × qm_H) := match fuel with
  | 0 => none
  | n + 1 =>
    if x8 < (200 : Int32) then
    if (lg_cmp l6 (0 : Int64)) = (0 : Int32) then
    some (l4, h)
    else
    if l6 = 0 then none else
    qm_let (qm_lrem l4 l6) fun v1 =>
    (qX11_commonDivisor_9 n) l6 v1 (x8 + (1 : Int32)) h
    else
    some (l4, h)
def qX11_commonDivisor  (l0 : Int64) (l2 : Int64) (h : qm_H) : Option (Int64 × qm_H) :=
  qX11_commonDivisor_9 qm_N l0 l2 (0 : Int32) h
def qX11_last  (a0 : Nat) (x1 : Int32) (x2 : Int32) (x3 : Int32) (h : qm_H) : Option (Int64 × qm_H) :=
  qm_b2 (qX9_basketAt (a0 + 1) x1 h) fun r2 h1 =>
  qm_om r2 (
  some ((-1 : Int64), h1))
  (fun b3 =>
  if x2 < (0 : Int32) then
  some ((-1 : Int64), h1)
  else
  if (8 : Int32) < x2 then
  some ((-1 : Int64), h1)
  else
  if x3 < (0 : Int32) then
  some ((-1 : Int64), h1)
  else
  if (2 : Int32) < x3 then
  some ((-1 : Int64), h1)
  else
  qm_b2 (qX0_mendedFirst b3 x2 h1) fun r5 h4 =>
  if x3 = (2 : Int32) then
  some ((r5).toInt64, h4)
  else
  qm_b2 (qX0_soundWays b3 r5 h4) fun r7 h6 =>
  qm_b2 (qX0_allWays b3 h6) fun r9 h8 =>
  qm_b2 (qX11_commonDivisor r7 r9 h8) fun r11 h10 =>
  if (0 : Int32) < (lg_cmp r11 (0 : Int64)) then
  if x3 = (0 : Int32) then
  if r11 = 0 then none else
  some ((r7 / r11), h10)
  else
  if r11 = 0 then none else
  some ((r9 / r11), h10)
  else
  some ((-1 : Int64), h10))
def qX11_strictness  (x0 : Int32) (x1 : Int32) (h : qm_H) : Option (Int32 × qm_H) :=
  if x0 = (0 : Int32) then
  if x1 = (0 : Int32) then
  some ((2 : Int32), h)
  else
  some ((0 : Int32), h)
  else
  if x1 = (0 : Int32) then
  some ((1 : Int32), h)
  else
  some ((-1 : Int32), h)
def qX11_unlike_116 (K42 : Int32 → Nat → Nat → Int32 → Int32 → Int32 → qm_H → Option (Int32 × qm_H)) (K52 : Int32 → Nat → Nat → Int32 → Int32 → Int32 → Int32 → qm_H → Option (Int32 × qm_H)) (x3 : Int32) (a4 : Nat) (a5 : Nat) (x7 : Int32) (x8 : Int32) (x9 : Int32) (x10 : Int32) (x11 : Int32) (xs0 : Int32) (xs1 : Int32) (h : qm_H) : Option (Int32 × qm_H) :=
  if x11 = (0 : Int32) then
  qm_let (x7 + (0 : Int32)) fun v1 =>
  K52 x3 a4 a5 (xs1 + xs0) v1 x8 (x9 + (1 : Int32)) h
  else
  if x10 = (0 : Int32) then
  qm_let (x7 + (1 : Int32)) fun v3 =>
  K52 x3 a4 a5 (xs1 + xs0) v3 x8 (x9 + (1 : Int32)) h
  else
  qm_let (x7 + (0 : Int32)) fun v2 =>
  K52 x3 a4 a5 (xs1 + xs0) v2 x8 (x9 + (1 : Int32)) h
def qX11_unlike_77 (K42 : Int32 → Nat → Nat → Int32 → Int32 → Int32 → qm_H → Option (Int32 × qm_H)) (K52 : Int32 → Nat → Nat → Int32 → Int32 → Int32 → Int32 → qm_H → Option (Int32 × qm_H)) (x3 : Int32) (a4 : Nat) (a5 : Nat) (x6 : Int32) (x7 : Int32) (x8 : Int32) (x9 : Int32) (xs0 : Int32) (h : qm_H) : Option (Int32 × qm_H) :=
  qm_b2 (qX0_gapFor a5 x8 x9 h) fun r2 h1 =>
  if r2 = (-1 : Int32) then
  if xs0 = (0 : Int32) then
  qX11_unlike_116 K42 K52 x3 a4 a5 x7 x8 x9 xs0 (0 : Int32) (0 : Int32) x6 h1
  else
  if (0 : Int32) = (0 : Int32) then
  qX11_unlike_116 K42 K52 x3 a4 a5 x7 x8 x9 xs0 (0 : Int32) (1 : Int32) x6 h1
  else
  qX11_unlike_116 K42 K52 x3 a4 a5 x7 x8 x9 xs0 (0 : Int32) (0 : Int32) x6 h1
  else
  if xs0 = (0 : Int32) then
  qX11_unlike_116 K42 K52 x3 a4 a5 x7 x8 x9 xs0 (1 : Int32) (0 : Int32) x6 h1
  else
  if (1 : Int32) = (0 : Int32) then
  qX11_unlike_116 K42 K52 x3 a4 a5 x7 x8 x9 xs0 (1 : Int32) (1 : Int32) x6 h1
  else
  qX11_unlike_116 K42 K52 x3 a4 a5 x7 x8 x9 xs0 (1 : Int32) (0 : Int32) x6 h1
def qX11_unlike_52 (K42 : Int32 → Nat → Nat → Int32 → Int32 → Int32 → qm_H → Option (Int32 × qm_H)) (fuel : Nat) (x3 : Int32) (a4 : Nat) (a5 : Nat) (x6 : Int32) (x7 : Int32) (x8 : Int32) (x9 : Int32) (h : qm_H) : Option (Int32 × qm_H) := match fuel with
  | 0 => none
  | n + 1 =>
    if (8 : Int32) < x9 then
    K42 x3 a4 a5 x6 x7 (x8 + (1 : Int32)) h
    else
    qm_b2 (qX0_gapFor a4 x8 x9 h) fun r2 h1 =>
    if r2 = (-1 : Int32) then
    qX11_unlike_77 K42 (qX11_unlike_52 K42 n) x3 a4 a5 x6 x7 x8 x9 (0 : Int32) h1
    else
    qX11_unlike_77 K42 (qX11_unlike_52 K42 n) x3 a4 a5 x6 x7 x8 x9 (1 : Int32) h1
def qX11_unlike_42  (fuel : Nat) (x3 : Int32) (a4 : Nat) (a5 : Nat) (x6 : Int32) (x7 : Int32) (x8 : Int32) (h : qm_H) : Option (Int32 × qm_H) := match fuel with
  | 0 => none
  | n + 1 =>
    if (8 : Int32) < x8 then
    if x3 = (0 : Int32) then
    some ((x6 + x7), h)
    else
    qm_b2 (qX11_strictness x6 x7 h) fun r2 h1 =>
    some (r2, h1)
    else
    qX11_unlike_52 (qX11_unlike_42 n) qm_N x3 a4 a5 x6 x7 x8 (1 : Int32) h
def qX11_unlike  (a0 : Nat) (x1 : Int32) (x2 : Int32) (x3 : Int32) (h : qm_H) : Option (Int32 × qm_H) :=
  qm_b2 (qX9_basketAt (a0 + 1) x1 h) fun r2 h1 =>
  qm_b2 (qX9_basketAt (a0 + 1) x2 h1) fun r4 h3 =>
  qm_om r2 (
  some ((-2 : Int32), h3))
  (fun b5 =>
  qm_om r4 (
  some ((-2 : Int32), h3))
  (fun b6 =>
  qX11_unlike_42 qm_N x3 b5 b6 (0 : Int32) (0 : Int32) (1 : Int32) h3))
def qX11_stout_34  (fuel : Nat) (x2 : Int32) (x3 : Int32) (x4 : Int32) (a5 : Nat) (x6 : Int32) (x7 : Int32) (x8 : Int32) (h : qm_H) : Option (Int32 × qm_H) := match fuel with
  | 0 => none
  | n + 1 =>
    if x8 < (16 : Int32) then
    qm_b2 (qX0_holdIfThicker a5 x8 x2 x3 h) fun r2 h1 =>
    if x7 < r2 then
    (qX11_stout_34 n) x2 x3 x4 a5 x8 r2 (x8 + (1 : Int32)) h1
    else
    (qX11_stout_34 n) x2 x3 x4 a5 x6 x7 (x8 + (1 : Int32)) h1
    else
    if x4 = (0 : Int32) then
    some (x6, h)
    else
    some (x7, h)
def qX11_stout  (a0 : Nat) (x1 : Int32) (x2 : Int32) (x3 : Int32) (x4 : Int32) (h : qm_H) : Option (Int32 × qm_H) :=
  qm_b2 (qX9_basketAt (a0 + 1) x1 h) fun r2 h1 =>
  qm_om r2 (
  some ((-1 : Int32), h1))
  (fun b3 =>
  qm_b2 (qX11_isSize x2 x3 h1) fun r5 h4 =>
  if r5 = (0 : Int32) then
  some ((-1 : Int32), h4)
  else
  qX11_stout_34 qm_N x2 x3 x4 b3 (-1 : Int32) (-1 : Int32) (0 : Int32) h4)
def qX11_soft_85 (K37 : Int32 → Int32 → Nat → Int32 → Int32 → Int32 → qm_H → Option (Int32 × qm_H)) (x2 : Int32) (x3 : Int32) (a4 : Nat) (x5 : Int32) (x6 : Int32) (x7 : Int32) (x8 : Int32) (xs0 : Int32) (h : qm_H) : Option (Int32 × qm_H) :=
  if xs0 = (-1 : Int32) then
  K37 x2 x3 a4 x5 x6 (x7 + (1 : Int32)) h
  else
  if x5 = (-1 : Int32) then
  qm_let (((10 : Int32) * x7) + x8) fun v1 =>
  K37 x2 x3 a4 v1 xs0 (x7 + (1 : Int32)) h
  else
  if xs0 < x6 then
  qm_let (((10 : Int32) * x7) + x8) fun v2 =>
  K37 x2 x3 a4 v2 xs0 (x7 + (1 : Int32)) h
  else
  K37 x2 x3 a4 x5 x6 (x7 + (1 : Int32)) h
def qX11_soft_37  (fuel : Nat) (x2 : Int32) (x3 : Int32) (a4 : Nat) (x5 : Int32) (x6 : Int32) (x7 : Int32) (h : qm_H) : Option (Int32 × qm_H) := match fuel with
  | 0 => none
  | n + 1 =>
    if (8 : Int32) < x7 then
    if x3 = (0 : Int32) then
    some (x5, h)
    else
    some (x6, h)
    else
    if x7 = 0 then none else
    if (x2 / x7) < (1 : Int32) then
    qX11_soft_85 (qX11_soft_37 n) x2 x3 a4 x5 x6 x7 (x2 / x7) (-1 : Int32) h
    else
    if (8 : Int32) < (x2 / x7) then
    qX11_soft_85 (qX11_soft_37 n) x2 x3 a4 x5 x6 x7 (x2 / x7) (-1 : Int32) h
    else
    if (x7 * (x2 / x7)) = x2 then
    qm_b2 (qX0_holdOf a4 x7 (x2 / x7) h) fun r2 h1 =>
    qX11_soft_85 (qX11_soft_37 n) x2 x3 a4 x5 x6 x7 (x2 / x7) r2 h1
    else
    qX11_soft_85 (qX11_soft_37 n) x2 x3 a4 x5 x6 x7 (x2 / x7) (-1 : Int32) h
def qX11_soft  (a0 : Nat) (x1 : Int32) (x2 : Int32) (x3 : Int32) (h : qm_H) : Option (Int32 × qm_H) :=
  qm_b2 (qX9_basketAt (a0 + 1) x1 h) fun r2 h1 =>
  qm_om r2 (
  some ((-1 : Int32), h1))
  (fun b3 =>
  if x2 < (1 : Int32) then
  some ((-1 : Int32), h1)
  else
  if (64 : Int32) < x2 then
  some ((-1 : Int32), h1)
  else
  qX11_soft_37 qm_N x2 x3 b3 (-1 : Int32) (-1 : Int32) (1 : Int32) h1)
def qX11_mirrored  (a0 : Nat) (x1 : Int32) (x2 : Int32) (h : qm_H) : Option (Int32 × qm_H) :=
  qm_b2 (qX9_basketAt (a0 + 1) x1 h) fun r2 h1 =>
  qm_om r2 (
  some ((-1 : Int32), h1))
  (fun b3 =>
  if x2 = (0 : Int32) then
  qm_b2 (qX0_mirrors b3 h1) fun r5 h4 =>
  some (r5, h4)
  else if x2 = (1 : Int32) then
  qm_b2 (qX0_crowdedRow b3 h1) fun r7 h6 =>
  some (r7, h6)
  else if x2 = (2 : Int32) then
  qm_b2 (qX0_crowdedColumn b3 h1) fun r9 h8 =>
  some (r9, h8)
  else 
  some ((-1 : Int32), h1))
def qX11_deed_33  (x2 : Int32) (x3 : Int32) (a4 : Nat) (h : qm_H) : Option (Int32 × qm_H) :=
  qm_b2 (qX10_has a4 x2 h) fun r2 h1 =>
  if r2 = (0 : Int32) then
  some ((-2 : Int32), h1)
  else
  if x3 < (0 : Int32) then
  some ((-2 : Int32), h1)
  else
  if x3 < (4 : Int32) then
  qm_b2 (qX10_part a4 x2 x3 h1) fun r4 h3 =>
  some (r4, h3)
  else
  some ((-2 : Int32), h1)
def qX11_deed  (a0 : Nat) (x1 : Int32) (x2 : Int32) (x3 : Int32) (h : qm_H) : Option (Int32 × qm_H) :=
  qm_b2 (qX9_yearAt (a0 + 1) x1 h) fun r2 h1 =>
  qm_om r2 (
  some ((-2 : Int32), h1))
  (fun b3 =>
  if x2 = (-1 : Int32) then
  if x3 = (0 : Int32) then
  some ((h1.1 b3 1), h1)
  else
  qX11_deed_33 x2 x3 b3 h1
  else
  qX11_deed_33 x2 x3 b3 h1)
def qX11_till  (a0 : Nat) (x1 : Int32) (x2 : Int32) (h : qm_H) : Option (Int32 × qm_H) :=
  qm_b2 (qX9_basketAt (a0 + 1) x1 h) fun r2 h1 =>
  qm_b2 (qX9_yearAt (a0 + 1) x2 h1) fun r4 h3 =>
  qm_om r2 (
  some ((-1 : Int32), h3))
  (fun b5 =>
  qm_om r4 (
  some ((-1 : Int32), h3))
  (fun b6 =>
  qm_b2 (qX6_pass (a0 + 44) b5 b6 (h3.1 b6 1) h3) fun r8 h7 =>
  some (r8, h7)))
def qX11_state  (a0 : Nat) (x1 : Int32) (x2 : Int32) (x3 : Int32) (x4 : Int32) (h : qm_H) : Option (Int32 × qm_H) :=
  qm_b2 (qX9_basketAt (a0 + 1) x1 h) fun r2 h1 =>
  qm_b2 (qX9_yearAt (a0 + 1) x2 h1) fun r4 h3 =>
  qm_om r2 (
  some ((-2 : Int32), h3))
  (fun b5 =>
  qm_om r4 (
  some ((-2 : Int32), h3))
  (fun b6 =>
  if x3 < (0 : Int32) then
  some ((-2 : Int32), h3)
  else
  if (h3.1 b6 1) < x3 then
  some ((-2 : Int32), h3)
  else
  qm_b2 (qX6_pass (a0 + 44) b5 b6 x3 h3) fun r8 h7 =>
  if r8 = x3 then
  qm_b2 (qX6_part (a0 + 44) x4 h7) fun r10 h9 =>
  some (r10, h9)
  else
  some ((-2 : Int32), h7)))
def qX11_drawn  (a0 : Nat) (x1 : Int32) (x2 : Int32) (x3 : Int32) (x4 : Int32) (h : qm_H) : Option (Int32 × qm_H) :=
  qm_b2 (qX9_basketAt (a0 + 1) x1 h) fun r2 h1 =>
  qm_om r2 (
  some ((-2 : Int32), h1))
  (fun b3 =>
  if x3 < (0 : Int32) then
  some ((-2 : Int32), h1)
  else
  if (60 : Int32) < x3 then
  some ((-2 : Int32), h1)
  else
  (qX6_draw (a0 + 44) b3 x2 x3 h1).bind fun h4 =>
  qm_b2 (qX6_part (a0 + 44) x4 h4) fun r6 h5 =>
  some (r6, h5))
def qX11_precedent_54  (fuel : Nat) (a0 : Nat) (x3 : Int32) (x4 : Int32) (a6 : Nat) (x7 : Int32) (h : qm_H) : Option (Int32 × qm_H) := match fuel with
  | 0 => none
  | n + 1 =>
    if (h.1 a6 1) < x7 then
    some ((-1 : Int32), h)
    else
    qm_b2 (qX0_gapFor ((a0 + 44) + 1) x3 x4 h) fun r2 h1 =>
    if r2 = (-1 : Int32) then
    qm_b2 (qX6_happens (a0 + 44) a6 x7 h1) fun r4 h3 =>
    if r4 = (0 : Int32) then
    some ((-1 : Int32), h3)
    else
    (qX11_precedent_54 n) a0 x3 x4 a6 (x7 + (1 : Int32)) h3
    else
    some (x7, h1)
def qX11_precedent  (a0 : Nat) (x1 : Int32) (x2 : Int32) (x3 : Int32) (x4 : Int32) (h : qm_H) : Option (Int32 × qm_H) :=
  qm_b2 (qX9_basketAt (a0 + 1) x1 h) fun r2 h1 =>
  qm_b2 (qX9_yearAt (a0 + 1) x2 h1) fun r4 h3 =>
  qm_om r2 (
  some ((-2 : Int32), h3))
  (fun b5 =>
  qm_om r4 (
  some ((-2 : Int32), h3))
  (fun b6 =>
  qm_b2 (qX11_isSize x3 x4 h3) fun r8 h7 =>
  if r8 = (0 : Int32) then
  some ((-2 : Int32), h7)
  else
  (qX6_begin (a0 + 44) b5 h7).bind fun h9 =>
  qX11_precedent_54 qm_N a0 x3 x4 b6 (0 : Int32) h9))
def qX11_parish  (a0 : Nat) (x1 : Int32) (x2 : Int32) (h : qm_H) : Option (Int32 × qm_H) :=
  qm_b2 (qX9_parishAt (a0 + 1) x1 h) fun r2 h1 =>
  qm_om r2 (
  some ((-1 : Int32), h1))
  (fun b3 =>
  qm_b2 (qX2_part b3 x2 h1) fun r5 h4 =>
  some (r5, h4))
def qX11_cutting  (a0 : Nat) (x1 : Int32) (x2 : Int32) (h : qm_H) : Option (Int32 × qm_H) :=
  qm_b2 (qX9_parishAt (a0 + 1) x1 h) fun r2 h1 =>
  qm_om r2 (
  some ((-1 : Int32), h1))
  (fun b3 =>
  if x2 = (-3 : Int32) then
  qm_b2 (qX4_longest (a0 + 53) b3 h1) fun r5 h4 =>
  some (r5, h4)
  else if x2 = (-2 : Int32) then
  qm_b2 (qX4_spare (a0 + 53) b3 h1) fun r7 h6 =>
  some (r7, h6)
  else if x2 = (-1 : Int32) then
  qm_b2 (qX4_fewest (a0 + 53) b3 h1) fun r9 h8 =>
  some (r9, h8)
  else 
  if x2 < (0 : Int32) then
  some ((-1 : Int32), h1)
  else
  if x2 < (h1.1 b3 3) then
  qm_b2 (qX4_rodOf (a0 + 53) b3 x2 h1) fun r11 h10 =>
  some (r11, h10)
  else
  some ((-1 : Int32), h1))
def qX11_kept  (a0 : Nat) (x1 : Int32) (h : qm_H) : Option (Int32 × qm_H) :=
  qm_b2 (qX9_parishAt (a0 + 1) x1 h) fun r2 h1 =>
  qm_om r2 (
  some ((-1 : Int32), h1))
  (fun b3 =>
  qm_b2 (qX4_fewest (a0 + 53) b3 h1) fun r5 h4 =>
  if r5 = (-1 : Int32) then
  some ((-1 : Int32), h4)
  else
  some (((h4.1 b3 2) - r5), h4))
def qX11_game  (a0 : Nat) (x1 : Int32) (x2 : Int32) (x3 : Int32) (h : qm_H) : Option (Int32 × qm_H) :=
  qm_b2 (qX9_parishAt (a0 + 1) x1 h) fun r2 h1 =>
  qm_om r2 (
  some ((-2 : Int32), h1))
  (fun b3 =>
  if x3 = (0 : Int32) then
  qm_b2 (qX2_wins b3 (-1 : Int32) (0 : Int32) x2 h1) fun r5 h4 =>
  if r5 = (0 : Int32) then
  some ((0 : Int32), h4)
  else
  some ((1 : Int32), h4)
  else
  qm_b2 (qX2_winningCut b3 x2 h1) fun r7 h6 =>
  some (r7, h6))
def qX11_divided  (a0 : Nat) (x1 : Int32) (x2 : Int32) (x3 : Int32) (h : qm_H) : Option (Int32 × qm_H) :=
  qm_b2 (qX9_parishAt (a0 + 1) x1 h) fun r2 h1 =>
  qm_om r2 (
  some ((-1 : Int32), h1))
  (fun b3 =>
  if x2 < (1 : Int32) then
  some ((-1 : Int32), h1)
  else
  if (4 : Int32) < x2 then
  some ((-1 : Int32), h1)
  else
  if x3 < (-1 : Int32) then
  some ((-1 : Int32), h1)
  else
  if x3 < (h1.1 b3 2) then
  (qX4_divide (a0 + 53) b3 x2 h1).bind fun h4 =>
  if x3 = (-1 : Int32) then
  some ((h4.1 (a0 + 53) 6), h4)
  else
  if x3 < 0 ∨ 6 ≤ (x3).toNatClampNeg then none else
  some ((h4.1 ((a0 + 53) + 5) (x3).toNatClampNeg), h4)
  else
  some ((-1 : Int32), h1))
def qX11_clues  (a0 : Nat) (x1 : Int32) (x2 : Int32) (h : qm_H) : Option (Int32 × qm_H) :=
  qm_b2 (qX9_cluesAt (a0 + 1) x1 h) fun r2 h1 =>
  qm_om r2 (
  some ((-1 : Int32), h1))
  (fun b3 =>
  qm_b2 (qX1_part b3 x2 h1) fun r5 h4 =>
  some (r5, h4))
def qX11_gaps_82  (a0 : Nat) (x2 : Int32) (a3 : Nat) (h : qm_H) : Option (Int32 × qm_H) :=
  if x2 < (1000 : Int32) then
  some ((-2 : Int32), h)
  else
  qm_b2 (qX5_gapAt (a0 + 60) a3 (x2 - (1000 : Int32)) h) fun r2 h1 =>
  some (r2, h1)
def qX11_gaps  (a0 : Nat) (x1 : Int32) (x2 : Int32) (h : qm_H) : Option (Int32 × qm_H) :=
  qm_b2 (qX9_cluesAt (a0 + 1) x1 h) fun r2 h1 =>
  qm_om r2 (
  some ((-2 : Int32), h1))
  (fun b3 =>
  qm_let ((h1.1 b3 1) * (h1.1 b3 2)) fun v4 =>
  if x2 = (0 : Int32) then
  qm_b2 (qX5_howMany (a0 + 60) b3 h1) fun r10 h9 =>
  some (r10, h9)
  else
  if x2 = (1 : Int32) then
  qm_b2 (qX5_bestAsked (a0 + 60) b3 h1) fun r8 h7 =>
  some (r8, h7)
  else
  if x2 < (100 : Int32) then
  qX11_gaps_82 a0 x2 b3 h1
  else
  if x2 < ((100 : Int32) + v4) then
  qm_b2 (qX5_sureOf (a0 + 60) b3 (x2 - (100 : Int32)) h1) fun r6 h5 =>
  some (r6, h5)
  else
  qX11_gaps_82 a0 x2 b3 h1)
def qX12_in  (x0 : Int32) (x1 : Int32) (x2 : Int32) (h : qm_H) : Option (Int32 × qm_H) :=
  if x0 < x1 then
  some ((0 : Int32), h)
  else
  if x2 < x0 then
  some ((0 : Int32), h)
  else
  some ((1 : Int32), h)
def qX12_has  (x0 : Int32) (x1 : Int32) (h : qm_H) : Option (Int32 × qm_H) :=
  if ((qm_ishr x0 x1) &&& (1 : Int32)) = (1 : Int32) then
  some ((1 : Int32), h)
  else
  some ((0 : Int32), h)
def qX12_greater  (x0 : Int32) (x1 : Int32) (h : qm_H) : Option (Int32 × qm_H) :=
  if x1 < x0 then
  some (x0, h)
  else
  some (x1, h)
def qX12_lesser  (x0 : Int32) (x1 : Int32) (h : qm_H) : Option (Int32 × qm_H) :=
  if x0 < x1 then
  some (x0, h)
  else
  some (x1, h)
def qX12_ones_4  (fuel : Nat) (x0 : Int32) (x1 : Int32) (x2 : Int32) (h : qm_H) : Option (Int32 × qm_H) := match fuel with
  | 0 => none
  | n + 1 =>
    if x2 < (8 : Int32) then
    qm_b2 (qX12_has x0 x2 h) fun r2 h1 =>
    if r2 = (0 : Int32) then
    qm_let (x1 + (0 : Int32)) fun v3 =>
    (qX12_ones_4 n) x0 v3 (x2 + (1 : Int32)) h1
    else
    qm_let (x1 + (1 : Int32)) fun v4 =>
    (qX12_ones_4 n) x0 v4 (x2 + (1 : Int32)) h1
    else
    some (x1, h)
def qX12_ones  (x0 : Int32) (h : qm_H) : Option (Int32 × qm_H) :=
  qX12_ones_4 qm_N x0 (0 : Int32) (0 : Int32) h
def qX12_copyRow_3  (fuel : Nat) (n0 : Nat) (a0 : Nat) (x1 : Int32) (x2 : Int32) (x3 : Int32) (x4 : Int32) (h : qm_H) : Option (qm_H) := match fuel with
  | 0 => none
  | n + 1 =>
    if x4 < x1 then
    if ((x1 * x2) + x4) < 0 ∨ n0 ≤ ((x1 * x2) + x4).toNatClampNeg then none else
    if ((x1 * x3) + x4) < 0 ∨ n0 ≤ ((x1 * x3) + x4).toNatClampNeg then none else
    qm_let (qm_seti h a0 ((x1 * x3) + x4).toNatClampNeg (h.1 a0 ((x1 * x2) + x4).toNatClampNeg)) fun h1 =>
    (qX12_copyRow_3 n) n0 a0 x1 x2 x3 (x4 + (1 : Int32)) h1
    else
    some h
def qX12_copyRow  (n0 : Nat) (a0 : Nat) (x1 : Int32) (x2 : Int32) (x3 : Int32) (h : qm_H) : Option (qm_H) :=
  qX12_copyRow_3 qm_N n0 a0 x1 x2 x3 (0 : Int32) h
def qX12_copyAll_2  (fuel : Nat) (a0 : Nat) (x1 : Int32) (x2 : Int32) (x3 : Int32) (h : qm_H) : Option (qm_H) := match fuel with
  | 0 => none
  | n + 1 =>
    if x3 < (600 : Int32) then
    if (((600 : Int32) * x1) + x3) < 0 ∨ 2400 ≤ (((600 : Int32) * x1) + x3).toNatClampNeg then none else
    if (((600 : Int32) * x2) + x3) < 0 ∨ 2400 ≤ (((600 : Int32) * x2) + x3).toNatClampNeg then none else
    qm_let (qm_seti h (a0 + 1) (((600 : Int32) * x2) + x3).toNatClampNeg (vp_nar .byte (h.1 (a0 + 1) (((600 : Int32) * x1) + x3).toNatClampNeg))) fun h9 =>
    (qX12_copyAll_2 n) a0 x1 x2 (x3 + (1 : Int32)) h9
    else
    (qX12_copyRow 4 (a0 + 2) (1 : Int32) x1 x2 h).bind fun h1 =>
    (qX12_copyRow 4 (a0 + 3) (1 : Int32) x1 x2 h1).bind fun h2 =>
    (qX12_copyRow 4 (a0 + 4) (1 : Int32) x1 x2 h2).bind fun h3 =>
    (qX12_copyRow 16 (a0 + 5) (4 : Int32) x1 x2 h3).bind fun h4 =>
    (qX12_copyRow 344 (a0 + 6) (86 : Int32) x1 x2 h4).bind fun h5 =>
    (qX12_copyRow 1288 (a0 + 7) (322 : Int32) x1 x2 h5).bind fun h6 =>
    (qX12_copyRow 136 (a0 + 8) (34 : Int32) x1 x2 h6).bind fun h7 =>
    (qX12_copyRow 264 (a0 + 9) (66 : Int32) x1 x2 h7).bind fun h8 =>
    some h8
def qX12_copyAll  (a0 : Nat) (x1 : Int32) (x2 : Int32) (h : qm_H) : Option (qm_H) :=
  qX12_copyAll_2 qm_N a0 x1 x2 (0 : Int32) h
def qX12_is  (a0 : Nat) (x1 : Int32) (x2 : Int32) (h : qm_H) : Option (Int32 × qm_H) :=
  if x1 < 0 ∨ 16 ≤ (x1).toNatClampNeg then none else
  qm_b2 (qX12_in x2 (0 : Int32) ((h.1 (a0 + 5) (x1).toNatClampNeg) - (1 : Int32)) h) fun r2 h1 =>
  if r2 &&& 1 = r2 then some (r2, h1) else none
def qX12_four_3  (fuel : Nat) (a0 : Nat) (x1 : Int32) (x2 : Int32) (h : qm_H) : Option (qm_H) := match fuel with
  | 0 => none
  | n + 1 =>
    if x2 < (0 : Int32) then
    some h
    else
    if (h.1 (a0 + 2) (0 : Int32).toNatClampNeg) < 0 ∨ 2400 ≤ (h.1 (a0 + 2) (0 : Int32).toNatClampNeg).toNatClampNeg then none else
    qm_let (qm_seti h (a0 + 1) (h.1 (a0 + 2) (0 : Int32).toNatClampNeg).toNatClampNeg (vp_nar .byte ((qm_ishr x1 x2)).toInt8.toInt32)) fun h1 =>
    qm_let (qm_seti h1 (a0 + 2) (0 : Int32).toNatClampNeg ((h1.1 (a0 + 2) (0 : Int32).toNatClampNeg) + (1 : Int32))) fun h2 =>
    (qX12_four_3 n) a0 x1 (x2 + (-8 : Int32)) h2
def qX12_four  (a0 : Nat) (x1 : Int32) (h : qm_H) : Option (qm_H) :=
  qX12_four_3 qm_N a0 x1 (24 : Int32) h
def qX12_feed  (a0 : Nat) (x1 : Int32) (x2 : Int32) (x3 : Int32) (x4 : Int32) (x5 : Int32) (h : qm_H) : Option (Int32 × qm_H) :=
  qm_let (qm_seti h a0 0 (0 : Int32)) fun h1 =>
  if (600 : Int32) < ((h1.1 (a0 + 2) (0 : Int32).toNatClampNeg) + (20 : Int32)) then
  some ((-1 : Int32), h1)
  else
  (qX12_four a0 x1 h1).bind fun h2 =>
  (qX12_four a0 x2 h2).bind fun h3 =>
  (qX12_four a0 x3 h3).bind fun h4 =>
  (qX12_four a0 x4 h4).bind fun h5 =>
  (qX12_four a0 x5 h5).bind fun h6 =>
  some ((h6.1 (a0 + 2) (0 : Int32).toNatClampNeg), h6)
def qX12_end  (a0 : Nat) (x1 : Int32) (h : qm_H) : Option (Int32 × qm_H) :=
  qm_let (qm_seti h a0 0 (0 : Int32)) fun h1 =>
  qm_b2 (qX12_in x1 (0 : Int32) (h1.1 (a0 + 2) (0 : Int32).toNatClampNeg) h1) fun r3 h2 =>
  if r3 = (0 : Int32) then
  some ((-1 : Int32), h2)
  else
  qm_let (qm_seti h2 (a0 + 2) (0 : Int32).toNatClampNeg x1) fun h4 =>
  some (x1, h4)
def qX12_see  (a0 : Nat) (h : qm_H) : Option (Int32 × qm_H) :=
  if (h.1 a0 10) < (h.1 a0 11) then
  if (h.1 a0 10) < 0 ∨ 2400 ≤ (h.1 a0 10).toNatClampNeg then none else
  some (((h.1 (a0 + 1) (h.1 a0 10).toNatClampNeg) &&& (255 : Int32)), h)
  else
  some ((-1 : Int32), h)
def qX12_token_163  (fuel : Nat) (a0 : Nat) (x2 : Int32) (h : qm_H) : Option (qm_H) := match fuel with
  | 0 => none
  | n + 1 =>
    qm_b2 (qX12_see a0 h) fun r2 h1 =>
    qm_b2 (qX12_in r2 (48 : Int32) (57 : Int32) h1) fun r4 h3 =>
    if r4 = (0 : Int32) then
    if (2 : Int32) < x2 then
    qm_let (qm_seti h3 a0 13 (1 : Int32)) fun h6 =>
    some h6
    else
    qm_let (qm_seti h3 a0 13 (3 : Int32)) fun h5 =>
    some h5
    else
    if x2 < (2 : Int32) then
    qm_b2 (qX12_see a0 h3) fun r10 h9 =>
    qm_let (qm_seti h9 a0 14 ((((10 : Int32) * (h3.1 a0 14)) + r10) - (48 : Int32))) fun h11 =>
    qm_let (qm_seti h11 a0 10 ((h11.1 a0 10) + (1 : Int32))) fun h12 =>
    (qX12_token_163 n) a0 (x2 + (1 : Int32)) h12
    else
    qm_let (qm_seti h3 a0 14 (h3.1 a0 14)) fun h7 =>
    qm_let (qm_seti h7 a0 10 ((h7.1 a0 10) + (1 : Int32))) fun h8 =>
    (qX12_token_163 n) a0 (x2 + (1 : Int32)) h8
def qX12_token_74  (fuel : Nat) (a0 : Nat) (x2 : Int32) (h : qm_H) : Option (qm_H) := match fuel with
  | 0 => none
  | n + 1 =>
    qm_b2 (qX12_see a0 h) fun r2 h1 =>
    qm_b2 (qX12_in r2 (97 : Int32) (122 : Int32) h1) fun r4 h3 =>
    if r4 = (0 : Int32) then
    if (8 : Int32) < x2 then
    qm_let (qm_setl h3 a0 15 (0 : Int64)) fun h7 =>
    qm_let (qm_seti h7 a0 13 (2 : Int32)) fun h8 =>
    some h8
    else
    qm_let (qm_setl h3 a0 15 (h3.2 a0 15)) fun h5 =>
    qm_let (qm_seti h5 a0 13 (2 : Int32)) fun h6 =>
    some h6
    else
    qm_b2 (qX12_see a0 h3) fun r10 h9 =>
    qm_let (qm_setl h9 a0 15 ((qm_lshl (h3.2 a0 15) (8 : Int32)) ||| (r10).toInt64)) fun h11 =>
    qm_let (qm_seti h11 a0 10 ((h11.1 a0 10) + (1 : Int32))) fun h12 =>
    (qX12_token_74 n) a0 (x2 + (1 : Int32)) h12
def qX12_token_0  (fuel : Nat) (a0 : Nat) (h : qm_H) : Option (qm_H) := match fuel with
  | 0 => none
  | n + 1 =>
    qm_b2 (qX12_see a0 h) fun r2 h1 =>
    if r2 = (10 : Int32) then
    qm_let (qm_seti h1 a0 10 ((h1.1 a0 10) + (1 : Int32))) fun h3 =>
    (qX12_token_0 n) a0 h3
    else
    qm_b2 (qX12_see a0 h1) fun r5 h4 =>
    if r5 = (32 : Int32) then
    qm_let (qm_seti h4 a0 10 ((h4.1 a0 10) + (1 : Int32))) fun h18 =>
    (qX12_token_0 n) a0 h18
    else
    qm_let (qm_seti h4 a0 12 (h4.1 a0 10)) fun h6 =>
    qm_b2 (qX12_see a0 h6) fun r8 h7 =>
    qm_let (qm_setl h7 a0 15 (0 : Int64)) fun h9 =>
    if r8 < (0 : Int32) then
    qm_let (qm_seti h9 a0 13 (0 : Int32)) fun h17 =>
    some h17
    else
    qm_b2 (qX12_in r8 (97 : Int32) (122 : Int32) h9) fun r11 h10 =>
    if r11 = (0 : Int32) then
    qm_b2 (qX12_in r8 (48 : Int32) (57 : Int32) h10) fun r13 h12 =>
    if r13 = (0 : Int32) then
    qm_let (qm_seti h12 a0 10 ((h12.1 a0 10) + (1 : Int32))) fun h14 =>
    if r8 = (59 : Int32) then
    qm_let (qm_seti h14 a0 13 (4 : Int32)) fun h16 =>
    some h16
    else
    qm_let (qm_seti h14 a0 13 (1 : Int32)) fun h15 =>
    some h15
    else
    qX12_token_163 qm_N a0 (0 : Int32) (qm_seti h12 a0 14 (0 : Int32))
    else
    qX12_token_74 qm_N a0 (0 : Int32) h10
def qX12_token (p0 : Nat) (h : qm_H) : Option (qm_H) := qX12_token_0 qm_N p0 h
def qX12_fails  (a0 : Nat) (h : qm_H) : Option (Int32 × qm_H) :=
  qm_let (qm_seti h a0 16 (h.1 a0 12)) fun h1 =>
  some ((0 : Int32), h1)
def qX12_later  (a0 : Nat) (x1 : Int32) (x2 : Int32) (h : qm_H) : Option (qm_H) :=
  if (h.1 a0 17) = (0 : Int32) then
  qm_let (qm_seti (qm_seti h a0 17 x1) a0 18 x2) fun h1 =>
  some h1
  else
  if x2 < (h.1 a0 18) then
  qm_let (qm_seti (qm_seti h a0 17 x1) a0 18 x2) fun h2 =>
  some h2
  else
  if x2 = (h.1 a0 18) then
  if x1 < (h.1 a0 17) then
  qm_let (qm_seti (qm_seti h a0 17 x1) a0 18 x2) fun h3 =>
  some h3
  else
  some h
  else
  some h
def qX12_take_49  (a0 : Nat) (h : qm_H) : Option (Int32 × qm_H) :=
  (qX12_token a0 h).bind fun h1 =>
  some ((1 : Int32), h1)
def qX12_take  (a0 : Nat) (x1 : Int32) (x2 : Int32) (x3 : Int32) (h : qm_H) : Option (Int32 × qm_H) :=
  if (h.1 a0 13) = (3 : Int32) then
  if x1 < 0 ∨ 4 ≤ (x1).toNatClampNeg then none else
  qm_let (qm_seti h (a0 + 11) (x1).toNatClampNeg (h.1 a0 14)) fun h1 =>
  qm_b2 (qX12_in (h1.1 a0 14) x2 x3 h1) fun r3 h2 =>
  if r3 = (0 : Int32) then
  (qX12_later a0 (2 : Int32) (h2.1 a0 12) h2).bind fun h4 =>
  qX12_take_49 a0 (qm_seti h4 a0 23 (0 : Int32))
  else
  qX12_take_49 a0 h2
  else
  qm_b2 (qX12_fails a0 h) fun r6 h5 =>
  if r6 &&& 1 = r6 then some (r6, h5) else none
def qX12_takeCell  (a0 : Nat) (x1 : Int32) (h : qm_H) : Option (Int32 × qm_H) :=
  qm_b2 (qX12_take a0 x1 (0 : Int32) (7 : Int32) h) fun r2 h1 =>
  if r2 = (0 : Int32) then
  some ((0 : Int32), h1)
  else
  qm_b2 (qX12_take a0 (x1 + (1 : Int32)) (0 : Int32) (7 : Int32) h1) fun r4 h3 =>
  if r4 = (0 : Int32) then
  some ((0 : Int32), h3)
  else
  if x1 < 0 ∨ 4 ≤ (x1).toNatClampNeg then none else
  qm_b2 (qX12_greater (h3.1 a0 21) (h3.1 (a0 + 11) (x1).toNatClampNeg) h3) fun r6 h5 =>
  if (x1 + (1 : Int32)) < 0 ∨ 4 ≤ (x1 + (1 : Int32)).toNatClampNeg then none else
  qm_b2 (qX12_greater ((qm_seti h5 a0 21 r6).1 a0 22) ((qm_seti h5 a0 21 r6).1 (a0 + 11) (x1 + (1 : Int32)).toNatClampNeg) (qm_seti h5 a0 21 r6)) fun r8 h7 =>
  some ((1 : Int32), (qm_seti h7 a0 22 r8))
def qX12_full  (a0 : Nat) (x1 : Int32) (x2 : Int32) (x3 : Int32) (h : qm_H) : Option (qm_H) :=
  if x1 < 0 ∨ 161 ≤ (x1).toNatClampNeg then none else
  if (h.1 (a0 + 10) (x1).toNatClampNeg) = x2 then
  (qX12_later a0 (3 : Int32) x3 h).bind fun h1 =>
  some h1
  else
  some h
def qX12_sizeLine  (a0 : Nat) (h : qm_H) : Option (Int32 × qm_H) :=
  qm_b2 (qX12_take a0 (0 : Int32) (2 : Int32) (8 : Int32) h) fun r2 h1 =>
  if r2 = (0 : Int32) then
  some ((0 : Int32), h1)
  else
  qm_b2 (qX12_take a0 (1 : Int32) (2 : Int32) (8 : Int32) h1) fun r4 h3 =>
  if r4 = (0 : Int32) then
  some ((0 : Int32), h3)
  else
  qm_let (qm_seti h3 (a0 + 10) (0 : Int32).toNatClampNeg (h3.1 (a0 + 11) (0 : Int32).toNatClampNeg)) fun h5 =>
  qm_let (qm_seti h5 (a0 + 10) (1 : Int32).toNatClampNeg (h5.1 (a0 + 11) (1 : Int32).toNatClampNeg)) fun h6 =>
  some ((1 : Int32), h6)
def qX12_rodLine_113  (a0 : Nat) (x1 : Int32) (xs0 : Int32) (xs1 : Int32) (as2 : Nat) (h : qm_H) : Option (Int32 × qm_H) :=
  if ((xs1 + xs0) + (h.1 (a0 + 11) (0 : Int32).toNatClampNeg)) < 0 ∨ 161 ≤ ((xs1 + xs0) + (h.1 (a0 + 11) (0 : Int32).toNatClampNeg)).toNatClampNeg then none else
  qm_let (qm_seti h as2 ((xs1 + xs0) + (h.1 (a0 + 11) (0 : Int32).toNatClampNeg)).toNatClampNeg (h.1 (a0 + 11) (1 : Int32).toNatClampNeg)) fun h1 =>
  if x1 = (0 : Int32) then
  if (((11 : Int32) + (0 : Int32)) + (h1.1 (a0 + 11) (0 : Int32).toNatClampNeg)) < 0 ∨ 161 ≤ (((11 : Int32) + (0 : Int32)) + (h1.1 (a0 + 11) (0 : Int32).toNatClampNeg)).toNatClampNeg then none else
  qm_let (qm_seti h1 (a0 + 10) (((11 : Int32) + (0 : Int32)) + (h1.1 (a0 + 11) (0 : Int32).toNatClampNeg)).toNatClampNeg (h1.1 (a0 + 11) (2 : Int32).toNatClampNeg)) fun h2 =>
  some ((1 : Int32), h2)
  else
  if (((11 : Int32) + (16 : Int32)) + (h1.1 (a0 + 11) (0 : Int32).toNatClampNeg)) < 0 ∨ 161 ≤ (((11 : Int32) + (16 : Int32)) + (h1.1 (a0 + 11) (0 : Int32).toNatClampNeg)).toNatClampNeg then none else
  qm_let (qm_seti h1 (a0 + 10) (((11 : Int32) + (16 : Int32)) + (h1.1 (a0 + 11) (0 : Int32).toNatClampNeg)).toNatClampNeg (h1.1 (a0 + 11) (2 : Int32).toNatClampNeg)) fun h3 =>
  some ((1 : Int32), h3)
def qX12_rodLine_60  (a0 : Nat) (x1 : Int32) (xs0 : Int32) (as1 : Nat) (h : qm_H) : Option (Int32 × qm_H) :=
  if x1 = (0 : Int32) then
  qm_b2 (qX12_greater ((qm_seti h as1 21 xs0).1 a0 22) ((qm_seti h as1 21 xs0).1 (a0 + 11) (0 : Int32).toNatClampNeg) (qm_seti h as1 21 xs0)) fun r2 h1 =>
  if ((qm_seti h1 a0 22 r2).1 a0 23) = (0 : Int32) then
  some ((1 : Int32), (qm_seti h1 a0 22 r2))
  else
  if x1 = (0 : Int32) then
  qX12_rodLine_113 a0 x1 (0 : Int32) (3 : Int32) (a0 + 10) (qm_seti h1 a0 22 r2)
  else
  qX12_rodLine_113 a0 x1 (16 : Int32) (3 : Int32) (a0 + 10) (qm_seti h1 a0 22 r2)
  else
  qm_let (qm_seti (qm_seti h as1 21 xs0) a0 22 ((qm_seti h as1 21 xs0).1 a0 22)) fun h3 =>
  if (h3.1 a0 23) = (0 : Int32) then
  some ((1 : Int32), h3)
  else
  if x1 = (0 : Int32) then
  qX12_rodLine_113 a0 x1 (0 : Int32) (3 : Int32) (a0 + 10) h3
  else
  qX12_rodLine_113 a0 x1 (16 : Int32) (3 : Int32) (a0 + 10) h3
def qX12_rodLine  (a0 : Nat) (x1 : Int32) (h : qm_H) : Option (Int32 × qm_H) :=
  qm_b2 (qX12_take a0 (0 : Int32) (0 : Int32) (7 : Int32) h) fun r2 h1 =>
  if r2 = (0 : Int32) then
  some ((0 : Int32), h1)
  else
  qm_b2 (qX12_take a0 (1 : Int32) (0 : Int32) (9 : Int32) h1) fun r4 h3 =>
  if r4 = (0 : Int32) then
  some ((0 : Int32), h3)
  else
  qm_b2 (qX12_take a0 (2 : Int32) (0 : Int32) (9 : Int32) h3) fun r6 h5 =>
  if r6 = (0 : Int32) then
  some ((0 : Int32), h5)
  else
  if x1 = (0 : Int32) then
  qX12_rodLine_60 a0 x1 (h5.1 a0 21) a0 h5
  else
  qm_b2 (qX12_greater (h5.1 a0 21) (h5.1 (a0 + 11) (0 : Int32).toNatClampNeg) h5) fun r8 h7 =>
  qX12_rodLine_60 a0 x1 r8 a0 h7
def qX12_openLine  (a0 : Nat) (h : qm_H) : Option (Int32 × qm_H) :=
  qm_b2 (qX12_takeCell a0 (0 : Int32) h) fun r2 h1 =>
  if r2 = (0 : Int32) then
  some ((0 : Int32), h1)
  else
  if (h1.1 a0 23) = (0 : Int32) then
  some ((1 : Int32), h1)
  else
  if ((35 : Int32) + (h1.1 (a0 + 11) (1 : Int32).toNatClampNeg)) < 0 ∨ 161 ≤ ((35 : Int32) + (h1.1 (a0 + 11) (1 : Int32).toNatClampNeg)).toNatClampNeg then none else
  if ((35 : Int32) + (h1.1 (a0 + 11) (1 : Int32).toNatClampNeg)) < 0 ∨ 161 ≤ ((35 : Int32) + (h1.1 (a0 + 11) (1 : Int32).toNatClampNeg)).toNatClampNeg then none else
  qm_let (qm_seti h1 (a0 + 10) ((35 : Int32) + (h1.1 (a0 + 11) (1 : Int32).toNatClampNeg)).toNatClampNeg ((h1.1 (a0 + 10) ((35 : Int32) + (h1.1 (a0 + 11) (1 : Int32).toNatClampNeg)).toNatClampNeg) ||| (qm_ishl (1 : Int32) (h1.1 (a0 + 11) (0 : Int32).toNatClampNeg)))) fun h3 =>
  some ((1 : Int32), h3)
def qX12_basketLine_110  (xs0 : Int32) (as1 : Nat) (h : qm_H) : Option (Int32 × qm_H) :=
  qm_b2 (qX12_rodLine as1 xs0 h) fun r2 h1 =>
  if r2 &&& 1 = r2 then some (r2, h1) else none
def qX12_basketLine_45  (a0 : Nat) (l1 : Int64) (h : qm_H) : Option (Int32 × qm_H) :=
  (qX12_token a0 h).bind fun h1 =>
  if (lg_cmp l1 (7824756 : Int64)) = (0 : Int32) then
  qm_let (qm_seti h1 (a0 + 10) (2 : Int32).toNatClampNeg (1 : Int32)) fun h6 =>
  some ((1 : Int32), h6)
  else
  if (lg_cmp l1 (1936292453 : Int64)) = (0 : Int32) then
  qm_b2 (qX12_sizeLine a0 h1) fun r5 h4 =>
  if r5 &&& 1 = r5 then some (r5, h4) else none
  else
  if (lg_cmp l1 (1869636974 : Int64)) = (0 : Int32) then
  qm_b2 (qX12_openLine a0 h1) fun r3 h2 =>
  if r3 &&& 1 = r3 then some (r3, h2) else none
  else
  if (lg_cmp l1 (495873780581 : Int64)) = (0 : Int32) then
  qX12_basketLine_110 (1 : Int32) a0 h1
  else
  qX12_basketLine_110 (0 : Int32) a0 h1
def qX12_basketLine  (a0 : Nat) (l1 : Int64) (h : qm_H) : Option (Int32 × qm_H) :=
  if (lg_cmp l1 (1936292453 : Int64)) = (0 : Int32) then
  qX12_basketLine_45 a0 l1 h
  else
  if (lg_cmp l1 (1869636974 : Int64)) = (0 : Int32) then
  qX12_basketLine_45 a0 l1 h
  else
  if (lg_cmp l1 (7499620 : Int64)) = (0 : Int32) then
  qX12_basketLine_45 a0 l1 h
  else
  if (lg_cmp l1 (495873780581 : Int64)) = (0 : Int32) then
  qX12_basketLine_45 a0 l1 h
  else
  if (lg_cmp l1 (7824756 : Int64)) = (0 : Int32) then
  qX12_basketLine_45 a0 l1 h
  else
  qm_b2 (qX12_fails a0 h) fun r2 h1 =>
  if r2 &&& 1 = r2 then some (r2, h1) else none
def qX12_deedBy  (l0 : Int64) (h : qm_H) : Option (Int32 × qm_H) :=
  if (lg_cmp l0 (1684366692 : Int64)) = (0 : Int32) then
  some ((0 : Int32), h)
  else
  if (lg_cmp l0 (1835363940 : Int64)) = (0 : Int32) then
  some ((1 : Int32), h)
  else
  if (lg_cmp l0 (1735552887 : Int64)) = (0 : Int32) then
  some ((2 : Int32), h)
  else
  if (lg_cmp l0 (512801994341 : Int64)) = (0 : Int32) then
  some ((3 : Int32), h)
  else
  if (lg_cmp l0 (131294708393330 : Int64)) = (0 : Int32) then
  some ((4 : Int32), h)
  else
  if (lg_cmp l0 (7824756 : Int64)) = (0 : Int32) then
  some ((5 : Int32), h)
  else
  if (lg_cmp l0 (6582905 : Int64)) = (0 : Int32) then
  some ((6 : Int32), h)
  else
  some ((-1 : Int32), h)
def qX12_takeSide_30  (a0 : Nat) (h : qm_H) : Option (Int32 × qm_H) :=
  qm_b2 (qX12_fails a0 h) fun r2 h1 =>
  if r2 &&& 1 = r2 then some (r2, h1) else none
def qX12_takeSide_56  (a0 : Nat) (xs0 : Int32) (xs1 : Int32) (as2 : Nat) (h : qm_H) : Option (Int32 × qm_H) :=
  if xs1 < 0 ∨ 4 ≤ (xs1).toNatClampNeg then none else
  qm_let (qm_seti h as2 (xs1).toNatClampNeg xs0) fun h1 =>
  (qX12_token a0 h1).bind fun h2 =>
  qm_b2 (qX12_take a0 (2 : Int32) (0 : Int32) (7 : Int32) h2) fun r4 h3 =>
  if r4 &&& 1 = r4 then some (r4, h3) else none
def qX12_takeSide  (a0 : Nat) (h : qm_H) : Option (Int32 × qm_H) :=
  if (h.1 a0 13) = (2 : Int32) then
  if (lg_cmp (h.2 a0 15) (7499620 : Int64)) = (0 : Int32) then
  if (lg_cmp (h.2 a0 15) (495873780581 : Int64)) = (0 : Int32) then
  qX12_takeSide_56 a0 (1 : Int32) (1 : Int32) (a0 + 11) h
  else
  qX12_takeSide_56 a0 (0 : Int32) (1 : Int32) (a0 + 11) h
  else
  if (lg_cmp (h.2 a0 15) (495873780581 : Int64)) = (0 : Int32) then
  if (lg_cmp (h.2 a0 15) (495873780581 : Int64)) = (0 : Int32) then
  qX12_takeSide_56 a0 (1 : Int32) (1 : Int32) (a0 + 11) h
  else
  qX12_takeSide_56 a0 (0 : Int32) (1 : Int32) (a0 + 11) h
  else
  qX12_takeSide_30 a0 h
  else
  qX12_takeSide_30 a0 h
def qX12_keep_19  (fuel : Nat) (a0 : Nat) (x1 : Int32) (x2 : Int32) (x3 : Int32) (x5 : Int32) (x6 : Int32) (h : qm_H) : Option (qm_H) := match fuel with
  | 0 => none
  | n + 1 =>
    if x6 < x3 then
    if x6 < 0 ∨ 4 ≤ (x6).toNatClampNeg then none else
    if ((x2 + (x3 * x5)) + x6) < 0 ∨ 161 ≤ ((x2 + (x3 * x5)) + x6).toNatClampNeg then none else
    qm_let (qm_seti h (a0 + 10) ((x2 + (x3 * x5)) + x6).toNatClampNeg (h.1 (a0 + 11) (x6).toNatClampNeg)) fun h2 =>
    (qX12_keep_19 n) a0 x1 x2 x3 x5 (x6 + (1 : Int32)) h2
    else
    if x1 < 0 ∨ 161 ≤ (x1).toNatClampNeg then none else
    if x1 < 0 ∨ 161 ≤ (x1).toNatClampNeg then none else
    qm_let (qm_seti h (a0 + 10) (x1).toNatClampNeg ((h.1 (a0 + 10) (x1).toNatClampNeg) + (1 : Int32))) fun h1 =>
    some h1
def qX12_keep  (a0 : Nat) (x1 : Int32) (x2 : Int32) (x3 : Int32) (x4 : Int32) (h : qm_H) : Option (qm_H) :=
  if x1 < 0 ∨ 161 ≤ (x1).toNatClampNeg then none else
  qm_let (h.1 (a0 + 10) (x1).toNatClampNeg) fun v1 =>
  if v1 = x4 then
  some h
  else
  qX12_keep_19 qm_N a0 x1 x2 x3 v1 (0 : Int32) h
def qX12_yearLine_159  (a0 : Nat) (x4 : Int32) (x5 : Int32) (h : qm_H) : Option (Int32 × qm_H) :=
  if x5 = (0 : Int32) then
  some ((0 : Int32), h)
  else
  qm_let (qm_seti h (a0 + 11) (0 : Int32).toNatClampNeg x4) fun h1 =>
  (qX12_keep a0 (0 : Int32) (1 : Int32) (4 : Int32) (40 : Int32) h1).bind fun h2 =>
  some ((1 : Int32), h2)
def qX12_yearLine_153  (a0 : Nat) (x4 : Int32) (h : qm_H) : Option (Int32 × qm_H) :=
  qm_b2 (qX12_takeSide a0 h) fun r2 h1 =>
  qX12_yearLine_159 a0 x4 r2 h1
def qX12_yearLine_32  (fuel : Nat) (a0 : Nat) (x4 : Int32) (x5 : Int32) (h : qm_H) : Option (Int32 × qm_H) := match fuel with
  | 0 => none
  | n + 1 =>
    if x5 < (4 : Int32) then
    if x5 < 0 ∨ 4 ≤ (x5).toNatClampNeg then none else
    qm_let (qm_seti h (a0 + 11) (x5).toNatClampNeg (-1 : Int32)) fun h11 =>
    (qX12_yearLine_32 n) a0 x4 (x5 + (1 : Int32)) h11
    else
    if x4 = (0 : Int32) then
    qm_b2 (qX12_take a0 (1 : Int32) (1 : Int32) (8 : Int32) h) fun r6 h5 =>
    if r6 = (0 : Int32) then
    qX12_yearLine_159 a0 x4 (0 : Int32) h5
    else
    qm_b2 (qX12_take a0 (2 : Int32) (1 : Int32) (8 : Int32) h5) fun r8 h7 =>
    if r8 = (0 : Int32) then
    qX12_yearLine_159 a0 x4 (0 : Int32) h7
    else
    qm_b2 (qX12_take a0 (3 : Int32) (0 : Int32) (99 : Int32) h7) fun r10 h9 =>
    if r10 = (0 : Int32) then
    qX12_yearLine_159 a0 x4 (0 : Int32) h9
    else
    qX12_yearLine_159 a0 x4 (1 : Int32) h9
    else
    if x4 = (3 : Int32) then
    qm_b2 (qX12_take a0 (1 : Int32) (0 : Int32) (7 : Int32) h) fun r2 h1 =>
    if r2 = (0 : Int32) then
    qX12_yearLine_159 a0 x4 (0 : Int32) h1
    else
    qm_b2 (qX12_take a0 (2 : Int32) (0 : Int32) (7 : Int32) h1) fun r4 h3 =>
    if r4 = (0 : Int32) then
    qX12_yearLine_159 a0 x4 (0 : Int32) h3
    else
    qX12_yearLine_159 a0 x4 (1 : Int32) h3
    else
    if x4 = (1 : Int32) then
    qX12_yearLine_153 a0 x4 h
    else
    if x4 = (2 : Int32) then
    qX12_yearLine_153 a0 x4 h
    else
    qX12_yearLine_159 a0 x4 (1 : Int32) h
def qX12_yearLine  (a0 : Nat) (l1 : Int64) (x3 : Int32) (h : qm_H) : Option (Int32 × qm_H) :=
  qm_b2 (qX12_deedBy l1 h) fun r2 h1 =>
  if r2 = (-1 : Int32) then
  qm_b2 (qX12_fails a0 h1) fun r6 h5 =>
  if r6 &&& 1 = r6 then some (r6, h5) else none
  else
  (qX12_full a0 (0 : Int32) (40 : Int32) x3 h1).bind fun h3 =>
  (qX12_token a0 h3).bind fun h4 =>
  qX12_yearLine_32 qm_N a0 r2 (1 : Int32) h4
def qX12_parishLine_167  (xs0 : Int32) (xs1 : Int32) (xs2 : Int32) (xs3 : Int32) (as4 : Nat) (h : qm_H) : Option (Int32 × qm_H) :=
  (qX12_keep as4 xs3 xs2 xs1 xs0 h).bind fun h1 =>
  some ((1 : Int32), h1)
def qX12_parishLine_137  (l1 : Int64) (xs0 : Int32) (as1 : Nat) (h : qm_H) : Option (Int32 × qm_H) :=
  if (lg_cmp l1 (7499620 : Int64)) = (0 : Int32) then
  if (lg_cmp l1 (7499620 : Int64)) = (0 : Int32) then
  qX12_parishLine_167 (6 : Int32) (1 : Int32) (3 : Int32) xs0 as1 h
  else
  qX12_parishLine_167 (8 : Int32) (1 : Int32) (3 : Int32) xs0 as1 h
  else
  if (lg_cmp l1 (7499620 : Int64)) = (0 : Int32) then
  qX12_parishLine_167 (6 : Int32) (1 : Int32) (9 : Int32) xs0 as1 h
  else
  qX12_parishLine_167 (8 : Int32) (1 : Int32) (9 : Int32) xs0 as1 h
def qX12_parishLine_92  (a0 : Nat) (l1 : Int64) (xs0 : Int32) (xs1 : Int32) (xs2 : Int32) (as3 : Nat) (h : qm_H) : Option (Int32 × qm_H) :=
  qm_b2 (qX12_take as3 xs2 xs1 xs0 h) fun r2 h1 =>
  if r2 = (0 : Int32) then
  some ((0 : Int32), h1)
  else
  if (lg_cmp l1 (6518132 : Int64)) = (0 : Int32) then
  qm_let (qm_seti h1 (a0 + 10) (2 : Int32).toNatClampNeg (h1.1 (a0 + 11) (0 : Int32).toNatClampNeg)) fun h3 =>
  some ((1 : Int32), h3)
  else
  if (lg_cmp l1 (7499620 : Int64)) = (0 : Int32) then
  qX12_parishLine_137 l1 (0 : Int32) a0 h1
  else
  qX12_parishLine_137 l1 (1 : Int32) a0 h1
def qX12_parishLine_70  (a0 : Nat) (l1 : Int64) (h : qm_H) : Option (Int32 × qm_H) :=
  (qX12_token a0 h).bind fun h1 =>
  if (lg_cmp l1 (6518132 : Int64)) = (0 : Int32) then
  qX12_parishLine_92 a0 l1 (9 : Int32) (1 : Int32) (0 : Int32) a0 h1
  else
  qX12_parishLine_92 a0 l1 (60 : Int32) (1 : Int32) (0 : Int32) a0 h1
def qX12_parishLine_66  (a0 : Nat) (l1 : Int64) (x3 : Int32) (xs0 : Int32) (xs1 : Int32) (as2 : Nat) (h : qm_H) : Option (Int32 × qm_H) :=
  (qX12_full as2 xs1 xs0 x3 h).bind fun h1 =>
  qX12_parishLine_70 a0 l1 h1
def qX12_parishLine_29  (a0 : Nat) (l1 : Int64) (x3 : Int32) (h : qm_H) : Option (Int32 × qm_H) :=
  if (lg_cmp l1 (6518132 : Int64)) = (0 : Int32) then
  qX12_parishLine_70 a0 l1 h
  else
  if (lg_cmp l1 (7499620 : Int64)) = (0 : Int32) then
  if (lg_cmp l1 (7499620 : Int64)) = (0 : Int32) then
  qX12_parishLine_66 a0 l1 x3 (6 : Int32) (0 : Int32) a0 h
  else
  qX12_parishLine_66 a0 l1 x3 (8 : Int32) (0 : Int32) a0 h
  else
  if (lg_cmp l1 (7499620 : Int64)) = (0 : Int32) then
  qX12_parishLine_66 a0 l1 x3 (6 : Int32) (1 : Int32) a0 h
  else
  qX12_parishLine_66 a0 l1 x3 (8 : Int32) (1 : Int32) a0 h
def qX12_parishLine  (a0 : Nat) (l1 : Int64) (x3 : Int32) (h : qm_H) : Option (Int32 × qm_H) :=
  if (lg_cmp l1 (7499620 : Int64)) = (0 : Int32) then
  qX12_parishLine_29 a0 l1 x3 h
  else
  if (lg_cmp l1 (1852138852 : Int64)) = (0 : Int32) then
  qX12_parishLine_29 a0 l1 x3 h
  else
  if (lg_cmp l1 (6518132 : Int64)) = (0 : Int32) then
  qX12_parishLine_29 a0 l1 x3 h
  else
  qm_b2 (qX12_fails a0 h) fun r2 h1 =>
  if r2 &&& 1 = r2 then some (r2, h1) else none
def qX12_clueLine_140  (a0 : Nat) (x4 : Int32) (h : qm_H) : Option (Int32 × qm_H) :=
  qm_let (qm_seti h (a0 + 11) (0 : Int32).toNatClampNeg x4) fun h1 =>
  (qX12_keep a0 (2 : Int32) (3 : Int32) (3 : Int32) (10 : Int32) h1).bind fun h2 =>
  some ((1 : Int32), h2)
def qX12_clueLine_84  (a0 : Nat) (x4 : Int32) (h : qm_H) : Option (Int32 × qm_H) :=
  (qX12_token a0 h).bind fun h1 =>
  if x4 = (-1 : Int32) then
  qm_b2 (qX12_sizeLine a0 h1) fun r9 h8 =>
  if r9 &&& 1 = r9 then some (r9, h8) else none
  else
  if x4 < (2 : Int32) then
  qm_b2 (qX12_takeCell a0 (1 : Int32) h1) fun r7 h6 =>
  if r7 = (0 : Int32) then
  some ((0 : Int32), h6)
  else
  qX12_clueLine_140 a0 x4 h6
  else
  qm_b2 (qX12_take a0 (1 : Int32) (1 : Int32) (8 : Int32) h1) fun r3 h2 =>
  if r3 = (0 : Int32) then
  some ((0 : Int32), h2)
  else
  qm_b2 (qX12_take a0 (2 : Int32) (1 : Int32) (8 : Int32) h2) fun r5 h4 =>
  if r5 = (0 : Int32) then
  some ((0 : Int32), h4)
  else
  qX12_clueLine_140 a0 x4 h4
def qX12_clueLine_70  (a0 : Nat) (x3 : Int32) (x4 : Int32) (h : qm_H) : Option (Int32 × qm_H) :=
  if x4 = (-1 : Int32) then
  qX12_clueLine_84 a0 x4 h
  else
  (qX12_full a0 (2 : Int32) (10 : Int32) x3 h).bind fun h1 =>
  qX12_clueLine_84 a0 x4 h1
def qX12_clueLine_49  (a0 : Nat) (l1 : Int64) (x3 : Int32) (xs0 : Int32) (h : qm_H) : Option (Int32 × qm_H) :=
  if xs0 = (-1 : Int32) then
  if (lg_cmp l1 (1936292453 : Int64)) = (0 : Int32) then
  qX12_clueLine_70 a0 x3 xs0 h
  else
  qm_b2 (qX12_fails a0 h) fun r2 h1 =>
  if r2 &&& 1 = r2 then some (r2, h1) else none
  else
  qX12_clueLine_70 a0 x3 xs0 h
def qX12_clueLine  (a0 : Nat) (l1 : Int64) (x3 : Int32) (h : qm_H) : Option (Int32 × qm_H) :=
  if (lg_cmp l1 (1869636974 : Int64)) = (0 : Int32) then
  qX12_clueLine_49 a0 l1 x3 (0 : Int32) h
  else
  if (lg_cmp l1 (1936225652 : Int64)) = (0 : Int32) then
  qX12_clueLine_49 a0 l1 x3 (1 : Int32) h
  else
  if (lg_cmp l1 (495740088435 : Int64)) = (0 : Int32) then
  qX12_clueLine_49 a0 l1 x3 (2 : Int32) h
  else
  if (lg_cmp l1 (1751477348 : Int64)) = (0 : Int32) then
  qX12_clueLine_49 a0 l1 x3 (3 : Int32) h
  else
  qX12_clueLine_49 a0 l1 x3 (-1 : Int32) h
def qX12_lineOf  (a0 : Nat) (x1 : Int32) (l2 : Int64) (x4 : Int32) (h : qm_H) : Option (Int32 × qm_H) :=
  if x1 = (0 : Int32) then
  qm_b2 (qX12_basketLine a0 l2 h) fun r2 h1 =>
  if r2 &&& 1 = r2 then some (r2, h1) else none
  else if x1 = (1 : Int32) then
  qm_b2 (qX12_yearLine a0 l2 x4 h) fun r4 h3 =>
  if r4 &&& 1 = r4 then some (r4, h3) else none
  else if x1 = (2 : Int32) then
  qm_b2 (qX12_parishLine a0 l2 x4 h) fun r6 h5 =>
  if r6 &&& 1 = r6 then some (r6, h5) else none
  else 
  qm_b2 (qX12_clueLine a0 l2 x4 h) fun r8 h7 =>
  if r8 &&& 1 = r8 then some (r8, h7) else none
def qX12_lines_63 (K2 : Nat → Int32 → Int32 → qm_H → Option (Int32 × qm_H)) (a0 : Nat) (x1 : Int32) (x2 : Int32) (h : qm_H) : Option (Int32 × qm_H) :=
  if x2 = (0 : Int32) then
  K2 a0 x1 x2 h
  else
  (qX12_token a0 h).bind fun h1 =>
  K2 a0 x1 x2 h1
def qX12_lines_41 (K2 : Nat → Int32 → Int32 → qm_H → Option (Int32 × qm_H)) (a0 : Nat) (x1 : Int32) (x3 : Int32) (ls0 : Int64) (xs1 : Int32) (as2 : Nat) (h : qm_H) : Option (Int32 × qm_H) :=
  qm_b2 (qX12_lineOf as2 xs1 ls0 x3 h) fun r2 h1 =>
  if r2 = (0 : Int32) then
  qX12_lines_63 K2 a0 x1 r2 h1
  else
  if (h1.1 a0 13) = (4 : Int32) then
  qX12_lines_63 K2 a0 x1 r2 h1
  else
  qm_b2 (qX12_fails a0 h1) fun r4 h3 =>
  qX12_lines_63 K2 a0 x1 r4 h3
def qX12_lines_2  (fuel : Nat) (a0 : Nat) (x1 : Int32) (x2 : Int32) (h : qm_H) : Option (Int32 × qm_H) := match fuel with
  | 0 => none
  | n + 1 =>
    if x2 = (0 : Int32) then
    if x2 &&& 1 = x2 then some (x2, h) else none
    else
    if (h.1 a0 13) = (0 : Int32) then
    if x2 &&& 1 = x2 then some (x2, h) else none
    else
    qm_let (qm_seti h a0 23 (1 : Int32)) fun h1 =>
    if (h1.1 a0 13) = (2 : Int32) then
    qX12_lines_41 (qX12_lines_2 n) a0 x1 (h.1 a0 12) (h1.2 a0 15) x1 a0 h1
    else
    qX12_lines_41 (qX12_lines_2 n) a0 x1 (h.1 a0 12) (0 : Int64) x1 a0 h1
def qX12_lines  (a0 : Nat) (x1 : Int32) (h : qm_H) : Option (Int32 × qm_H) :=
  qX12_lines_2 qm_N a0 x1 (1 : Int32) h
def qX12_blank_86  (a0 : Nat) (x1 : Int32) (xs0 : Int32) (as1 : Nat) (h : qm_H) : Option (qm_H) :=
  if xs0 < 0 ∨ 161 ≤ (xs0).toNatClampNeg then none else
  qm_let (qm_seti h as1 (xs0).toNatClampNeg (6 : Int32)) fun h1 =>
  if x1 = (2 : Int32) then
  qm_let (qm_seti h1 (a0 + 10) (2 : Int32).toNatClampNeg (3 : Int32)) fun h3 =>
  some h3
  else
  qm_let (qm_seti h1 (a0 + 10) (2 : Int32).toNatClampNeg (0 : Int32)) fun h2 =>
  some h2
def qX12_blank_71  (a0 : Nat) (x1 : Int32) (xs0 : Int32) (xs1 : Int32) (as2 : Nat) (h : qm_H) : Option (qm_H) :=
  if xs1 < 0 ∨ 161 ≤ (xs1).toNatClampNeg then none else
  qm_let (qm_seti h as2 (xs1).toNatClampNeg xs0) fun h1 =>
  if x1 = (0 : Int32) then
  qX12_blank_86 a0 x1 (1 : Int32) (a0 + 10) h1
  else
  if x1 = (3 : Int32) then
  qX12_blank_86 a0 x1 (1 : Int32) (a0 + 10) h1
  else
  qm_let (qm_seti h1 (a0 + 10) (1 : Int32).toNatClampNeg (0 : Int32)) fun h2 =>
  if x1 = (2 : Int32) then
  qm_let (qm_seti h2 (a0 + 10) (2 : Int32).toNatClampNeg (3 : Int32)) fun h4 =>
  some h4
  else
  qm_let (qm_seti h2 (a0 + 10) (2 : Int32).toNatClampNeg (0 : Int32)) fun h3 =>
  some h3
def qX12_blank_2  (fuel : Nat) (a0 : Nat) (x1 : Int32) (x2 : Int32) (h : qm_H) : Option (qm_H) := match fuel with
  | 0 => none
  | n + 1 =>
    if x2 < (161 : Int32) then
    if x1 = (0 : Int32) then
    qm_b2 (qX12_in x2 (3 : Int32) (10 : Int32) h) fun r3 h2 =>
    if r3 = (0 : Int32) then
    qm_b2 (qX12_in x2 (19 : Int32) (26 : Int32) h2) fun r6 h5 =>
    if r6 = (0 : Int32) then
    if x2 < 0 ∨ 161 ≤ (x2).toNatClampNeg then none else
    qm_let (qm_seti h5 (a0 + 10) (x2).toNatClampNeg (0 : Int32)) fun h7 =>
    (qX12_blank_2 n) a0 x1 (x2 + (1 : Int32)) h7
    else
    if x2 < 0 ∨ 161 ≤ (x2).toNatClampNeg then none else
    qm_let (qm_seti h5 (a0 + 10) (x2).toNatClampNeg (2 : Int32)) fun h8 =>
    (qX12_blank_2 n) a0 x1 (x2 + (1 : Int32)) h8
    else
    if x2 < 0 ∨ 161 ≤ (x2).toNatClampNeg then none else
    qm_let (qm_seti h2 (a0 + 10) (x2).toNatClampNeg (2 : Int32)) fun h4 =>
    (qX12_blank_2 n) a0 x1 (x2 + (1 : Int32)) h4
    else
    if x2 < 0 ∨ 161 ≤ (x2).toNatClampNeg then none else
    qm_let (qm_seti h (a0 + 10) (x2).toNatClampNeg (0 : Int32)) fun h1 =>
    (qX12_blank_2 n) a0 x1 (x2 + (1 : Int32)) h1
    else
    if x1 = (0 : Int32) then
    qX12_blank_71 a0 x1 (6 : Int32) (0 : Int32) (a0 + 10) h
    else
    if x1 = (3 : Int32) then
    qX12_blank_71 a0 x1 (6 : Int32) (0 : Int32) (a0 + 10) h
    else
    qX12_blank_71 a0 x1 (0 : Int32) (0 : Int32) (a0 + 10) h
def qX12_blank  (a0 : Nat) (x1 : Int32) (h : qm_H) : Option (qm_H) :=
  qX12_blank_2 qm_N a0 x1 (0 : Int32) h
def qX12_readText_107  (a0 : Nat) (x2 : Int32) (xs0 : Int32) (xs1 : Int32) (as2 : Nat) (h : qm_H) : Option (Int32 × qm_H) :=
  if xs1 < 0 ∨ 4 ≤ (xs1).toNatClampNeg then none else
  qm_let (qm_seti h as2 (xs1).toNatClampNeg xs0) fun h1 =>
  if x2 = (0 : Int32) then
  qm_let (qm_seti h1 (a0 + 4) (0 : Int32).toNatClampNeg (h1.1 a0 16)) fun h4 =>
  if (h4.1 (a0 + 3) (0 : Int32).toNatClampNeg) = (0 : Int32) then
  some ((1 : Int32), h4)
  else
  some ((0 : Int32), h4)
  else
  if (0 : Int32) < (h1.1 a0 17) then
  qm_let (qm_seti h1 (a0 + 4) (0 : Int32).toNatClampNeg (h1.1 a0 18)) fun h3 =>
  if (h3.1 (a0 + 3) (0 : Int32).toNatClampNeg) = (0 : Int32) then
  some ((1 : Int32), h3)
  else
  some ((0 : Int32), h3)
  else
  qm_let (qm_seti h1 (a0 + 4) (0 : Int32).toNatClampNeg (-1 : Int32)) fun h2 =>
  if (h2.1 (a0 + 3) (0 : Int32).toNatClampNeg) = (0 : Int32) then
  some ((1 : Int32), h2)
  else
  some ((0 : Int32), h2)
def qX12_readText_81  (a0 : Nat) (x2 : Int32) (h : qm_H) : Option (Int32 × qm_H) :=
  (qX12_later a0 (4 : Int32) (h.1 a0 12) h).bind fun h1 =>
  if x2 = (0 : Int32) then
  qX12_readText_107 a0 x2 (1 : Int32) (0 : Int32) (a0 + 3) h1
  else
  qX12_readText_107 a0 x2 (h1.1 a0 17) (0 : Int32) (a0 + 3) h1
def qX12_readText_55  (a0 : Nat) (x2 : Int32) (h : qm_H) : Option (Int32 × qm_H) :=
  if (h.1 a0 21) < (h.1 (a0 + 10) (0 : Int32).toNatClampNeg) then
  if (h.1 a0 22) < (h.1 (a0 + 10) (1 : Int32).toNatClampNeg) then
  if x2 = (0 : Int32) then
  qX12_readText_107 a0 x2 (1 : Int32) (0 : Int32) (a0 + 3) h
  else
  qX12_readText_107 a0 x2 (h.1 a0 17) (0 : Int32) (a0 + 3) h
  else
  qX12_readText_81 a0 x2 h
  else
  qX12_readText_81 a0 x2 h
def qX12_readText  (a0 : Nat) (x1 : Int32) (h : qm_H) : Option (Int32 × qm_H) :=
  (qX12_blank a0 x1 h).bind fun h1 =>
  qm_let (qm_seti h1 a0 21 (-1 : Int32)) fun h2 =>
  qm_let (qm_seti h2 a0 22 (-1 : Int32)) fun h3 =>
  qm_let (qm_seti h3 a0 10 (0 : Int32)) fun h4 =>
  qm_let (qm_seti h4 a0 17 (0 : Int32)) fun h5 =>
  (qX12_token a0 h5).bind fun h6 =>
  qm_b2 (qX12_lines a0 x1 h6) fun r8 h7 =>
  if r8 = (0 : Int32) then
  if r8 = (0 : Int32) then
  qX12_readText_107 a0 r8 (1 : Int32) (0 : Int32) (a0 + 3) h7
  else
  qX12_readText_107 a0 r8 (h7.1 a0 17) (0 : Int32) (a0 + 3) h7
  else
  if (h7.1 a0 17) = (0 : Int32) then
  if x1 = (0 : Int32) then
  qX12_readText_55 a0 r8 h7
  else
  if x1 = (3 : Int32) then
  qX12_readText_55 a0 r8 h7
  else
  if r8 = (0 : Int32) then
  qX12_readText_107 a0 r8 (1 : Int32) (0 : Int32) (a0 + 3) h7
  else
  qX12_readText_107 a0 r8 (h7.1 a0 17) (0 : Int32) (a0 + 3) h7
  else
  if r8 = (0 : Int32) then
  qX12_readText_107 a0 r8 (1 : Int32) (0 : Int32) (a0 + 3) h7
  else
  qX12_readText_107 a0 r8 (h7.1 a0 17) (0 : Int32) (a0 + 3) h7
def qX12_store_3  (fuel : Nat) (a0 : Nat) (n1 : Nat) (a1 : Nat) (x2 : Int32) (x3 : Int32) (x4 : Int32) (h : qm_H) : Option (qm_H) := match fuel with
  | 0 => none
  | n + 1 =>
    if x4 < x2 then
    if x4 < 0 ∨ 161 ≤ (x4).toNatClampNeg then none else
    if ((x2 * x3) + x4) < 0 ∨ n1 ≤ ((x2 * x3) + x4).toNatClampNeg then none else
    qm_let (qm_seti h a1 ((x2 * x3) + x4).toNatClampNeg (h.1 (a0 + 10) (x4).toNatClampNeg)) fun h1 =>
    (qX12_store_3 n) a0 n1 a1 x2 x3 (x4 + (1 : Int32)) h1
    else
    some h
def qX12_store  (a0 : Nat) (n1 : Nat) (a1 : Nat) (x2 : Int32) (x3 : Int32) (h : qm_H) : Option (qm_H) :=
  qX12_store_3 qm_N a0 n1 a1 x2 x3 (0 : Int32) h
def qX12_storeAll  (a0 : Nat) (x1 : Int32) (x2 : Int32) (h : qm_H) : Option (qm_H) :=
  if x1 = (0 : Int32) then
  (qX12_store a0 344 (a0 + 6) (43 : Int32) x2 h).bind fun h1 =>
  some h1
  else if x1 = (1 : Int32) then
  (qX12_store a0 1288 (a0 + 7) (161 : Int32) x2 h).bind fun h2 =>
  some h2
  else if x1 = (2 : Int32) then
  (qX12_store a0 136 (a0 + 8) (17 : Int32) x2 h).bind fun h3 =>
  some h3
  else 
  (qX12_store a0 264 (a0 + 9) (33 : Int32) x2 h).bind fun h4 =>
  some h4
def qX12_text_118  (a0 : Nat) (x1 : Int32) (x3 : Int32) (xs0 : Int32) (xs1 : Int32) (xs2 : Int32) (as3 : Nat) (h : qm_H) : Option (Int32 × qm_H) :=
  if xs2 < 0 ∨ 16 ≤ (xs2).toNatClampNeg then none else
  qm_let (qm_seti h as3 (xs2).toNatClampNeg (xs1 + xs0)) fun h1 =>
  (qX12_storeAll a0 x1 x3 h1).bind fun h2 =>
  some (x3, h2)
def qX12_text_75  (a0 : Nat) (x1 : Int32) (x2 : Int32) (h : qm_H) : Option (Int32 × qm_H) :=
  qm_b2 (qX12_readText a0 x1 h) fun r2 h1 =>
  if r2 = (0 : Int32) then
  some ((-1 : Int32), h1)
  else
  if x2 = (-1 : Int32) then
  if x1 < 0 ∨ 16 ≤ (x1).toNatClampNeg then none else
  qm_let (h1.1 (a0 + 5) (x1).toNatClampNeg) fun v3 =>
  if x1 < 0 ∨ 16 ≤ (x1).toNatClampNeg then none else
  if x2 = (-1 : Int32) then
  qX12_text_118 a0 x1 v3 (1 : Int32) (h1.1 (a0 + 5) (x1).toNatClampNeg) x1 (a0 + 5) h1
  else
  qX12_text_118 a0 x1 v3 (0 : Int32) (h1.1 (a0 + 5) (x1).toNatClampNeg) x1 (a0 + 5) h1
  else
  if x1 < 0 ∨ 16 ≤ (x1).toNatClampNeg then none else
  if x2 = (-1 : Int32) then
  qX12_text_118 a0 x1 x2 (1 : Int32) (h1.1 (a0 + 5) (x1).toNatClampNeg) x1 (a0 + 5) h1
  else
  qX12_text_118 a0 x1 x2 (0 : Int32) (h1.1 (a0 + 5) (x1).toNatClampNeg) x1 (a0 + 5) h1
def qX12_text  (a0 : Nat) (x1 : Int32) (x2 : Int32) (h : qm_H) : Option (Int32 × qm_H) :=
  qm_let (qm_seti h a0 0 (0 : Int32)) fun h1 =>
  qm_let (qm_seti h1 a0 11 (h1.1 (a0 + 2) (0 : Int32).toNatClampNeg)) fun h2 =>
  qm_let (qm_seti h2 (a0 + 2) (0 : Int32).toNatClampNeg (0 : Int32)) fun h3 =>
  qm_let (qm_seti h3 (a0 + 3) (0 : Int32).toNatClampNeg (0 : Int32)) fun h4 =>
  qm_let (qm_seti h4 (a0 + 4) (0 : Int32).toNatClampNeg (-1 : Int32)) fun h5 =>
  qm_b2 (qX12_in x1 (0 : Int32) (3 : Int32) h5) fun r7 h6 =>
  if r7 = (0 : Int32) then
  some ((-2 : Int32), h6)
  else
  if x2 = (-1 : Int32) then
  if x1 < 0 ∨ 16 ≤ (x1).toNatClampNeg then none else
  if (h6.1 (a0 + 5) (x1).toNatClampNeg) = (2 : Int32) then
  some ((-2 : Int32), h6)
  else
  qX12_text_75 a0 x1 x2 h6
  else
  qm_b2 (qX12_is a0 x1 x2 h6) fun r9 h8 =>
  if r9 = (0 : Int32) then
  some ((-2 : Int32), h8)
  else
  qX12_text_75 a0 x1 x2 h8
def qX12_fault  (a0 : Nat) (x1 : Int32) (h : qm_H) : Option (Int32 × qm_H) :=
  qm_let (qm_seti h a0 0 (0 : Int32)) fun h1 =>
  if x1 = (0 : Int32) then
  some ((h1.1 (a0 + 3) (0 : Int32).toNatClampNeg), h1)
  else
  if x1 = (1 : Int32) then
  some ((h1.1 (a0 + 4) (0 : Int32).toNatClampNeg), h1)
  else
  some ((-1 : Int32), h1)
def qX12_of  (a0 : Nat) (x1 : Int32) (h : qm_H) : Option (Int32 × qm_H) :=
  if (((43 : Int32) * (h.1 a0 24)) + x1) < 0 ∨ 344 ≤ (((43 : Int32) * (h.1 a0 24)) + x1).toNatClampNeg then none else
  some ((h.1 (a0 + 6) (((43 : Int32) * (h.1 a0 24)) + x1).toNatClampNeg), h)
def qX12_hand_58  (fuel : Nat) (a0 : Nat) (x2 : Int32) (h : qm_H) : Option (Int32 × qm_H) := match fuel with
  | 0 => none
  | n + 1 =>
    if x2 < (8 : Int32) then
    qm_b2 (qX12_of a0 ((3 : Int32) + x2) h) fun r2 h1 =>
    if x2 < 0 ∨ 16 ≤ (x2).toNatClampNeg then none else
    qm_let (qm_seti h1 (a0 + 12) (x2).toNatClampNeg r2) fun h3 =>
    qm_b2 (qX12_of a0 ((11 : Int32) + x2) h3) fun r5 h4 =>
    if x2 < 0 ∨ 16 ≤ (x2).toNatClampNeg then none else
    qm_let (qm_seti h4 (a0 + 13) (x2).toNatClampNeg r5) fun h6 =>
    qm_b2 (qX12_of a0 ((19 : Int32) + x2) h6) fun r8 h7 =>
    if ((8 : Int32) + x2) < 0 ∨ 16 ≤ ((8 : Int32) + x2).toNatClampNeg then none else
    qm_let (qm_seti h7 (a0 + 12) ((8 : Int32) + x2).toNatClampNeg r8) fun h9 =>
    qm_b2 (qX12_of a0 ((27 : Int32) + x2) h9) fun r11 h10 =>
    if ((8 : Int32) + x2) < 0 ∨ 16 ≤ ((8 : Int32) + x2).toNatClampNeg then none else
    qm_let (qm_seti h10 (a0 + 13) ((8 : Int32) + x2).toNatClampNeg r11) fun h12 =>
    qm_b2 (qX12_of a0 ((35 : Int32) + x2) h12) fun r14 h13 =>
    if x2 < 0 ∨ 8 ≤ (x2).toNatClampNeg then none else
    qm_let (qm_seti h13 (a0 + 14) (x2).toNatClampNeg r14) fun h15 =>
    (qX12_hand_58 n) a0 (x2 + (1 : Int32)) h15
    else
    some ((1 : Int32), h)
def qX12_hand  (a0 : Nat) (x1 : Int32) (h : qm_H) : Option (Int32 × qm_H) :=
  qm_b2 (qX12_is a0 (0 : Int32) x1 h) fun r2 h1 =>
  if r2 = (0 : Int32) then
  some ((0 : Int32), h1)
  else
  qm_b2 (qX12_of a0 (0 : Int32) (qm_seti h1 a0 24 x1)) fun r4 h3 =>
  qm_b2 (qX12_of a0 (1 : Int32) (qm_seti h3 a0 25 r4)) fun r6 h5 =>
  qm_let (qm_seti (qm_seti h5 a0 26 r6) a0 27 (((qm_seti h5 a0 26 r6).1 a0 25) * ((qm_seti h5 a0 26 r6).1 a0 26))) fun h7 =>
  qm_b2 (qX12_of a0 (2 : Int32) h7) fun r9 h8 =>
  qX12_hand_58 qm_N a0 (0 : Int32) (qm_seti h8 a0 28 r9)
def qX12_isCell  (a0 : Nat) (x1 : Int32) (h : qm_H) : Option (Int32 × qm_H) :=
  qm_b2 (qX12_in x1 (0 : Int32) ((h.1 a0 27) - (1 : Int32)) h) fun r2 h1 =>
  if r2 &&& 1 = r2 then some (r2, h1) else none
def qX12_isOpen  (a0 : Nat) (x1 : Int32) (h : qm_H) : Option (Int32 × qm_H) :=
  if (h.1 a0 25) = 0 then none else
  if (x1 / (h.1 a0 25)) < 0 ∨ 8 ≤ (x1 / (h.1 a0 25)).toNatClampNeg then none else
  if (h.1 a0 25) = 0 then none else
  qm_b2 (qX12_has (h.1 (a0 + 14) (x1 / (h.1 a0 25)).toNatClampNeg) (qm_irem x1 (h.1 a0 25)) h) fun r2 h1 =>
  if r2 &&& 1 = r2 then some (r2, h1) else none
def qX12_strength  (a0 : Nat) (x1 : Int32) (h : qm_H) : Option (Int32 × qm_H) :=
  if (h.1 a0 25) = 0 then none else
  qm_let (x1 / (h.1 a0 25)) fun v1 =>
  if (h.1 a0 25) = 0 then none else
  qm_let ((8 : Int32) + (qm_irem x1 (h.1 a0 25))) fun v2 =>
  if v1 < 0 ∨ 16 ≤ (v1).toNatClampNeg then none else
  if v2 < 0 ∨ 16 ≤ (v2).toNatClampNeg then none else
  if v1 < 0 ∨ 16 ≤ (v1).toNatClampNeg then none else
  if v2 < 0 ∨ 16 ≤ (v2).toNatClampNeg then none else
  qm_b2 (qX12_greater (0 : Int32) ((((h.1 (a0 + 12) (v1).toNatClampNeg) + (h.1 (a0 + 12) (v2).toNatClampNeg)) - (h.1 (a0 + 13) (v1).toNatClampNeg)) - (h.1 (a0 + 13) (v2).toNatClampNeg)) h) fun r4 h3 =>
  if (h3.1 a0 28) = (1 : Int32) then
  some ((r4 / (2 : Int32)), h3)
  else
  some (r4, h3)
def qX12_openMany_4  (fuel : Nat) (a0 : Nat) (x1 : Int32) (x2 : Int32) (h : qm_H) : Option (Int32 × qm_H) := match fuel with
  | 0 => none
  | n + 1 =>
    if x2 < (h.1 a0 26) then
    if x2 < 0 ∨ 8 ≤ (x2).toNatClampNeg then none else
    qm_b2 (qX12_ones (h.1 (a0 + 14) (x2).toNatClampNeg) h) fun r2 h1 =>
    (qX12_openMany_4 n) a0 (x1 + r2) (x2 + (1 : Int32)) h1
    else
    some (x1, h)
def qX12_openMany  (a0 : Nat) (h : qm_H) : Option (Int32 × qm_H) :=
  qX12_openMany_4 qm_N a0 (0 : Int32) (0 : Int32) h
def qX12_isSize  (x0 : Int32) (x1 : Int32) (h : qm_H) : Option (Int32 × qm_H) :=
  qm_b2 (qX12_in x0 (1 : Int32) (8 : Int32) h) fun r2 h1 =>
  if r2 = (0 : Int32) then
  some ((0 : Int32), h1)
  else
  qm_b2 (qX12_in x1 (1 : Int32) (8 : Int32) h1) fun r4 h3 =>
  if r4 = (0 : Int32) then
  some ((0 : Int32), h3)
  else
  some ((1 : Int32), h3)
def qX12_isWithin  (a0 : Nat) (x1 : Int32) (x2 : Int32) (h : qm_H) : Option (Int32 × qm_H) :=
  if (h.1 a0 25) < x1 then
  some ((0 : Int32), h)
  else
  if (h.1 a0 26) < x2 then
  some ((0 : Int32), h)
  else
  some ((1 : Int32), h)
def qX12_isPlace  (a0 : Nat) (x1 : Int32) (x2 : Int32) (x3 : Int32) (h : qm_H) : Option (Int32 × qm_H) :=
  if (h.1 a0 25) = 0 then none else
  if (h.1 a0 25) < ((qm_irem x1 (h.1 a0 25)) + x2) then
  some ((0 : Int32), h)
  else
  if (h.1 a0 25) = 0 then none else
  if (h.1 a0 26) < ((x1 / (h.1 a0 25)) + x3) then
  some ((0 : Int32), h)
  else
  some ((1 : Int32), h)
def qX12_holdsAt_6  (fuel : Nat) (a0 : Nat) (x1 : Int32) (x2 : Int32) (x3 : Int32) (x4 : Int32) (x5 : Int32) (x6 : Int32) (h : qm_H) : Option (Int32 × qm_H) := match fuel with
  | 0 => none
  | n + 1 =>
    if x6 < (x2 * x3) then
    if x2 = 0 then none else
    if x2 = 0 then none else
    qm_let ((x1 + ((x6 / x2) * (h.1 a0 25))) + (qm_irem x6 x2)) fun v1 =>
    qm_b2 (qX12_isOpen a0 v1 h) fun r3 h2 =>
    if r3 = (0 : Int32) then
    if x4 = (0 : Int32) then
    qm_b2 (qX12_strength a0 v1 h2) fun r5 h4 =>
    (qX12_holdsAt_6 n) a0 x1 x2 x3 x4 (x5 + r5) (x6 + (1 : Int32)) h4
    else
    qm_let (x5 + (1 : Int32)) fun v6 =>
    (qX12_holdsAt_6 n) a0 x1 x2 x3 x4 v6 (x6 + (1 : Int32)) h2
    else
    qm_let (x5 + (0 : Int32)) fun v7 =>
    (qX12_holdsAt_6 n) a0 x1 x2 x3 x4 v7 (x6 + (1 : Int32)) h2
    else
    some (x5, h)
def qX12_holdsAt  (a0 : Nat) (x1 : Int32) (x2 : Int32) (x3 : Int32) (x4 : Int32) (h : qm_H) : Option (Int32 × qm_H) :=
  qX12_holdsAt_6 qm_N a0 x1 x2 x3 x4 (0 : Int32) (0 : Int32) h
def qX12_slipsBy_2  (fuel : Nat) (a0 : Nat) (x1 : Int32) (x2 : Int32) (x3 : Int32) (h : qm_H) : Option (Int32 × qm_H) := match fuel with
  | 0 => none
  | n + 1 =>
    if x3 < (h.1 a0 27) then
    qm_b2 (qX12_isPlace a0 x3 x1 x2 h) fun r2 h1 =>
    if r2 = (0 : Int32) then
    (qX12_slipsBy_2 n) a0 x1 x2 (x3 + (1 : Int32)) h1
    else
    qm_b2 (qX12_holdsAt a0 x3 x1 x2 (1 : Int32) h1) fun r4 h3 =>
    if r4 = (0 : Int32) then
    some (x3, h3)
    else
    (qX12_slipsBy_2 n) a0 x1 x2 (x3 + (1 : Int32)) h3
    else
    some ((-1 : Int32), h)
def qX12_slipsBy  (a0 : Nat) (x1 : Int32) (x2 : Int32) (h : qm_H) : Option (Int32 × qm_H) :=
  qX12_slipsBy_2 qm_N a0 x1 x2 (0 : Int32) h
def qX12_weakest_6  (fuel : Nat) (a0 : Nat) (x1 : Int32) (x2 : Int32) (x3 : Int32) (x4 : Int32) (x5 : Int32) (h : qm_H) : Option (Int32 × qm_H) := match fuel with
  | 0 => none
  | n + 1 =>
    if x5 < (h.1 a0 27) then
    qm_b2 (qX12_isPlace a0 x5 x1 x2 h) fun r2 h1 =>
    if r2 = (0 : Int32) then
    if (0 : Int32) = (0 : Int32) then
    (qX12_weakest_6 n) a0 x1 x2 x3 x4 (x5 + (1 : Int32)) h1
    else
    (qX12_weakest_6 n) a0 x1 x2 x3 x5 (x5 + (1 : Int32)) h1
    else
    if x4 = (-1 : Int32) then
    if (1 : Int32) = (0 : Int32) then
    (qX12_weakest_6 n) a0 x1 x2 x3 x4 (x5 + (1 : Int32)) h1
    else
    (qX12_weakest_6 n) a0 x1 x2 x3 x5 (x5 + (1 : Int32)) h1
    else
    qm_b2 (qX12_holdsAt a0 x5 x1 x2 x3 h1) fun r4 h3 =>
    qm_b2 (qX12_holdsAt a0 x4 x1 x2 x3 h3) fun r6 h5 =>
    if r4 < r6 then
    if (1 : Int32) = (0 : Int32) then
    (qX12_weakest_6 n) a0 x1 x2 x3 x4 (x5 + (1 : Int32)) h5
    else
    (qX12_weakest_6 n) a0 x1 x2 x3 x5 (x5 + (1 : Int32)) h5
    else
    if (0 : Int32) = (0 : Int32) then
    (qX12_weakest_6 n) a0 x1 x2 x3 x4 (x5 + (1 : Int32)) h5
    else
    (qX12_weakest_6 n) a0 x1 x2 x3 x5 (x5 + (1 : Int32)) h5
    else
    some (x4, h)
def qX12_weakest  (a0 : Nat) (x1 : Int32) (x2 : Int32) (x3 : Int32) (h : qm_H) : Option (Int32 × qm_H) :=
  qX12_weakest_6 qm_N a0 x1 x2 x3 (-1 : Int32) (0 : Int32) h
def qX12_ofRods  (a0 : Nat) (x1 : Int32) (h : qm_H) : Option (Int32 × qm_H) :=
  qm_let (qm_irem x1 (10 : Int32)) fun v1 =>
  if (x1 / (10 : Int32)) = (1 : Int32) then
  if v1 < (h.1 a0 26) then
  if v1 < 0 ∨ 16 ≤ (v1).toNatClampNeg then none else
  some ((h.1 (a0 + 12) (v1).toNatClampNeg), h)
  else
  some ((-2 : Int32), h)
  else if (x1 / (10 : Int32)) = (2 : Int32) then
  if v1 < (h.1 a0 26) then
  if v1 < 0 ∨ 16 ≤ (v1).toNatClampNeg then none else
  some ((h.1 (a0 + 13) (v1).toNatClampNeg), h)
  else
  some ((-2 : Int32), h)
  else if (x1 / (10 : Int32)) = (3 : Int32) then
  if v1 < (h.1 a0 25) then
  if ((8 : Int32) + v1) < 0 ∨ 16 ≤ ((8 : Int32) + v1).toNatClampNeg then none else
  some ((h.1 (a0 + 12) ((8 : Int32) + v1).toNatClampNeg), h)
  else
  some ((-2 : Int32), h)
  else if (x1 / (10 : Int32)) = (4 : Int32) then
  if v1 < (h.1 a0 25) then
  if ((8 : Int32) + v1) < 0 ∨ 16 ≤ ((8 : Int32) + v1).toNatClampNeg then none else
  some ((h.1 (a0 + 13) ((8 : Int32) + v1).toNatClampNeg), h)
  else
  some ((-2 : Int32), h)
  else 
  qm_b2 (qX12_in x1 (100 : Int32) ((99 : Int32) + (h.1 a0 27)) h) fun r3 h2 =>
  if r3 = (0 : Int32) then
  some ((-2 : Int32), h2)
  else
  qm_b2 (qX12_isOpen a0 (x1 - (100 : Int32)) h2) fun r5 h4 =>
  if r5 = (0 : Int32) then
  qm_b2 (qX12_strength a0 (x1 - (100 : Int32)) h4) fun r7 h6 =>
  some (r7, h6)
  else
  some ((-1 : Int32), h4)
def qX12_basket  (a0 : Nat) (x1 : Int32) (x2 : Int32) (h : qm_H) : Option (Int32 × qm_H) :=
  qm_let (qm_seti h a0 0 (0 : Int32)) fun h1 =>
  qm_b2 (qX12_hand a0 x1 h1) fun r3 h2 =>
  if r3 = (0 : Int32) then
  some ((-2 : Int32), h2)
  else
  qm_b2 (qX12_in x2 (0 : Int32) (2 : Int32) h2) fun r5 h4 =>
  if r5 = (0 : Int32) then
  if x2 = (3 : Int32) then
  qm_b2 (qX12_openMany a0 h4) fun r9 h8 =>
  some (r9, h8)
  else
  if x2 < (10 : Int32) then
  some ((-2 : Int32), h4)
  else
  qm_b2 (qX12_ofRods a0 x2 h4) fun r7 h6 =>
  some (r7, h6)
  else
  qm_b2 (qX12_of a0 x2 h4) fun r11 h10 =>
  some (r11, h10)
def qX12_slips  (a0 : Nat) (x1 : Int32) (x2 : Int32) (x3 : Int32) (x4 : Int32) (h : qm_H) : Option (Int32 × qm_H) :=
  qm_let (qm_seti h a0 0 (0 : Int32)) fun h1 =>
  qm_b2 (qX12_isSize x2 x3 h1) fun r3 h2 =>
  if r3 = (0 : Int32) then
  some ((-2 : Int32), h2)
  else
  qm_b2 (qX12_hand a0 x1 h2) fun r5 h4 =>
  if r5 = (0 : Int32) then
  some ((-2 : Int32), h4)
  else
  qm_b2 (qX12_slipsBy a0 x2 x3 h4) fun r7 h6 =>
  if x4 = (0 : Int32) then
  some (r7, h6)
  else
  if r7 = (-1 : Int32) then
  qm_b2 (qX12_isWithin a0 x2 x3 h6) fun r9 h8 =>
  if r9 = (0 : Int32) then
  some ((-1 : Int32), h8)
  else
  qm_b2 (qX12_weakest a0 x2 x3 (0 : Int32) h8) fun r11 h10 =>
  qm_b2 (qX12_holdsAt a0 r11 x2 x3 (0 : Int32) h10) fun r13 h12 =>
  some (r13, h12)
  else
  some ((-1 : Int32), h6)
def qX12_deeds  (a0 : Nat) (h : qm_H) : Option (Int32 × qm_H) :=
  if ((161 : Int32) * (h.1 a0 32)) < 0 ∨ 1288 ≤ ((161 : Int32) * (h.1 a0 32)).toNatClampNeg then none else
  some ((h.1 (a0 + 7) ((161 : Int32) * (h.1 a0 32)).toNatClampNeg), h)
def qX12_deedOf  (a0 : Nat) (x1 : Int32) (x2 : Int32) (h : qm_H) : Option (Int32 × qm_H) :=
  if (((((161 : Int32) * (h.1 a0 32)) + (1 : Int32)) + ((4 : Int32) * x1)) + x2) < 0 ∨ 1288 ≤ (((((161 : Int32) * (h.1 a0 32)) + (1 : Int32)) + ((4 : Int32) * x1)) + x2).toNatClampNeg then none else
  some ((h.1 (a0 + 7) (((((161 : Int32) * (h.1 a0 32)) + (1 : Int32)) + ((4 : Int32) * x1)) + x2).toNatClampNeg), h)
def qX12_hasYear  (a0 : Nat) (x1 : Int32) (h : qm_H) : Option (Int32 × qm_H) :=
  qm_b2 (qX12_is a0 (1 : Int32) x1 (qm_seti h a0 32 x1)) fun r2 h1 =>
  if r2 &&& 1 = r2 then some (r2, h1) else none
def qX12_deed  (a0 : Nat) (x1 : Int32) (x2 : Int32) (x3 : Int32) (h : qm_H) : Option (Int32 × qm_H) :=
  qm_let (qm_seti h a0 0 (0 : Int32)) fun h1 =>
  qm_b2 (qX12_hasYear a0 x1 h1) fun r3 h2 =>
  if r3 = (0 : Int32) then
  some ((-2 : Int32), h2)
  else
  if x2 = (-1 : Int32) then
  if x3 = (0 : Int32) then
  qm_b2 (qX12_deeds a0 h2) fun r13 h12 =>
  some (r13, h12)
  else
  some ((-2 : Int32), h2)
  else
  qm_b2 (qX12_deeds a0 h2) fun r5 h4 =>
  qm_b2 (qX12_in x2 (0 : Int32) (r5 - (1 : Int32)) h4) fun r7 h6 =>
  if r7 = (0 : Int32) then
  some ((-2 : Int32), h6)
  else
  qm_b2 (qX12_in x3 (0 : Int32) (3 : Int32) h6) fun r9 h8 =>
  if r9 = (0 : Int32) then
  some ((-2 : Int32), h8)
  else
  qm_b2 (qX12_deedOf a0 x2 x3 h8) fun r11 h10 =>
  some (r11, h10)
def qX12_begin_2  (fuel : Nat) (a0 : Nat) (x1 : Int32) (h : qm_H) : Option (qm_H) := match fuel with
  | 0 => none
  | n + 1 =>
    if x1 < (3 : Int32) then
    if x1 < 0 ∨ 3 ≤ (x1).toNatClampNeg then none else
    qm_let (qm_seti h (a0 + 15) (x1).toNatClampNeg (0 : Int32)) fun h1 =>
    (qX12_begin_2 n) a0 (x1 + (1 : Int32)) h1
    else
    some h
def qX12_begin  (a0 : Nat) (h : qm_H) : Option (qm_H) :=
  qX12_begin_2 qm_N a0 (0 : Int32) h
def qX12_comes_65  (fuel : Nat) (a0 : Nat) (x1 : Int32) (x2 : Int32) (x4 : Int32) (x5 : Int32) (h : qm_H) : Option (Int32 × qm_H) := match fuel with
  | 0 => none
  | n + 1 =>
    if x5 < x2 then
    if (h.1 a0 25) = 0 then none else
    if ((x4 / (h.1 a0 25)) + x5) < 0 ∨ 8 ≤ ((x4 / (h.1 a0 25)) + x5).toNatClampNeg then none else
    if (h.1 a0 25) = 0 then none else
    if ((x4 / (h.1 a0 25)) + x5) < 0 ∨ 8 ≤ ((x4 / (h.1 a0 25)) + x5).toNatClampNeg then none else
    qm_let (qm_seti h (a0 + 14) ((x4 / (h.1 a0 25)) + x5).toNatClampNeg ((h.1 (a0 + 14) ((x4 / (h.1 a0 25)) + x5).toNatClampNeg) ||| (qm_ishl ((qm_ishl (1 : Int32) x1) - (1 : Int32)) (qm_irem x4 (h.1 a0 25))))) fun h2 =>
    (qX12_comes_65 n) a0 x1 x2 x4 (x5 + (1 : Int32)) h2
    else
    qm_let (qm_seti h (a0 + 15) (1 : Int32).toNatClampNeg ((h.1 (a0 + 15) (1 : Int32).toNatClampNeg) + (1 : Int32))) fun h1 =>
    some ((1 : Int32), h1)
def qX12_comes  (a0 : Nat) (x1 : Int32) (x2 : Int32) (x3 : Int32) (h : qm_H) : Option (Int32 × qm_H) :=
  qm_b2 (qX12_slipsBy a0 x1 x2 h) fun r2 h1 =>
  if r2 = (-1 : Int32) then
  qm_b2 (qX12_weakest a0 x1 x2 (0 : Int32) h1) fun r4 h3 =>
  if r4 = (-1 : Int32) then
  qm_let (qm_seti h3 (a0 + 15) (2 : Int32).toNatClampNeg ((h3.1 (a0 + 15) (2 : Int32).toNatClampNeg) + (1 : Int32))) fun h5 =>
  some ((1 : Int32), h5)
  else
  qm_b2 (qX12_holdsAt a0 r4 x1 x2 (0 : Int32) h3) fun r7 h6 =>
  if r7 < x3 then
  qX12_comes_65 qm_N a0 x1 x2 r4 (0 : Int32) h6
  else
  qm_let (qm_seti h6 (a0 + 15) (2 : Int32).toNatClampNeg ((h6.1 (a0 + 15) (2 : Int32).toNatClampNeg) + (1 : Int32))) fun h8 =>
  some ((1 : Int32), h8)
  else
  qm_let (qm_seti h1 (a0 + 15) (0 : Int32).toNatClampNeg ((h1.1 (a0 + 15) (0 : Int32).toNatClampNeg) + (1 : Int32))) fun h9 =>
  some ((1 : Int32), h9)
def qX12_tends_67  (a0 : Nat) (x1 : Int32) (x4 : Int32) (xs0 : Int32) (xs1 : Int32) (xs2 : Int32) (as3 : Nat) (h : qm_H) : Option (Int32 × qm_H) :=
  if xs2 < 0 ∨ 16 ≤ (xs2).toNatClampNeg then none else
  qm_let (qm_seti h as3 (xs2).toNatClampNeg (xs1 + xs0)) fun h1 =>
  if x1 = (1 : Int32) then
  if x4 < 0 ∨ 16 ≤ (x4).toNatClampNeg then none else
  qm_let (qm_seti h1 (a0 + 13) (x4).toNatClampNeg (0 : Int32)) fun h3 =>
  some ((1 : Int32), h3)
  else
  if x4 < 0 ∨ 16 ≤ (x4).toNatClampNeg then none else
  if x4 < 0 ∨ 16 ≤ (x4).toNatClampNeg then none else
  qm_let (qm_seti h1 (a0 + 13) (x4).toNatClampNeg (h1.1 (a0 + 13) (x4).toNatClampNeg)) fun h2 =>
  some ((1 : Int32), h2)
def qX12_tends_17  (a0 : Nat) (x1 : Int32) (x2 : Int32) (x3 : Int32) (xs0 : Int32) (xs1 : Int32) (h : qm_H) : Option (Int32 × qm_H) :=
  if xs1 < xs0 then
  qm_let (((8 : Int32) * x2) + x3) fun v1 =>
  if x1 = (2 : Int32) then
  if v1 < 0 ∨ 16 ≤ (v1).toNatClampNeg then none else
  if (h.1 (a0 + 12) (v1).toNatClampNeg) = (9 : Int32) then
  some ((0 : Int32), h)
  else
  if v1 < 0 ∨ 16 ≤ (v1).toNatClampNeg then none else
  if x1 = (2 : Int32) then
  qX12_tends_67 a0 x1 v1 (1 : Int32) (h.1 (a0 + 12) (v1).toNatClampNeg) v1 (a0 + 12) h
  else
  qX12_tends_67 a0 x1 v1 (0 : Int32) (h.1 (a0 + 12) (v1).toNatClampNeg) v1 (a0 + 12) h
  else
  if v1 < 0 ∨ 16 ≤ (v1).toNatClampNeg then none else
  if x1 = (2 : Int32) then
  qX12_tends_67 a0 x1 v1 (1 : Int32) (h.1 (a0 + 12) (v1).toNatClampNeg) v1 (a0 + 12) h
  else
  qX12_tends_67 a0 x1 v1 (0 : Int32) (h.1 (a0 + 12) (v1).toNatClampNeg) v1 (a0 + 12) h
  else
  some ((0 : Int32), h)
def qX12_tends  (a0 : Nat) (x1 : Int32) (x2 : Int32) (x3 : Int32) (h : qm_H) : Option (Int32 × qm_H) :=
  if x2 = (1 : Int32) then
  qX12_tends_17 a0 x1 x2 x3 (h.1 a0 25) x3 h
  else
  qX12_tends_17 a0 x1 x2 x3 (h.1 a0 26) x3 h
def qX12_weaves  (a0 : Nat) (x1 : Int32) (x2 : Int32) (h : qm_H) : Option (Int32 × qm_H) :=
  if x1 < (h.1 a0 25) then
  if x2 < (h.1 a0 26) then
  if x2 < 0 ∨ 8 ≤ (x2).toNatClampNeg then none else
  qm_b2 (qX12_has (h.1 (a0 + 14) (x2).toNatClampNeg) x1 h) fun r2 h1 =>
  if r2 = (0 : Int32) then
  some ((0 : Int32), h1)
  else
  if x2 < 0 ∨ 8 ≤ (x2).toNatClampNeg then none else
  if x2 < 0 ∨ 8 ≤ (x2).toNatClampNeg then none else
  qm_let (qm_seti h1 (a0 + 14) (x2).toNatClampNeg ((h1.1 (a0 + 14) (x2).toNatClampNeg) &&& ((qm_ishl (1 : Int32) x1) ^^^ (-1 : Int32)))) fun h3 =>
  some ((1 : Int32), h3)
  else
  some ((0 : Int32), h)
  else
  some ((0 : Int32), h)
def qX12_winters_2  (fuel : Nat) (a0 : Nat) (x1 : Int32) (h : qm_H) : Option (Int32 × qm_H) := match fuel with
  | 0 => none
  | n + 1 =>
    if x1 < (16 : Int32) then
    if x1 < 0 ∨ 16 ≤ (x1).toNatClampNeg then none else
    qm_b2 (qX12_lesser (9 : Int32) ((h.1 (a0 + 13) (x1).toNatClampNeg) + (1 : Int32)) h) fun r2 h1 =>
    if x1 < 0 ∨ 16 ≤ (x1).toNatClampNeg then none else
    qm_let (qm_seti h1 (a0 + 13) (x1).toNatClampNeg r2) fun h3 =>
    (qX12_winters_2 n) a0 (x1 + (1 : Int32)) h3
    else
    some ((1 : Int32), h)
def qX12_winters  (a0 : Nat) (h : qm_H) : Option (Int32 × qm_H) :=
  qX12_winters_2 qm_N a0 (0 : Int32) h
def qX12_soaks  (a0 : Nat) (x1 : Int32) (h : qm_H) : Option (Int32 × qm_H) :=
  if (h.1 a0 28) = x1 then
  some ((0 : Int32), (qm_seti h a0 28 x1))
  else
  some ((1 : Int32), (qm_seti h a0 28 x1))
def qX12_does_76  (xs0 : Int32) (as1 : Nat) (h : qm_H) : Option (Int32 × qm_H) :=
  qm_b2 (qX12_soaks as1 xs0 h) fun r2 h1 =>
  if r2 &&& 1 = r2 then some (r2, h1) else none
def qX12_does_45  (a0 : Nat) (x1 : Int32) (x2 : Int32) (x3 : Int32) (h : qm_H) : Option (Int32 × qm_H) :=
  qm_b2 (qX12_tends a0 x1 x2 x3 h) fun r2 h1 =>
  if r2 &&& 1 = r2 then some (r2, h1) else none
def qX12_does  (a0 : Nat) (x1 : Int32) (x2 : Int32) (x3 : Int32) (x4 : Int32) (h : qm_H) : Option (Int32 × qm_H) :=
  if x1 = (0 : Int32) then
  qm_b2 (qX12_comes a0 x2 x3 x4 h) fun r2 h1 =>
  if r2 &&& 1 = r2 then some (r2, h1) else none
  else if x1 = (1 : Int32) then
  qX12_does_45 a0 x1 x2 x3 h
  else if x1 = (2 : Int32) then
  qX12_does_45 a0 x1 x2 x3 h
  else if x1 = (3 : Int32) then
  qm_b2 (qX12_weaves a0 x2 x3 h) fun r4 h3 =>
  if r4 &&& 1 = r4 then some (r4, h3) else none
  else if x1 = (4 : Int32) then
  qm_b2 (qX12_winters a0 h) fun r6 h5 =>
  if r6 &&& 1 = r6 then some (r6, h5) else none
  else 
  if x1 = (5 : Int32) then
  qX12_does_76 (1 : Int32) a0 h
  else
  qX12_does_76 (0 : Int32) a0 h
def qX12_doesDeed  (a0 : Nat) (x1 : Int32) (h : qm_H) : Option (Int32 × qm_H) :=
  qm_b2 (qX12_deedOf a0 x1 (0 : Int32) h) fun r2 h1 =>
  qm_b2 (qX12_deedOf a0 x1 (1 : Int32) h1) fun r4 h3 =>
  qm_b2 (qX12_deedOf a0 x1 (2 : Int32) h3) fun r6 h5 =>
  qm_b2 (qX12_deedOf a0 x1 (3 : Int32) h5) fun r8 h7 =>
  qm_b2 (qX12_does a0 r2 r4 r6 r8 h7) fun r10 h9 =>
  if r10 &&& 1 = r10 then some (r10, h9) else none
def qX12_play_6  (fuel : Nat) (a0 : Nat) (x1 : Int32) (x2 : Int32) (h : qm_H) : Option (Int32 × qm_H) := match fuel with
  | 0 => none
  | n + 1 =>
    if x2 < x1 then
    qm_b2 (qX12_doesDeed a0 x2 h) fun r2 h1 =>
    if r2 = (0 : Int32) then
    some (x2, h1)
    else
    (qX12_play_6 n) a0 x1 (x2 + (1 : Int32)) h1
    else
    some (x2, h)
