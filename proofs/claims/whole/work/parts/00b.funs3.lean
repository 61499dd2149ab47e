def qX12_play  (a0 : Nat) (x1 : Int32) (h : qm_H) : Option (Int32 × qm_H) :=
  (qX12_begin a0 h).bind fun h1 =>
  qX12_play_6 qm_N a0 x1 (0 : Int32) h1
def qX12_layAll  (a0 : Nat) (x1 : Int32) (x2 : Int32) (h : qm_H) : Option (Int32 × qm_H) :=
  qm_b2 (qX12_hasYear a0 x2 h) fun r2 h1 =>
  if r2 = (0 : Int32) then
  some ((0 : Int32), h1)
  else
  qm_b2 (qX12_hand a0 x1 h1) fun r4 h3 =>
  if r4 = (0 : Int32) then
  some ((0 : Int32), h3)
  else
  some ((1 : Int32), h3)
def qX12_till  (a0 : Nat) (x1 : Int32) (x2 : Int32) (h : qm_H) : Option (Int32 × qm_H) :=
  qm_let (qm_seti h a0 0 (0 : Int32)) fun h1 =>
  qm_b2 (qX12_layAll a0 x1 x2 h1) fun r3 h2 =>
  if r3 = (0 : Int32) then
  some ((-1 : Int32), h2)
  else
  qm_b2 (qX12_deeds a0 h2) fun r5 h4 =>
  qm_b2 (qX12_play a0 r5 h4) fun r7 h6 =>
  some (r7, h6)
def qX12_allStrength_4  (fuel : Nat) (a0 : Nat) (x1 : Int32) (x2 : Int32) (h : qm_H) : Option (Int32 × qm_H) := match fuel with
  | 0 => none
  | n + 1 =>
    if x2 < (h.1 a0 27) then
    qm_b2 (qX12_isOpen a0 x2 h) fun r2 h1 =>
    if r2 = (0 : Int32) then
    qm_b2 (qX12_strength a0 x2 h1) fun r4 h3 =>
    (qX12_allStrength_4 n) a0 (x1 + r4) (x2 + (1 : Int32)) h3
    else
    qm_let (x1 + (0 : Int32)) fun v5 =>
    (qX12_allStrength_4 n) a0 v5 (x2 + (1 : Int32)) h1
    else
    some (x1, h)
def qX12_allStrength  (a0 : Nat) (h : qm_H) : Option (Int32 × qm_H) :=
  qX12_allStrength_4 qm_N a0 (0 : Int32) (0 : Int32) h
def qX12_ofState  (a0 : Nat) (x1 : Int32) (h : qm_H) : Option (Int32 × qm_H) :=
  if x1 < (10 : Int32) then
  qm_b2 (qX12_in x1 (0 : Int32) (2 : Int32) h) fun r2 h1 =>
  if r2 = (0 : Int32) then
  if x1 = (3 : Int32) then
  qm_b2 (qX12_openMany a0 h1) fun r6 h5 =>
  some (r6, h5)
  else
  if x1 = (4 : Int32) then
  some ((h1.1 a0 28), h1)
  else
  if x1 = (5 : Int32) then
  qm_b2 (qX12_allStrength a0 h1) fun r4 h3 =>
  some (r4, h3)
  else
  some ((-2 : Int32), h1)
  else
  if x1 < 0 ∨ 3 ≤ (x1).toNatClampNeg then none else
  some ((h1.1 (a0 + 15) (x1).toNatClampNeg), h1)
  else
  qm_b2 (qX12_ofRods a0 x1 h) fun r8 h7 =>
  some (r8, h7)
def qX12_state  (a0 : Nat) (x1 : Int32) (x2 : Int32) (x3 : Int32) (x4 : Int32) (h : qm_H) : Option (Int32 × qm_H) :=
  qm_let (qm_seti h a0 0 (0 : Int32)) fun h1 =>
  qm_b2 (qX12_layAll a0 x1 x2 h1) fun r3 h2 =>
  if r3 = (0 : Int32) then
  some ((-2 : Int32), h2)
  else
  qm_b2 (qX12_deeds a0 h2) fun r5 h4 =>
  qm_b2 (qX12_in x3 (0 : Int32) r5 h4) fun r7 h6 =>
  if r7 = (0 : Int32) then
  some ((-2 : Int32), h6)
  else
  qm_b2 (qX12_play a0 x3 h6) fun r9 h8 =>
  if r9 = x3 then
  qm_b2 (qX12_ofState a0 x4 h8) fun r11 h10 =>
  some (r11, h10)
  else
  some ((-2 : Int32), h8)
def qX12_opens  (a0 : Nat) (x1 : Int32) (x2 : Int32) (x3 : Int32) (x4 : Int32) (h : qm_H) : Option (Int32 × qm_H) :=
  qm_let (qm_seti h a0 0 (0 : Int32)) fun h1 =>
  qm_b2 (qX12_isSize x2 x3 h1) fun r3 h2 =>
  if r3 = (0 : Int32) then
  some ((-1 : Int32), h2)
  else
  qm_b2 (qX12_hand a0 x1 h2) fun r5 h4 =>
  if r5 = (0 : Int32) then
  some ((-1 : Int32), h4)
  else
  qm_b2 (qX12_isWithin a0 x2 x3 h4) fun r7 h6 =>
  if r7 = (0 : Int32) then
  some ((-1 : Int32), h6)
  else
  qm_b2 (qX12_weakest a0 x2 x3 (1 : Int32) h6) fun r9 h8 =>
  if x4 = (0 : Int32) then
  qm_b2 (qX12_holdsAt a0 r9 x2 x3 (1 : Int32) h8) fun r11 h10 =>
  some (r11, h10)
  else
  some (r9, h8)
def qX12_findGaps_42 (K7 : Nat → Int32 → Int32 → Int32 → qm_H → Option (qm_H)) (fuel : Nat) (a0 : Nat) (x1 : Int32) (x2 : Int32) (x3 : Int32) (l4 : Int64) (x6 : Int32) (h : qm_H) : Option (qm_H) := match fuel with
  | 0 => none
  | n + 1 =>
    if x6 < (x1 * x2) then
    if x1 = 0 then none else
    if x1 = 0 then none else
    qm_let (l4 ||| (qm_lshl (1 : Int64) ((x3 + ((x6 / x1) * (h.1 a0 25))) + (qm_irem x6 x1)))) fun v3 =>
    (qX12_findGaps_42 K7 n) a0 x1 x2 x3 v3 (x6 + (1 : Int32)) h
    else
    if (h.1 a0 35) < 0 ∨ 64 ≤ (h.1 a0 35).toNatClampNeg then none else
    qm_let (qm_setl h (a0 + 16) (h.1 a0 35).toNatClampNeg l4) fun h1 =>
    qm_let (qm_seti h1 a0 35 ((h1.1 a0 35) + (1 : Int32))) fun h2 =>
    K7 a0 x1 x2 (x3 + (1 : Int32)) h2
def qX12_findGaps_7  (fuel : Nat) (a0 : Nat) (x1 : Int32) (x2 : Int32) (x3 : Int32) (h : qm_H) : Option (qm_H) := match fuel with
  | 0 => none
  | n + 1 =>
    if x3 < (h.1 a0 27) then
    qm_b2 (qX12_isPlace a0 x3 x1 x2 h) fun r2 h1 =>
    if r2 = (0 : Int32) then
    (qX12_findGaps_7 n) a0 x1 x2 (x3 + (1 : Int32)) h1
    else
    qm_b2 (qX12_holdsAt a0 x3 x1 x2 (1 : Int32) h1) fun r4 h3 =>
    if r4 = (0 : Int32) then
    qX12_findGaps_42 (qX12_findGaps_7 n) qm_N a0 x1 x2 x3 (0 : Int64) (0 : Int32) h3
    else
    (qX12_findGaps_7 n) a0 x1 x2 (x3 + (1 : Int32)) h3
    else
    some h
def qX12_findGaps  (a0 : Nat) (x1 : Int32) (x2 : Int32) (h : qm_H) : Option (qm_H) :=
  qm_let (qm_seti h a0 35 (0 : Int32)) fun h1 =>
  qX12_findGaps_7 qm_N a0 x1 x2 (0 : Int32) h1
def qX12_areClosed_2  (fuel : Nat) (a0 : Nat) (l1 : Int64) (x3 : Int32) (h : qm_H) : Option (Int32 × qm_H) := match fuel with
  | 0 => none
  | n + 1 =>
    if x3 < (h.1 a0 35) then
    if x3 < 0 ∨ 64 ≤ (x3).toNatClampNeg then none else
    if (lg_cmp ((h.2 (a0 + 16) (x3).toNatClampNeg) &&& l1) (0 : Int64)) = (0 : Int32) then
    some ((0 : Int32), h)
    else
    (qX12_areClosed_2 n) a0 l1 (x3 + (1 : Int32)) h
    else
    some ((1 : Int32), h)
def qX12_areClosed  (a0 : Nat) (l1 : Int64) (h : qm_H) : Option (Int32 × qm_H) :=
  qX12_areClosed_2 qm_N a0 l1 (0 : Int32) h
def qX12_doClose_189 (K19 : Nat → Int32 → Int32 → qm_H → Option (Int32 × qm_H)) (K43 : Nat → Int32 → Int32 → Int32 → qm_H → Option (Int32 × qm_H)) (K81 : Nat → Int32 → Int32 → Int32 → Int32 → qm_H → Option (Int32 × qm_H)) (a0 : Nat) (x1 : Int32) (x2 : Int32) (x3 : Int32) (x4 : Int32) (x5 : Int32) (ls0 : Int64) (ls1 : Int64) (h : qm_H) : Option (Int32 × qm_H) :=
  qm_let (ls1 ||| ls0) fun v1 =>
  if x5 = (0 : Int32) then
  K81 a0 x1 x2 x3 (x4 + (1 : Int32)) h
  else
  qm_b2 (qX12_areClosed a0 v1 h) fun r3 h2 =>
  if r3 = (0 : Int32) then
  K81 a0 x1 x2 x3 (x4 + (1 : Int32)) h2
  else
  qm_let (qm_seti h2 (a0 + 17) (0 : Int32).toNatClampNeg x2) fun h4 =>
  qm_let (qm_seti h4 (a0 + 17) (1 : Int32).toNatClampNeg x3) fun h5 =>
  qm_let (qm_seti h5 (a0 + 17) (2 : Int32).toNatClampNeg x4) fun h6 =>
  some ((1 : Int32), h6)
def qX12_doClose_151 (K19 : Nat → Int32 → Int32 → qm_H → Option (Int32 × qm_H)) (K43 : Nat → Int32 → Int32 → Int32 → qm_H → Option (Int32 × qm_H)) (K81 : Nat → Int32 → Int32 → Int32 → Int32 → qm_H → Option (Int32 × qm_H)) (a0 : Nat) (x1 : Int32) (x2 : Int32) (x3 : Int32) (x4 : Int32) (xs0 : Int32) (h : qm_H) : Option (Int32 × qm_H) :=
  if x3 = (h.1 a0 27) then
  if x4 = (h.1 a0 27) then
  qX12_doClose_189 K19 K43 K81 a0 x1 x2 x3 x4 xs0 (0 : Int64) ((qm_lshl (1 : Int64) x2) ||| (0 : Int64)) h
  else
  qX12_doClose_189 K19 K43 K81 a0 x1 x2 x3 x4 xs0 (qm_lshl (1 : Int64) x4) ((qm_lshl (1 : Int64) x2) ||| (0 : Int64)) h
  else
  if x4 = (h.1 a0 27) then
  qX12_doClose_189 K19 K43 K81 a0 x1 x2 x3 x4 xs0 (0 : Int64) ((qm_lshl (1 : Int64) x2) ||| (qm_lshl (1 : Int64) x3)) h
  else
  qX12_doClose_189 K19 K43 K81 a0 x1 x2 x3 x4 xs0 (qm_lshl (1 : Int64) x4) ((qm_lshl (1 : Int64) x2) ||| (qm_lshl (1 : Int64) x3)) h
def qX12_doClose_128 (K19 : Nat → Int32 → Int32 → qm_H → Option (Int32 × qm_H)) (K43 : Nat → Int32 → Int32 → Int32 → qm_H → Option (Int32 × qm_H)) (K81 : Nat → Int32 → Int32 → Int32 → Int32 → qm_H → Option (Int32 × qm_H)) (a0 : Nat) (x1 : Int32) (x2 : Int32) (x3 : Int32) (x4 : Int32) (h : qm_H) : Option (Int32 × qm_H) :=
  if x4 = (h.1 a0 27) then
  qX12_doClose_151 K19 K43 K81 a0 x1 x2 x3 x4 (1 : Int32) h
  else
  qm_b2 (qX12_isOpen a0 x4 h) fun r2 h1 =>
  if r2 = (0 : Int32) then
  qX12_doClose_151 K19 K43 K81 a0 x1 x2 x3 x4 (0 : Int32) h1
  else
  qX12_doClose_151 K19 K43 K81 a0 x1 x2 x3 x4 (1 : Int32) h1
def qX12_doClose_104 (K19 : Nat → Int32 → Int32 → qm_H → Option (Int32 × qm_H)) (K43 : Nat → Int32 → Int32 → Int32 → qm_H → Option (Int32 × qm_H)) (K81 : Nat → Int32 → Int32 → Int32 → Int32 → qm_H → Option (Int32 × qm_H)) (a0 : Nat) (x1 : Int32) (x2 : Int32) (x3 : Int32) (x4 : Int32) (h : qm_H) : Option (Int32 × qm_H) :=
  qm_b2 (qX12_isOpen a0 x2 h) fun r2 h1 =>
  if r2 = (0 : Int32) then
  qX12_doClose_151 K19 K43 K81 a0 x1 x2 x3 x4 (0 : Int32) h1
  else
  if x3 = (h1.1 a0 27) then
  qX12_doClose_128 K19 K43 K81 a0 x1 x2 x3 x4 h1
  else
  qm_b2 (qX12_isOpen a0 x3 h1) fun r4 h3 =>
  if r4 = (0 : Int32) then
  qX12_doClose_151 K19 K43 K81 a0 x1 x2 x3 x4 (0 : Int32) h3
  else
  qX12_doClose_128 K19 K43 K81 a0 x1 x2 x3 x4 h3
def qX12_doClose_81 (K19 : Nat → Int32 → Int32 → qm_H → Option (Int32 × qm_H)) (K43 : Nat → Int32 → Int32 → Int32 → qm_H → Option (Int32 × qm_H)) (fuel : Nat) (a0 : Nat) (x1 : Int32) (x2 : Int32) (x3 : Int32) (x4 : Int32) (h : qm_H) : Option (Int32 × qm_H) := match fuel with
  | 0 => none
  | n + 1 =>
    if x4 < (h.1 a0 27) then
    qX12_doClose_104 K19 K43 (qX12_doClose_81 K19 K43 n) a0 x1 x2 x3 x4 h
    else
    if x1 < (3 : Int32) then
    if x4 = (h.1 a0 27) then
    qX12_doClose_104 K19 K43 (qX12_doClose_81 K19 K43 n) a0 x1 x2 x3 x4 h
    else
    K43 a0 x1 x2 (x3 + (1 : Int32)) h
    else
    K43 a0 x1 x2 (x3 + (1 : Int32)) h
def qX12_doClose_43 (K19 : Nat → Int32 → Int32 → qm_H → Option (Int32 × qm_H)) (fuel : Nat) (a0 : Nat) (x1 : Int32) (x2 : Int32) (x3 : Int32) (h : qm_H) : Option (Int32 × qm_H) := match fuel with
  | 0 => none
  | n + 1 =>
    if x3 < (h.1 a0 27) then
    if (2 : Int32) < x1 then
    qm_let (x3 + (1 : Int32)) fun v1 =>
    qX12_doClose_81 K19 (qX12_doClose_43 K19 n) qm_N a0 x1 x2 x3 v1 h
    else
    qX12_doClose_81 K19 (qX12_doClose_43 K19 n) qm_N a0 x1 x2 x3 (h.1 a0 27) h
    else
    if x1 = (1 : Int32) then
    if x3 = (h.1 a0 27) then
    if (2 : Int32) < x1 then
    qm_let (x3 + (1 : Int32)) fun v2 =>
    qX12_doClose_81 K19 (qX12_doClose_43 K19 n) qm_N a0 x1 x2 x3 v2 h
    else
    qX12_doClose_81 K19 (qX12_doClose_43 K19 n) qm_N a0 x1 x2 x3 (h.1 a0 27) h
    else
    K19 a0 x1 (x2 + (1 : Int32)) h
    else
    K19 a0 x1 (x2 + (1 : Int32)) h
def qX12_doClose_19  (fuel : Nat) (a0 : Nat) (x1 : Int32) (x2 : Int32) (h : qm_H) : Option (Int32 × qm_H) := match fuel with
  | 0 => none
  | n + 1 =>
    if x2 < (h.1 a0 27) then
    if (1 : Int32) < x1 then
    qm_let (x2 + (1 : Int32)) fun v1 =>
    qX12_doClose_43 (qX12_doClose_19 n) qm_N a0 x1 x2 v1 h
    else
    qX12_doClose_43 (qX12_doClose_19 n) qm_N a0 x1 x2 (h.1 a0 27) h
    else
    some ((0 : Int32), h)
def qX12_doClose  (a0 : Nat) (x1 : Int32) (h : qm_H) : Option (Int32 × qm_H) :=
  if x1 = (0 : Int32) then
  if (h.1 a0 35) = (0 : Int32) then
  some ((1 : Int32), h)
  else
  some ((0 : Int32), h)
  else
  qX12_doClose_19 qm_N a0 x1 (0 : Int32) h
def qX12_closes_32  (fuel : Nat) (a0 : Nat) (x4 : Int32) (x5 : Int32) (h : qm_H) : Option (Int32 × qm_H) := match fuel with
  | 0 => none
  | n + 1 =>
    if (3 : Int32) < x5 then
    some ((-1 : Int32), h)
    else
    qm_b2 (qX12_doClose a0 x5 h) fun r2 h1 =>
    if r2 = (0 : Int32) then
    (qX12_closes_32 n) a0 x4 (x5 + (1 : Int32)) h1
    else
    if x4 = (-1 : Int32) then
    some (x5, h1)
    else
    qm_b2 (qX12_in x4 (0 : Int32) (x5 - (1 : Int32)) h1) fun r4 h3 =>
    if r4 = (0 : Int32) then
    some ((-1 : Int32), h3)
    else
    if x4 < 0 ∨ 3 ≤ (x4).toNatClampNeg then none else
    some ((h3.1 (a0 + 17) (x4).toNatClampNeg), h3)
def qX12_closes  (a0 : Nat) (x1 : Int32) (x2 : Int32) (x3 : Int32) (x4 : Int32) (h : qm_H) : Option (Int32 × qm_H) :=
  qm_let (qm_seti h a0 0 (0 : Int32)) fun h1 =>
  qm_b2 (qX12_isSize x2 x3 h1) fun r3 h2 =>
  if r3 = (0 : Int32) then
  some ((-1 : Int32), h2)
  else
  qm_b2 (qX12_hand a0 x1 h2) fun r5 h4 =>
  if r5 = (0 : Int32) then
  some ((-1 : Int32), h4)
  else
  (qX12_findGaps a0 x2 x3 h4).bind fun h6 =>
  qX12_closes_32 qm_N a0 x4 (0 : Int32) h6
def qX12_sieve_124 (K39 : Nat → Int32 → Int32 → Int32 → Int32 → Int32 → Int32 → qm_H → Option (Int32 × qm_H)) (a0 : Nat) (x2 : Int32) (x3 : Int32) (x4 : Int32) (x5 : Int32) (x6 : Int32) (x7 : Int32) (h : qm_H) : Option (Int32 × qm_H) :=
  qm_b2 (qX12_slipsBy a0 x2 x3 h) fun r2 h1 =>
  if r2 = (-1 : Int32) then
  if (0 : Int32) = (0 : Int32) then
  K39 a0 x2 x3 x4 x5 x6 (x7 + (1 : Int32)) h1
  else
  K39 a0 x2 x3 x4 x5 x7 (x7 + (1 : Int32)) h1
  else
  qm_b2 (qX12_slipsBy a0 x4 x5 h1) fun r4 h3 =>
  if r4 = (-1 : Int32) then
  if (1 : Int32) = (0 : Int32) then
  K39 a0 x2 x3 x4 x5 x6 (x7 + (1 : Int32)) h3
  else
  K39 a0 x2 x3 x4 x5 x7 (x7 + (1 : Int32)) h3
  else
  if (0 : Int32) = (0 : Int32) then
  K39 a0 x2 x3 x4 x5 x6 (x7 + (1 : Int32)) h3
  else
  K39 a0 x2 x3 x4 x5 x7 (x7 + (1 : Int32)) h3
def qX12_sieve_53 (K39 : Nat → Int32 → Int32 → Int32 → Int32 → Int32 → Int32 → qm_H → Option (Int32 × qm_H)) (fuel : Nat) (a0 : Nat) (x2 : Int32) (x3 : Int32) (x4 : Int32) (x5 : Int32) (x6 : Int32) (x7 : Int32) (x8 : Int32) (h : qm_H) : Option (Int32 × qm_H) := match fuel with
  | 0 => none
  | n + 1 =>
    if x8 < (h.1 a0 26) then
    qm_b2 (qX12_has x7 x8 h) fun r6 h5 =>
    if r6 = (0 : Int32) then
    qm_b2 (qX12_of a0 ((35 : Int32) + x8) h5) fun r8 h7 =>
    if x8 < 0 ∨ 8 ≤ (x8).toNatClampNeg then none else
    qm_let (qm_seti h7 (a0 + 14) (x8).toNatClampNeg r8) fun h9 =>
    (qX12_sieve_53 K39 n) a0 x2 x3 x4 x5 x6 x7 (x8 + (1 : Int32)) h9
    else
    if x8 < 0 ∨ 8 ≤ (x8).toNatClampNeg then none else
    qm_let (qm_seti h5 (a0 + 14) (x8).toNatClampNeg ((qm_ishl (1 : Int32) (h5.1 a0 25)) - (1 : Int32))) fun h10 =>
    (qX12_sieve_53 K39 n) a0 x2 x3 x4 x5 x6 x7 (x8 + (1 : Int32)) h10
    else
    if x6 = (-1 : Int32) then
    qX12_sieve_124 K39 a0 x2 x3 x4 x5 x6 x7 h
    else
    qm_b2 (qX12_ones x7 h) fun r2 h1 =>
    qm_b2 (qX12_ones x6 h1) fun r4 h3 =>
    if r2 < r4 then
    qX12_sieve_124 K39 a0 x2 x3 x4 x5 x6 x7 h3
    else
    if (0 : Int32) = (0 : Int32) then
    K39 a0 x2 x3 x4 x5 x6 (x7 + (1 : Int32)) h3
    else
    K39 a0 x2 x3 x4 x5 x7 (x7 + (1 : Int32)) h3
def qX12_sieve_39  (fuel : Nat) (a0 : Nat) (x2 : Int32) (x3 : Int32) (x4 : Int32) (x5 : Int32) (x6 : Int32) (x7 : Int32) (h : qm_H) : Option (Int32 × qm_H) := match fuel with
  | 0 => none
  | n + 1 =>
    if x7 < (qm_ishl (1 : Int32) (h.1 a0 26)) then
    qX12_sieve_53 (qX12_sieve_39 n) qm_N a0 x2 x3 x4 x5 x6 x7 (0 : Int32) h
    else
    some (x6, h)
def qX12_sieve  (a0 : Nat) (x1 : Int32) (x2 : Int32) (x3 : Int32) (x4 : Int32) (x5 : Int32) (h : qm_H) : Option (Int32 × qm_H) :=
  qm_let (qm_seti h a0 0 (0 : Int32)) fun h1 =>
  qm_b2 (qX12_isSize x2 x3 h1) fun r3 h2 =>
  if r3 = (0 : Int32) then
  some ((-1 : Int32), h2)
  else
  qm_b2 (qX12_isSize x4 x5 h2) fun r5 h4 =>
  if r5 = (0 : Int32) then
  some ((-1 : Int32), h4)
  else
  qm_b2 (qX12_hand a0 x1 h4) fun r7 h6 =>
  if r7 = (0 : Int32) then
  some ((-1 : Int32), h6)
  else
  qX12_sieve_39 qm_N a0 x2 x3 x4 x5 (-1 : Int32) (0 : Int32) h6
def qX12_next  (a0 : Nat) (x1 : Int32) (x2 : Int32) (h : qm_H) : Option (Int32 × qm_H) :=
  if x2 = (0 : Int32) then
  if x1 < (h.1 a0 25) then
  some ((-1 : Int32), h)
  else
  some ((x1 - (h.1 a0 25)), h)
  else if x2 = (1 : Int32) then
  if (h.1 a0 25) = 0 then none else
  if ((qm_irem x1 (h.1 a0 25)) + (1 : Int32)) = (h.1 a0 25) then
  some ((-1 : Int32), h)
  else
  some ((x1 + (1 : Int32)), h)
  else if x2 = (2 : Int32) then
  if (x1 + (h.1 a0 25)) < (h.1 a0 27) then
  some ((x1 + (h.1 a0 25)), h)
  else
  some ((-1 : Int32), h)
  else 
  if (h.1 a0 25) = 0 then none else
  if (qm_irem x1 (h.1 a0 25)) = (0 : Int32) then
  some ((-1 : Int32), h)
  else
  some ((x1 - (1 : Int32)), h)
def qX12_costs  (a0 : Nat) (x1 : Int32) (h : qm_H) : Option (Int32 × qm_H) :=
  qm_b2 (qX12_isOpen a0 x1 h) fun r2 h1 =>
  if r2 = (0 : Int32) then
  qm_b2 (qX12_strength a0 x1 h1) fun r4 h3 =>
  some ((((256 : Int32) * r4) + (1 : Int32)), h3)
  else
  some (((0 : Int32) + (1 : Int32)), h1)
def qX12_findSoon_97 (K40 : Nat → Int32 → qm_H → Option (qm_H)) (K48 : Nat → Int32 → Int32 → qm_H → Option (qm_H)) (a0 : Nat) (x2 : Int32) (x3 : Int32) (x4 : Int32) (xs0 : Int32) (h : qm_H) : Option (qm_H) :=
  if x4 = (-1 : Int32) then
  K48 a0 x2 (x3 + (1 : Int32)) h
  else
  if x4 < 0 ∨ 64 ≤ (x4).toNatClampNeg then none else
  if xs0 < (h.1 (a0 + 18) (x4).toNatClampNeg) then
  if x4 < 0 ∨ 64 ≤ (x4).toNatClampNeg then none else
  qm_let (qm_seti h (a0 + 18) (x4).toNatClampNeg xs0) fun h1 =>
  K48 a0 (1 : Int32) (x3 + (1 : Int32)) h1
  else
  K48 a0 x2 (x3 + (1 : Int32)) h
def qX12_findSoon_48 (K40 : Nat → Int32 → qm_H → Option (qm_H)) (fuel : Nat) (a0 : Nat) (x2 : Int32) (x3 : Int32) (h : qm_H) : Option (qm_H) := match fuel with
  | 0 => none
  | n + 1 =>
    if x3 < ((4 : Int32) * (h.1 a0 27)) then
    qm_b2 (qX12_next a0 (x3 / (4 : Int32)) (qm_irem x3 (4 : Int32)) h) fun r2 h1 =>
    if r2 = (-1 : Int32) then
    qX12_findSoon_97 K40 (qX12_findSoon_48 K40 n) a0 x2 x3 r2 (1000000 : Int32) h1
    else
    if (x3 / (4 : Int32)) < 0 ∨ 64 ≤ (x3 / (4 : Int32)).toNatClampNeg then none else
    qm_b2 (qX12_costs a0 r2 h1) fun r4 h3 =>
    qX12_findSoon_97 K40 (qX12_findSoon_48 K40 n) a0 x2 x3 r2 ((h1.1 (a0 + 18) (x3 / (4 : Int32)).toNatClampNeg) + r4) h3
    else
    K40 a0 x2 h
def qX12_findSoon_40  (fuel : Nat) (a0 : Nat) (x2 : Int32) (h : qm_H) : Option (qm_H) := match fuel with
  | 0 => none
  | n + 1 =>
    if x2 = (0 : Int32) then
    some h
    else
    qX12_findSoon_48 (qX12_findSoon_40 n) qm_N a0 (0 : Int32) (0 : Int32) h
def qX12_findSoon_2  (fuel : Nat) (a0 : Nat) (x1 : Int32) (x2 : Int32) (h : qm_H) : Option (qm_H) := match fuel with
  | 0 => none
  | n + 1 =>
    if x2 < (h.1 a0 27) then
    if x2 = x1 then
    qm_b2 (qX12_costs a0 x2 h) fun r3 h2 =>
    if x2 < 0 ∨ 64 ≤ (x2).toNatClampNeg then none else
    qm_let (qm_seti h2 (a0 + 18) (x2).toNatClampNeg r3) fun h4 =>
    (qX12_findSoon_2 n) a0 x1 (x2 + (1 : Int32)) h4
    else
    if x2 < 0 ∨ 64 ≤ (x2).toNatClampNeg then none else
    qm_let (qm_seti h (a0 + 18) (x2).toNatClampNeg (1000000 : Int32)) fun h1 =>
    (qX12_findSoon_2 n) a0 x1 (x2 + (1 : Int32)) h1
    else
    qX12_findSoon_40 qm_N a0 (1 : Int32) h
def qX12_findSoon  (a0 : Nat) (x1 : Int32) (h : qm_H) : Option (qm_H) :=
  qX12_findSoon_2 qm_N a0 x1 (0 : Int32) h
def qX12_isEdge  (a0 : Nat) (x1 : Int32) (h : qm_H) : Option (Int32 × qm_H) :=
  if x1 < (h.1 a0 25) then
  some ((1 : Int32), h)
  else
  if x1 < ((h.1 a0 27) - (h.1 a0 25)) then
  if (h.1 a0 25) = 0 then none else
  if (qm_irem x1 (h.1 a0 25)) = (0 : Int32) then
  some ((1 : Int32), h)
  else
  if (h.1 a0 25) = 0 then none else
  if (qm_irem x1 (h.1 a0 25)) = ((h.1 a0 25) - (1 : Int32)) then
  some ((1 : Int32), h)
  else
  some ((0 : Int32), h)
  else
  some ((1 : Int32), h)
def qX12_escape_36  (fuel : Nat) (a0 : Nat) (x3 : Int32) (x4 : Int32) (x5 : Int32) (h : qm_H) : Option (Int32 × qm_H) := match fuel with
  | 0 => none
  | n + 1 =>
    if x5 < (h.1 a0 27) then
    qm_b2 (qX12_isEdge a0 x5 h) fun r2 h1 =>
    if r2 = (0 : Int32) then
    (qX12_escape_36 n) a0 x3 x4 (x5 + (1 : Int32)) h1
    else
    if x5 < 0 ∨ 64 ≤ (x5).toNatClampNeg then none else
    qm_b2 (qX12_lesser x4 (h1.1 (a0 + 18) (x5).toNatClampNeg) h1) fun r4 h3 =>
    (qX12_escape_36 n) a0 x3 r4 (x5 + (1 : Int32)) h3
    else
    if x3 = (0 : Int32) then
    some ((x4 / (256 : Int32)), h)
    else
    some ((qm_irem x4 (256 : Int32)), h)
def qX12_escape  (a0 : Nat) (x1 : Int32) (x2 : Int32) (x3 : Int32) (h : qm_H) : Option (Int32 × qm_H) :=
  qm_let (qm_seti h a0 0 (0 : Int32)) fun h1 =>
  qm_b2 (qX12_hand a0 x1 h1) fun r3 h2 =>
  if r3 = (0 : Int32) then
  some ((-1 : Int32), h2)
  else
  qm_b2 (qX12_isCell a0 x2 h2) fun r5 h4 =>
  if r5 = (0 : Int32) then
  some ((-1 : Int32), h4)
  else
  (qX12_findSoon a0 x2 h4).bind fun h6 =>
  qX12_escape_36 qm_N a0 x3 (1000000 : Int32) (0 : Int32) h6
def qX12_findHoles_45 (K37 : Nat → Int32 → qm_H → Option (qm_H)) (fuel : Nat) (a0 : Nat) (x1 : Int32) (x2 : Int32) (h : qm_H) : Option (qm_H) := match fuel with
  | 0 => none
  | n + 1 =>
    if x2 < ((4 : Int32) * (h.1 a0 27)) then
    qm_b2 (qX12_next a0 (x2 / (4 : Int32)) (qm_irem x2 (4 : Int32)) h) fun r2 h1 =>
    if r2 = (-1 : Int32) then
    (qX12_findHoles_45 K37 n) a0 x1 (x2 + (1 : Int32)) h1
    else
    if r2 < 0 ∨ 64 ≤ (r2).toNatClampNeg then none else
    if (h1.1 (a0 + 19) (r2).toNatClampNeg) = (-1 : Int32) then
    (qX12_findHoles_45 K37 n) a0 x1 (x2 + (1 : Int32)) h1
    else
    if (x2 / (4 : Int32)) < 0 ∨ 64 ≤ (x2 / (4 : Int32)).toNatClampNeg then none else
    if (h1.1 (a0 + 19) (x2 / (4 : Int32)).toNatClampNeg) = (-1 : Int32) then
    (qX12_findHoles_45 K37 n) a0 x1 (x2 + (1 : Int32)) h1
    else
    if (x2 / (4 : Int32)) < 0 ∨ 64 ≤ (x2 / (4 : Int32)).toNatClampNeg then none else
    if r2 < 0 ∨ 64 ≤ (r2).toNatClampNeg then none else
    if (h1.1 (a0 + 19) (x2 / (4 : Int32)).toNatClampNeg) < (h1.1 (a0 + 19) (r2).toNatClampNeg) then
    if (x2 / (4 : Int32)) < 0 ∨ 64 ≤ (x2 / (4 : Int32)).toNatClampNeg then none else
    if r2 < 0 ∨ 64 ≤ (r2).toNatClampNeg then none else
    qm_let (qm_seti h1 (a0 + 19) (r2).toNatClampNeg (h1.1 (a0 + 19) (x2 / (4 : Int32)).toNatClampNeg)) fun h3 =>
    (qX12_findHoles_45 K37 n) a0 (1 : Int32) (x2 + (1 : Int32)) h3
    else
    (qX12_findHoles_45 K37 n) a0 x1 (x2 + (1 : Int32)) h1
    else
    K37 a0 x1 h
def qX12_findHoles_37  (fuel : Nat) (a0 : Nat) (x1 : Int32) (h : qm_H) : Option (qm_H) := match fuel with
  | 0 => none
  | n + 1 =>
    if x1 = (0 : Int32) then
    some h
    else
    qX12_findHoles_45 (qX12_findHoles_37 n) qm_N a0 (0 : Int32) (0 : Int32) h
def qX12_findHoles_2  (fuel : Nat) (a0 : Nat) (x1 : Int32) (h : qm_H) : Option (qm_H) := match fuel with
  | 0 => none
  | n + 1 =>
    if x1 < (h.1 a0 27) then
    qm_b2 (qX12_isOpen a0 x1 h) fun r2 h1 =>
    if r2 = (0 : Int32) then
    if x1 < 0 ∨ 64 ≤ (x1).toNatClampNeg then none else
    qm_let (qm_seti h1 (a0 + 19) (x1).toNatClampNeg (-1 : Int32)) fun h3 =>
    (qX12_findHoles_2 n) a0 (x1 + (1 : Int32)) h3
    else
    if x1 < 0 ∨ 64 ≤ (x1).toNatClampNeg then none else
    qm_let (qm_seti h1 (a0 + 19) (x1).toNatClampNeg x1) fun h4 =>
    (qX12_findHoles_2 n) a0 (x1 + (1 : Int32)) h4
    else
    qX12_findHoles_37 qm_N a0 (1 : Int32) h
def qX12_findHoles  (a0 : Nat) (h : qm_H) : Option (qm_H) :=
  qX12_findHoles_2 qm_N a0 (0 : Int32) h
def qX12_sizeOf_4  (fuel : Nat) (a0 : Nat) (x1 : Int32) (x2 : Int32) (x3 : Int32) (h : qm_H) : Option (Int32 × qm_H) := match fuel with
  | 0 => none
  | n + 1 =>
    if x3 < (h.1 a0 27) then
    if x3 < 0 ∨ 64 ≤ (x3).toNatClampNeg then none else
    if (h.1 (a0 + 19) (x3).toNatClampNeg) = x1 then
    qm_let (x2 + (1 : Int32)) fun v2 =>
    (qX12_sizeOf_4 n) a0 x1 v2 (x3 + (1 : Int32)) h
    else
    qm_let (x2 + (0 : Int32)) fun v1 =>
    (qX12_sizeOf_4 n) a0 x1 v1 (x3 + (1 : Int32)) h
    else
    some (x2, h)
def qX12_sizeOf  (a0 : Nat) (x1 : Int32) (h : qm_H) : Option (Int32 × qm_H) :=
  qX12_sizeOf_4 qm_N a0 x1 (0 : Int32) (0 : Int32) h
def qX12_largestGap_14 (K4 : Nat → Int32 → Int32 → qm_H → Option (Int32 × qm_H)) (fuel : Nat) (a0 : Nat) (x1 : Int32) (x2 : Int32) (x3 : Int32) (h : qm_H) : Option (Int32 × qm_H) := match fuel with
  | 0 => none
  | n + 1 =>
    if (h.1 a0 26) < x3 then
    K4 a0 x1 (x2 + (1 : Int32)) h
    else
    qm_b2 (qX12_slipsBy a0 x2 x3 h) fun r2 h1 =>
    if r2 = (-1 : Int32) then
    (qX12_largestGap_14 K4 n) a0 x1 x2 (x3 + (1 : Int32)) h1
    else
    qm_b2 (qX12_greater x1 (x2 * x3) h1) fun r4 h3 =>
    (qX12_largestGap_14 K4 n) a0 r4 x2 (x3 + (1 : Int32)) h3
def qX12_largestGap_4  (fuel : Nat) (a0 : Nat) (x1 : Int32) (x2 : Int32) (h : qm_H) : Option (Int32 × qm_H) := match fuel with
  | 0 => none
  | n + 1 =>
    if (h.1 a0 25) < x2 then
    some (x1, h)
    else
    qX12_largestGap_14 (qX12_largestGap_4 n) qm_N a0 x1 x2 (1 : Int32) h
def qX12_largestGap  (a0 : Nat) (h : qm_H) : Option (Int32 × qm_H) :=
  qX12_largestGap_4 qm_N a0 (0 : Int32) (1 : Int32) h
def qX12_holes_73 (K46 : Nat → Int32 → Int32 → Int32 → Int32 → qm_H → Option (Int32 × qm_H)) (a0 : Nat) (x2 : Int32) (x4 : Int32) (x5 : Int32) (xs0 : Int32) (xs1 : Int32) (h : qm_H) : Option (Int32 × qm_H) :=
  if x5 < 0 ∨ 64 ≤ (x5).toNatClampNeg then none else
  if (h.1 (a0 + 19) (x5).toNatClampNeg) = x5 then
  qm_b2 (qX12_sizeOf a0 x5 h) fun r2 h1 =>
  qm_b2 (qX12_greater x4 r2 h1) fun r4 h3 =>
  K46 a0 x2 (xs1 + xs0) r4 (x5 + (1 : Int32)) h3
  else
  K46 a0 x2 (xs1 + xs0) x4 (x5 + (1 : Int32)) h
def qX12_holes_46  (fuel : Nat) (a0 : Nat) (x2 : Int32) (x3 : Int32) (x4 : Int32) (x5 : Int32) (h : qm_H) : Option (Int32 × qm_H) := match fuel with
  | 0 => none
  | n + 1 =>
    if x5 < (h.1 a0 27) then
    if x5 < 0 ∨ 64 ≤ (x5).toNatClampNeg then none else
    if (h.1 (a0 + 19) (x5).toNatClampNeg) = x5 then
    qX12_holes_73 (qX12_holes_46 n) a0 x2 x4 x5 (1 : Int32) x3 h
    else
    qX12_holes_73 (qX12_holes_46 n) a0 x2 x4 x5 (0 : Int32) x3 h
    else
    if x2 = (0 : Int32) then
    some (x3, h)
    else
    some (x4, h)
def qX12_holes  (a0 : Nat) (x1 : Int32) (x2 : Int32) (h : qm_H) : Option (Int32 × qm_H) :=
  qm_let (qm_seti h a0 0 (0 : Int32)) fun h1 =>
  qm_b2 (qX12_hand a0 x1 h1) fun r3 h2 =>
  if r3 = (0 : Int32) then
  some ((-1 : Int32), h2)
  else
  qm_b2 (qX12_in x2 (0 : Int32) (2 : Int32) h2) fun r5 h4 =>
  if r5 = (0 : Int32) then
  some ((-1 : Int32), h4)
  else
  if x2 = (2 : Int32) then
  qm_b2 (qX12_largestGap a0 h4) fun r8 h7 =>
  some (r8, h7)
  else
  (qX12_findHoles a0 h4).bind fun h6 =>
  qX12_holes_46 qm_N a0 x2 (0 : Int32) (0 : Int32) (0 : Int32) h6
def qX12_lastsBy_5  (fuel : Nat) (a0 : Nat) (x1 : Int32) (l2 : Int64) (x4 : Int32) (h : qm_H) : Option (Int64 × qm_H) := match fuel with
  | 0 => none
  | n + 1 =>
    if x4 < (h.1 a0 26) then
    qm_b2 (qX12_has x1 x4 h) fun r2 h1 =>
    if r2 = (0 : Int32) then
    if x4 < 0 ∨ 16 ≤ (x4).toNatClampNeg then none else
    qm_let (l2 * (((10 : Int32) - (h1.1 (a0 + 13) (x4).toNatClampNeg))).toInt64) fun v3 =>
    (qX12_lastsBy_5 n) a0 x1 v3 (x4 + (1 : Int32)) h1
    else
    qm_let (l2 * (10 : Int64)) fun v4 =>
    (qX12_lastsBy_5 n) a0 x1 v4 (x4 + (1 : Int32)) h1
    else
    some (l2, h)
def qX12_lastsBy  (a0 : Nat) (x1 : Int32) (h : qm_H) : Option (Int64 × qm_H) :=
  qX12_lastsBy_5 qm_N a0 x1 (1 : Int64) (0 : Int32) h
def qX12_tens_4  (fuel : Nat) (x0 : Int32) (l1 : Int64) (x3 : Int32) (h : qm_H) : Option (Int64 × qm_H) := match fuel with
  | 0 => none
  | n + 1 =>
    if x3 < x0 then
    qm_let (l1 * (10 : Int64)) fun v1 =>
    (qX12_tens_4 n) x0 v1 (x3 + (1 : Int32)) h
    else
    some (l1, h)
def qX12_tens  (x0 : Int32) (h : qm_H) : Option (Int64 × qm_H) :=
  qX12_tens_4 qm_N x0 (1 : Int64) (0 : Int32) h
def qX12_common_6  (fuel : Nat) (l4 : Int64) (l6 : Int64) (h : qm_H) : Option (Int64 × qm_H) := match fuel with
  | 0 => none
  | n + 1 =>
    if (lg_cmp l6 (0 : Int64)) = (0 : Int32) then
    some (l4, h)
    else
    if l6 = 0 then none else
    qm_let (qm_lrem l4 l6) fun v1 =>
    (qX12_common_6 n) l6 v1 h
def qX12_common  (l0 : Int64) (l2 : Int64) (h : qm_H) : Option (Int64 × qm_H) :=
  qX12_common_6 qm_N l0 l2 h
def qX12_last_42  (fuel : Nat) (a0 : Nat) (x2 : Int32) (x3 : Int32) (x4 : Int32) (x5 : Int32) (h : qm_H) : Option (Int64 × qm_H) := match fuel with
  | 0 => none
  | n + 1 =>
    if x5 < (qm_ishl (1 : Int32) (h.1 a0 26)) then
    qm_b2 (qX12_lastsBy a0 x5 h) fun r12 h11 =>
    qm_b2 (qX12_lastsBy a0 x4 h11) fun r14 h13 =>
    qm_b2 (qX12_ones x5 h13) fun r16 h15 =>
    if x2 < r16 then
    (qX12_last_42 n) a0 x2 x3 x4 (x5 + (1 : Int32)) h15
    else
    if (0 : Int32) < (lg_cmp (r12 - r14) (0 : Int64)) then
    (qX12_last_42 n) a0 x2 x3 x5 (x5 + (1 : Int32)) h15
    else
    if (lg_cmp (r12 - r14) (0 : Int64)) = (0 : Int32) then
    qm_b2 (qX12_ones x5 h15) fun r18 h17 =>
    qm_b2 (qX12_ones x4 h17) fun r20 h19 =>
    if r18 < r20 then
    (qX12_last_42 n) a0 x2 x3 x5 (x5 + (1 : Int32)) h19
    else
    (qX12_last_42 n) a0 x2 x3 x4 (x5 + (1 : Int32)) h19
    else
    (qX12_last_42 n) a0 x2 x3 x4 (x5 + (1 : Int32)) h15
    else
    qm_b2 (qX12_tens (h.1 a0 26) h) fun r2 h1 =>
    qm_b2 (qX12_lastsBy a0 x4 h1) fun r4 h3 =>
    qm_b2 (qX12_common r2 r4 h3) fun r6 h5 =>
    if x3 = (2 : Int32) then
    some ((x4).toInt64, h5)
    else
    if x3 = (0 : Int32) then
    qm_b2 (qX12_lastsBy a0 x4 h5) fun r10 h9 =>
    if r6 = 0 then none else
    some ((r10 / r6), h9)
    else
    qm_b2 (qX12_tens (h5.1 a0 26) h5) fun r8 h7 =>
    if r6 = 0 then none else
    some ((r8 / r6), h7)
def qX12_last  (a0 : Nat) (x1 : Int32) (x2 : Int32) (x3 : Int32) (h : qm_H) : Option (Int64 × qm_H) :=
  qm_let (qm_seti h a0 0 (0 : Int32)) fun h1 =>
  qm_b2 (qX12_hand a0 x1 h1) fun r3 h2 =>
  if r3 = (0 : Int32) then
  some ((-1 : Int64), h2)
  else
  qm_b2 (qX12_in x2 (0 : Int32) (8 : Int32) h2) fun r5 h4 =>
  if r5 = (0 : Int32) then
  some ((-1 : Int64), h4)
  else
  qm_b2 (qX12_in x3 (0 : Int32) (2 : Int32) h4) fun r7 h6 =>
  if r7 = (0 : Int32) then
  some ((-1 : Int64), h6)
  else
  qX12_last_42 qm_N a0 x2 x3 (0 : Int32) (1 : Int32) h6
def qX12_unlike_183 (K116 : Nat → Int32 → Int32 → Int32 → Int32 → qm_H → Option (Int32 × qm_H)) (K126 : Nat → Int32 → Int32 → Int32 → Int32 → Int32 → qm_H → Option (Int32 × qm_H)) (a0 : Nat) (x3 : Int32) (x5 : Int32) (x6 : Int32) (x7 : Int32) (x8 : Int32) (xs0 : Int32) (xs1 : Int32) (h : qm_H) : Option (Int32 × qm_H) :=
  if x8 = (0 : Int32) then
  if (x6 - (1 : Int32)) < 0 ∨ 8 ≤ (x6 - (1 : Int32)).toNatClampNeg then none else
  qm_b2 (qX12_has (h.1 (a0 + 20) (x6 - (1 : Int32)).toNatClampNeg) (x7 - (1 : Int32)) h) fun r3 h2 =>
  if r3 = (0 : Int32) then
  qm_let (x5 + (0 : Int32)) fun v4 =>
  K126 a0 x3 (xs1 + xs0) v4 x6 (x7 + (1 : Int32)) h2
  else
  qm_let (x5 + (1 : Int32)) fun v5 =>
  K126 a0 x3 (xs1 + xs0) v5 x6 (x7 + (1 : Int32)) h2
  else
  qm_let (x5 + (0 : Int32)) fun v1 =>
  K126 a0 x3 (xs1 + xs0) v1 x6 (x7 + (1 : Int32)) h
def qX12_unlike_150 (K116 : Nat → Int32 → Int32 → Int32 → Int32 → qm_H → Option (Int32 × qm_H)) (K126 : Nat → Int32 → Int32 → Int32 → Int32 → Int32 → qm_H → Option (Int32 × qm_H)) (a0 : Nat) (x3 : Int32) (x4 : Int32) (x5 : Int32) (x6 : Int32) (x7 : Int32) (xs0 : Int32) (h : qm_H) : Option (Int32 × qm_H) :=
  if xs0 = (0 : Int32) then
  qX12_unlike_183 K116 K126 a0 x3 x5 x6 x7 xs0 (0 : Int32) x4 h
  else
  if (x6 - (1 : Int32)) < 0 ∨ 8 ≤ (x6 - (1 : Int32)).toNatClampNeg then none else
  qm_b2 (qX12_has (h.1 (a0 + 20) (x6 - (1 : Int32)).toNatClampNeg) (x7 - (1 : Int32)) h) fun r2 h1 =>
  if r2 = (0 : Int32) then
  qX12_unlike_183 K116 K126 a0 x3 x5 x6 x7 xs0 (1 : Int32) x4 h1
  else
  qX12_unlike_183 K116 K126 a0 x3 x5 x6 x7 xs0 (0 : Int32) x4 h1
def qX12_unlike_126 (K116 : Nat → Int32 → Int32 → Int32 → Int32 → qm_H → Option (Int32 × qm_H)) (fuel : Nat) (a0 : Nat) (x3 : Int32) (x4 : Int32) (x5 : Int32) (x6 : Int32) (x7 : Int32) (h : qm_H) : Option (Int32 × qm_H) := match fuel with
  | 0 => none
  | n + 1 =>
    if (8 : Int32) < x7 then
    K116 a0 x3 x4 x5 (x6 + (1 : Int32)) h
    else
    qm_b2 (qX12_slipsBy a0 x7 x6 h) fun r2 h1 =>
    if r2 = (-1 : Int32) then
    qX12_unlike_150 K116 (qX12_unlike_126 K116 n) a0 x3 x4 x5 x6 x7 (0 : Int32) h1
    else
    qX12_unlike_150 K116 (qX12_unlike_126 K116 n) a0 x3 x4 x5 x6 x7 (1 : Int32) h1
def qX12_unlike_116  (fuel : Nat) (a0 : Nat) (x3 : Int32) (x4 : Int32) (x5 : Int32) (x6 : Int32) (h : qm_H) : Option (Int32 × qm_H) := match fuel with
  | 0 => none
  | n + 1 =>
    if (8 : Int32) < x6 then
    if x3 = (0 : Int32) then
    some ((x4 + x5), h)
    else
    if x4 = (0 : Int32) then
    if x5 = (0 : Int32) then
    some ((2 : Int32), h)
    else
    some ((0 : Int32), h)
    else
    if x5 = (0 : Int32) then
    some ((1 : Int32), h)
    else
    some ((-1 : Int32), h)
    else
    qX12_unlike_126 (qX12_unlike_116 n) qm_N a0 x3 x4 x5 x6 (1 : Int32) h
def qX12_unlike_48 (K28 : Nat → Int32 → Int32 → Int32 → qm_H → Option (Int32 × qm_H)) (fuel : Nat) (a0 : Nat) (x1 : Int32) (x3 : Int32) (x4 : Int32) (x5 : Int32) (h : qm_H) : Option (Int32 × qm_H) := match fuel with
  | 0 => none
  | n + 1 =>
    if (8 : Int32) < x5 then
    K28 a0 x1 x3 (x4 + (1 : Int32)) h
    else
    if (x4 - (1 : Int32)) < 0 ∨ 8 ≤ (x4 - (1 : Int32)).toNatClampNeg then none else
    qm_b2 (qX12_slipsBy a0 x5 x4 h) fun r2 h1 =>
    if r2 = (-1 : Int32) then
    if (x4 - (1 : Int32)) < 0 ∨ 8 ≤ (x4 - (1 : Int32)).toNatClampNeg then none else
    qm_let (qm_seti h1 (a0 + 20) (x4 - (1 : Int32)).toNatClampNeg ((h.1 (a0 + 20) (x4 - (1 : Int32)).toNatClampNeg) ||| (0 : Int32))) fun h3 =>
    (qX12_unlike_48 K28 n) a0 x1 x3 x4 (x5 + (1 : Int32)) h3
    else
    if (x4 - (1 : Int32)) < 0 ∨ 8 ≤ (x4 - (1 : Int32)).toNatClampNeg then none else
    qm_let (qm_seti h1 (a0 + 20) (x4 - (1 : Int32)).toNatClampNeg ((h.1 (a0 + 20) (x4 - (1 : Int32)).toNatClampNeg) ||| (qm_ishl (1 : Int32) (x5 - (1 : Int32))))) fun h4 =>
    (qX12_unlike_48 K28 n) a0 x1 x3 x4 (x5 + (1 : Int32)) h4
def qX12_unlike_28  (fuel : Nat) (a0 : Nat) (x1 : Int32) (x3 : Int32) (x4 : Int32) (h : qm_H) : Option (Int32 × qm_H) := match fuel with
  | 0 => none
  | n + 1 =>
    if (8 : Int32) < x4 then
    qm_b2 (qX12_hand a0 x1 h) fun r2 h1 =>
    qX12_unlike_116 qm_N a0 x3 (0 : Int32) (0 : Int32) (1 : Int32) h1
    else
    if (x4 - (1 : Int32)) < 0 ∨ 8 ≤ (x4 - (1 : Int32)).toNatClampNeg then none else
    qm_let (qm_seti h (a0 + 20) (x4 - (1 : Int32)).toNatClampNeg (0 : Int32)) fun h3 =>
    qX12_unlike_48 (qX12_unlike_28 n) qm_N a0 x1 x3 x4 (1 : Int32) h3
def qX12_unlike  (a0 : Nat) (x1 : Int32) (x2 : Int32) (x3 : Int32) (h : qm_H) : Option (Int32 × qm_H) :=
  qm_let (qm_seti h a0 0 (0 : Int32)) fun h1 =>
  qm_b2 (qX12_is a0 (0 : Int32) x1 h1) fun r3 h2 =>
  if r3 = (0 : Int32) then
  some ((-2 : Int32), h2)
  else
  qm_b2 (qX12_hand a0 x2 h2) fun r5 h4 =>
  if r5 = (0 : Int32) then
  some ((-2 : Int32), h4)
  else
  qX12_unlike_28 qm_N a0 x1 x3 (1 : Int32) h4
def qX12_parishOf  (a0 : Nat) (x1 : Int32) (h : qm_H) : Option (Int32 × qm_H) :=
  if (((17 : Int32) * (h.1 a0 40)) + x1) < 0 ∨ 136 ≤ (((17 : Int32) * (h.1 a0 40)) + x1).toNatClampNeg then none else
  some ((h.1 (a0 + 8) (((17 : Int32) * (h.1 a0 40)) + x1).toNatClampNeg), h)
def qX12_hasParish  (a0 : Nat) (x1 : Int32) (h : qm_H) : Option (Int32 × qm_H) :=
  qm_b2 (qX12_is a0 (2 : Int32) x1 (qm_seti h a0 40 x1)) fun r2 h1 =>
  if r2 = (0 : Int32) then
  some ((0 : Int32), h1)
  else
  qm_b2 (qX12_parishOf a0 (0 : Int32) h1) fun r4 h3 =>
  qm_b2 (qX12_parishOf a0 (1 : Int32) (qm_seti h3 a0 41 r4)) fun r6 h5 =>
  some ((1 : Int32), (qm_seti h5 a0 42 r6))
def qX12_rod  (a0 : Nat) (x1 : Int32) (h : qm_H) : Option (Int32 × qm_H) :=
  qm_b2 (qX12_parishOf a0 ((3 : Int32) + x1) h) fun r2 h1 =>
  some (r2, h1)
def qX12_parish  (a0 : Nat) (x1 : Int32) (x2 : Int32) (h : qm_H) : Option (Int32 × qm_H) :=
  qm_let (qm_seti h a0 0 (0 : Int32)) fun h1 =>
  qm_b2 (qX12_hasParish a0 x1 h1) fun r3 h2 =>
  if r3 = (0 : Int32) then
  some ((-1 : Int32), h2)
  else
  qm_b2 (qX12_in x2 (10 : Int32) (19 : Int32) h2) fun r5 h4 =>
  if r5 = (0 : Int32) then
  qm_b2 (qX12_in x2 (20 : Int32) (29 : Int32) h4) fun r7 h6 =>
  if r7 = (0 : Int32) then
  qm_b2 (qX12_in x2 (0 : Int32) (2 : Int32) h6) fun r9 h8 =>
  if r9 = (0 : Int32) then
  some ((-1 : Int32), h8)
  else
  qm_b2 (qX12_parishOf a0 x2 h8) fun r11 h10 =>
  some (r11, h10)
  else
  if (x2 - (20 : Int32)) < (h6.1 a0 42) then
  qm_b2 (qX12_parishOf a0 (((9 : Int32) + x2) - (20 : Int32)) h6) fun r13 h12 =>
  some (r13, h12)
  else
  some ((-1 : Int32), h6)
  else
  if (x2 - (10 : Int32)) < (h4.1 a0 41) then
  qm_b2 (qX12_rod a0 (x2 - (10 : Int32)) h4) fun r15 h14 =>
  some (r15, h14)
  else
  some ((-1 : Int32), h4)
def qX12_sumOf_4  (fuel : Nat) (a0 : Nat) (x1 : Int32) (x2 : Int32) (x3 : Int32) (h : qm_H) : Option (Int32 × qm_H) := match fuel with
  | 0 => none
  | n + 1 =>
    if x3 < (h.1 a0 42) then
    qm_b2 (qX12_has x1 x3 h) fun r2 h1 =>
    if r2 = (0 : Int32) then
    qm_let (x2 + (0 : Int32)) fun v3 =>
    (qX12_sumOf_4 n) a0 x1 v3 (x3 + (1 : Int32)) h1
    else
    qm_b2 (qX12_parishOf a0 ((9 : Int32) + x3) h1) fun r5 h4 =>
    (qX12_sumOf_4 n) a0 x1 (x2 + r5) (x3 + (1 : Int32)) h4
    else
    some (x2, h)
def qX12_sumOf  (a0 : Nat) (x1 : Int32) (h : qm_H) : Option (Int32 × qm_H) :=
  qX12_sumOf_4 qm_N a0 x1 (0 : Int32) (0 : Int32) h
def qX12_findCosts_167 (K5 : Nat → Int32 → Int32 → qm_H → Option (qm_H)) (K11 : Nat → Int32 → Int32 → Int32 → qm_H → Option (qm_H)) (a0 : Nat) (x1 : Int32) (x2 : Int32) (x3 : Int32) (x4 : Int32) (h : qm_H) : Option (qm_H) :=
  qm_b2 (qX12_lesser x4 (1000000 : Int32) h) fun r2 h1 =>
  if (((256 : Int32) * x2) + x3) < 0 ∨ 1792 ≤ (((256 : Int32) * x2) + x3).toNatClampNeg then none else
  qm_let (qm_seti h1 (a0 + 22) (((256 : Int32) * x2) + x3).toNatClampNeg r2) fun h3 =>
  K11 a0 x1 x2 (x3 + (1 : Int32)) h3
def qX12_findCosts_116 (K5 : Nat → Int32 → Int32 → qm_H → Option (qm_H)) (K11 : Nat → Int32 → Int32 → Int32 → qm_H → Option (qm_H)) (K58 : Nat → Int32 → Int32 → Int32 → Int32 → Int32 → qm_H → Option (qm_H)) (a0 : Nat) (x1 : Int32) (x2 : Int32) (x3 : Int32) (x4 : Int32) (x5 : Int32) (xs0 : Int32) (h : qm_H) : Option (qm_H) :=
  if (((256 : Int32) * (x2 + (1 : Int32))) + (x3 &&& (x5 ^^^ (-1 : Int32)))) < 0 ∨ 1792 ≤ (((256 : Int32) * (x2 + (1 : Int32))) + (x3 &&& (x5 ^^^ (-1 : Int32)))).toNatClampNeg then none else
  qm_b2 (qX12_lesser x4 (xs0 + (h.1 (a0 + 22) (((256 : Int32) * (x2 + (1 : Int32))) + (x3 &&& (x5 ^^^ (-1 : Int32)))).toNatClampNeg)) h) fun r2 h1 =>
  if x5 = (0 : Int32) then
  K58 a0 x1 x2 x3 r2 (-1 : Int32) h1
  else
  qm_let ((x5 - (1 : Int32)) &&& x3) fun v3 =>
  K58 a0 x1 x2 x3 r2 v3 h1
def qX12_findCosts_58 (K5 : Nat → Int32 → Int32 → qm_H → Option (qm_H)) (K11 : Nat → Int32 → Int32 → Int32 → qm_H → Option (qm_H)) (fuel : Nat) (a0 : Nat) (x1 : Int32) (x2 : Int32) (x3 : Int32) (x4 : Int32) (x5 : Int32) (h : qm_H) : Option (qm_H) := match fuel with
  | 0 => none
  | n + 1 =>
    if x5 < (0 : Int32) then
    qX12_findCosts_167 K5 K11 a0 x1 x2 x3 x4 h
    else
    if x2 < 0 ∨ 6 ≤ (x2).toNatClampNeg then none else
    qm_let (x5 ||| (h.1 (a0 + 21) (x2).toNatClampNeg)) fun v1 =>
    qm_b2 (qX12_sumOf a0 v1 h) fun r3 h2 =>
    qm_b2 (qX12_rod a0 x2 h2) fun r5 h4 =>
    if r5 < r3 then
    qX12_findCosts_116 K5 K11 (qX12_findCosts_58 K5 K11 n) a0 x1 x2 x3 x4 x5 (1000000 : Int32) h4
    else
    if v1 = (0 : Int32) then
    qX12_findCosts_116 K5 K11 (qX12_findCosts_58 K5 K11 n) a0 x1 x2 x3 x4 x5 (0 : Int32) h4
    else
    if x1 = (0 : Int32) then
    qX12_findCosts_116 K5 K11 (qX12_findCosts_58 K5 K11 n) a0 x1 x2 x3 x4 x5 (1 : Int32) h4
    else
    qm_b2 (qX12_rod a0 x2 h4) fun r7 h6 =>
    qX12_findCosts_116 K5 K11 (qX12_findCosts_58 K5 K11 n) a0 x1 x2 x3 x4 x5 r7 h6
def qX12_findCosts_11 (K5 : Nat → Int32 → Int32 → qm_H → Option (qm_H)) (fuel : Nat) (a0 : Nat) (x1 : Int32) (x2 : Int32) (x3 : Int32) (h : qm_H) : Option (qm_H) := match fuel with
  | 0 => none
  | n + 1 =>
    if x3 < (qm_ishl (1 : Int32) (h.1 a0 42)) then
    if x2 = (h.1 a0 41) then
    if (0 : Int32) < x3 then
    if x2 < (h.1 a0 41) then
    qX12_findCosts_58 K5 (qX12_findCosts_11 K5 n) qm_N a0 x1 x2 x3 (1000000 : Int32) x3 h
    else
    qX12_findCosts_167 K5 (qX12_findCosts_11 K5 n) a0 x1 x2 x3 (1000000 : Int32) h
    else
    if x2 < (h.1 a0 41) then
    qX12_findCosts_58 K5 (qX12_findCosts_11 K5 n) qm_N a0 x1 x2 x3 (1000000 : Int32) x3 h
    else
    qX12_findCosts_167 K5 (qX12_findCosts_11 K5 n) a0 x1 x2 x3 (0 : Int32) h
    else
    if x2 < (h.1 a0 41) then
    qX12_findCosts_58 K5 (qX12_findCosts_11 K5 n) qm_N a0 x1 x2 x3 (1000000 : Int32) x3 h
    else
    qX12_findCosts_167 K5 (qX12_findCosts_11 K5 n) a0 x1 x2 x3 (0 : Int32) h
    else
    K5 a0 x1 (x2 + (-1 : Int32)) h
def qX12_findCosts_5  (fuel : Nat) (a0 : Nat) (x1 : Int32) (x2 : Int32) (h : qm_H) : Option (qm_H) := match fuel with
  | 0 => none
  | n + 1 =>
    if x2 < (0 : Int32) then
    some h
    else
    qX12_findCosts_11 (qX12_findCosts_5 n) qm_N a0 x1 x2 (0 : Int32) h
def qX12_findCosts  (a0 : Nat) (x1 : Int32) (h : qm_H) : Option (qm_H) :=
  qX12_findCosts_5 qm_N a0 x1 (h.1 a0 41) h
def qX12_costAll_2  (fuel : Nat) (a0 : Nat) (x1 : Int32) (x2 : Int32) (h : qm_H) : Option (Int32 × qm_H) := match fuel with
  | 0 => none
  | n + 1 =>
    if x2 < (6 : Int32) then
    if x2 < 0 ∨ 6 ≤ (x2).toNatClampNeg then none else
    qm_let (qm_seti h (a0 + 21) (x2).toNatClampNeg (0 : Int32)) fun h2 =>
    (qX12_costAll_2 n) a0 x1 (x2 + (1 : Int32)) h2
    else
    (qX12_findCosts a0 x1 h).bind fun h1 =>
    if ((qm_ishl (1 : Int32) (h1.1 a0 42)) - (1 : Int32)) < 0 ∨ 1792 ≤ ((qm_ishl (1 : Int32) (h1.1 a0 42)) - (1 : Int32)).toNatClampNeg then none else
    some ((h1.1 (a0 + 22) ((qm_ishl (1 : Int32) (h1.1 a0 42)) - (1 : Int32)).toNatClampNeg), h1)
def qX12_costAll  (a0 : Nat) (x1 : Int32) (h : qm_H) : Option (Int32 × qm_H) :=
  qX12_costAll_2 qm_N a0 x1 (0 : Int32) h
def qX12_cutFrom_57 (K21 : Nat → Int32 → Int32 → Int32 → Int32 → Int32 → qm_H → Option (Int32 × qm_H)) (fuel : Nat) (a0 : Nat) (x1 : Int32) (x2 : Int32) (x3 : Int32) (x4 : Int32) (x5 : Int32) (h : qm_H) : Option (Int32 × qm_H) := match fuel with
  | 0 => none
  | n + 1 =>
    if x3 < 0 ∨ 1792 ≤ (x3).toNatClampNeg then none else
    if (h.1 (a0 + 22) (x3).toNatClampNeg) = x2 then
    K21 a0 x1 x2 x3 x4 (x5 + (1 : Int32)) h
    else
    if x4 < 0 ∨ 6 ≤ (x4).toNatClampNeg then none else
    if x4 < 0 ∨ 6 ≤ (x4).toNatClampNeg then none else
    qm_let (qm_seti h (a0 + 21) (x4).toNatClampNeg ((h.1 (a0 + 21) (x4).toNatClampNeg) &&& ((qm_ishl (1 : Int32) x5) ^^^ (-1 : Int32)))) fun h1 =>
    if (x4 + (1 : Int32)) < 0 ∨ 6 ≤ (x4 + (1 : Int32)).toNatClampNeg then none else
    if (x4 + (1 : Int32)) < 0 ∨ 6 ≤ (x4 + (1 : Int32)).toNatClampNeg then none else
    qm_let (qm_seti h1 (a0 + 21) (x4 + (1 : Int32)).toNatClampNeg ((h1.1 (a0 + 21) (x4 + (1 : Int32)).toNatClampNeg) ||| (qm_ishl (1 : Int32) x5))) fun h2 =>
    (qX12_findCosts a0 (0 : Int32) h2).bind fun h3 =>
    (qX12_cutFrom_57 K21 n) a0 x1 x2 x3 (x4 + (1 : Int32)) x5 h3
def qX12_cutFrom_21  (fuel : Nat) (a0 : Nat) (x1 : Int32) (x2 : Int32) (x3 : Int32) (x4 : Int32) (x5 : Int32) (h : qm_H) : Option (Int32 × qm_H) := match fuel with
  | 0 => none
  | n + 1 =>
    if x1 < x5 then
    some (x4, h)
    else
    qm_let (x3 &&& ((qm_ishl (1 : Int32) x5) ^^^ (-1 : Int32))) fun v1 =>
    qm_let (qm_seti h (a0 + 21) (0 : Int32).toNatClampNeg ((h.1 (a0 + 21) (0 : Int32).toNatClampNeg) ||| (qm_ishl (1 : Int32) x5))) fun h2 =>
    (qX12_findCosts a0 (0 : Int32) h2).bind fun h3 =>
    qX12_cutFrom_57 (qX12_cutFrom_21 n) qm_N a0 x1 x2 v1 (0 : Int32) x5 h3
def qX12_cutFrom  (a0 : Nat) (x1 : Int32) (h : qm_H) : Option (Int32 × qm_H) :=
  qm_b2 (qX12_costAll a0 (0 : Int32) h) fun r2 h1 =>
  qm_let ((qm_ishl (1 : Int32) (h1.1 a0 42)) - (1 : Int32)) fun v3 =>
  qX12_cutFrom_21 qm_N a0 x1 r2 v3 (-1 : Int32) (0 : Int32) h1
def qX12_longest_10  (fuel : Nat) (a0 : Nat) (x1 : Int32) (x2 : Int32) (h : qm_H) : Option (Int32 × qm_H) := match fuel with
  | 0 => none
  | n + 1 =>
    if x2 < (qm_ishl (1 : Int32) (h.1 a0 42)) then
    if x2 < 0 ∨ 1792 ≤ (x2).toNatClampNeg then none else
    if (h.1 (a0 + 22) (x2).toNatClampNeg) < (1000000 : Int32) then
    qm_b2 (qX12_ones x2 h) fun r2 h1 =>
    qm_b2 (qX12_greater x1 r2 h1) fun r4 h3 =>
    (qX12_longest_10 n) a0 r4 (x2 + (1 : Int32)) h3
    else
    (qX12_longest_10 n) a0 x1 (x2 + (1 : Int32)) h
    else
    some (x1, h)
def qX12_longest  (a0 : Nat) (h : qm_H) : Option (Int32 × qm_H) :=
  qm_b2 (qX12_costAll a0 (0 : Int32) h) fun r2 h1 =>
  qX12_longest_10 qm_N a0 (0 : Int32) (0 : Int32) h1
def qX12_cutting_53  (a0 : Nat) (x2 : Int32) (xs0 : Int32) (as1 : Nat) (h : qm_H) : Option (Int32 × qm_H) :=
  qm_b2 (qX12_costAll as1 xs0 h) fun r2 h1 =>
  if r2 < (1000000 : Int32) then
  if x2 = (-1 : Int32) then
  some (r2, h1)
  else
  if x2 = (-2 : Int32) then
  qm_b2 (qX12_sumOf a0 ((qm_ishl (1 : Int32) (h1.1 a0 42)) - (1 : Int32)) h1) fun r6 h5 =>
  some ((r2 - r6), h5)
  else
  qm_b2 (qX12_cutFrom a0 x2 h1) fun r4 h3 =>
  some (r4, h3)
  else
  some ((-1 : Int32), h1)
def qX12_cutting  (a0 : Nat) (x1 : Int32) (x2 : Int32) (h : qm_H) : Option (Int32 × qm_H) :=
  qm_let (qm_seti h a0 0 (0 : Int32)) fun h1 =>
  qm_b2 (qX12_hasParish a0 x1 h1) fun r3 h2 =>
  if r3 = (0 : Int32) then
  some ((-1 : Int32), h2)
  else
  qm_b2 (qX12_in x2 (-3 : Int32) ((h2.1 a0 42) - (1 : Int32)) h2) fun r5 h4 =>
  if r5 = (0 : Int32) then
  some ((-1 : Int32), h4)
  else
  if x2 = (-3 : Int32) then
  qm_b2 (qX12_longest a0 h4) fun r7 h6 =>
  some (r7, h6)
  else
  if x2 = (-2 : Int32) then
  qX12_cutting_53 a0 x2 (1 : Int32) a0 h4
  else
  qX12_cutting_53 a0 x2 (0 : Int32) a0 h4
def qX12_isWon_7  (fuel : Nat) (a0 : Nat) (x1 : Int32) (x2 : Int32) (x3 : Int32) (x4 : Int32) (h : qm_H) : Option (Int32 × qm_H) := match fuel with
  | 0 => none
  | n + 1 =>
    if x4 < (h.1 a0 41) then
    if x4 < 0 ∨ 6 ≤ (x4).toNatClampNeg then none else
    qm_b2 (qX12_parishOf a0 (2 : Int32) h) fun r2 h1 =>
    if (r2 + (1 : Int32)) = 0 then none else
    qm_let (qm_irem (h.1 (a0 + 23) (x4).toNatClampNeg) (r2 + (1 : Int32))) fun v3 =>
    qm_b2 (qX12_greater x3 v3 h1) fun r5 h4 =>
    (qX12_isWon_7 n) a0 x1 (x2 ^^^ v3) r5 (x4 + (1 : Int32)) h4
    else
    if x1 = (0 : Int32) then
    if x2 = (0 : Int32) then
    some ((0 : Int32), h)
    else
    some ((1 : Int32), h)
    else
    if x3 < (2 : Int32) then
    if x2 = (0 : Int32) then
    some ((1 : Int32), h)
    else
    some ((0 : Int32), h)
    else
    if x2 = (0 : Int32) then
    some ((0 : Int32), h)
    else
    some ((1 : Int32), h)
def qX12_isWon  (a0 : Nat) (x1 : Int32) (h : qm_H) : Option (Int32 × qm_H) :=
  qX12_isWon_7 qm_N a0 x1 (0 : Int32) (0 : Int32) (0 : Int32) h
def qX12_game_140 (K68 : Nat → Int32 → Int32 → qm_H → Option (Int32 × qm_H)) (a0 : Nat) (x2 : Int32) (x4 : Int32) (h : qm_H) : Option (Int32 × qm_H) :=
  qm_b2 (qX12_rod a0 x4 h) fun r2 h1 =>
  if x4 < 0 ∨ 6 ≤ (x4).toNatClampNeg then none else
  qm_let (qm_seti h1 (a0 + 23) (x4).toNatClampNeg r2) fun h3 =>
  K68 a0 x2 (x4 + (1 : Int32)) h3
def qX12_game_80 (K68 : Nat → Int32 → Int32 → qm_H → Option (Int32 × qm_H)) (fuel : Nat) (a0 : Nat) (x2 : Int32) (x4 : Int32) (x5 : Int32) (h : qm_H) : Option (Int32 × qm_H) := match fuel with
  | 0 => none
  | n + 1 =>
    qm_b2 (qX12_parishOf a0 (2 : Int32) h) fun r2 h1 =>
    if r2 < x5 then
    qX12_game_140 K68 a0 x2 x4 h1
    else
    qm_b2 (qX12_rod a0 x4 h1) fun r4 h3 =>
    if r4 < x5 then
    qX12_game_140 K68 a0 x2 x4 h3
    else
    qm_b2 (qX12_rod a0 x4 h3) fun r6 h5 =>
    if x4 < 0 ∨ 6 ≤ (x4).toNatClampNeg then none else
    qm_let (qm_seti h5 (a0 + 23) (x4).toNatClampNeg (r6 - x5)) fun h7 =>
    qm_b2 (qX12_isWon a0 x2 h7) fun r9 h8 =>
    if r9 = (0 : Int32) then
    some ((((10 : Int32) * x4) + x5), h8)
    else
    (qX12_game_80 K68 n) a0 x2 x4 (x5 + (1 : Int32)) h8
def qX12_game_68  (fuel : Nat) (a0 : Nat) (x2 : Int32) (x4 : Int32) (h : qm_H) : Option (Int32 × qm_H) := match fuel with
  | 0 => none
  | n + 1 =>
    if x4 < (h.1 a0 41) then
    qX12_game_80 (qX12_game_68 n) qm_N a0 x2 x4 (1 : Int32) h
    else
    some ((-1 : Int32), h)
def qX12_game_19  (fuel : Nat) (a0 : Nat) (x2 : Int32) (x3 : Int32) (x4 : Int32) (h : qm_H) : Option (Int32 × qm_H) := match fuel with
  | 0 => none
  | n + 1 =>
    if x4 < (h.1 a0 41) then
    qm_b2 (qX12_rod a0 x4 h) fun r4 h3 =>
    if x4 < 0 ∨ 6 ≤ (x4).toNatClampNeg then none else
    qm_let (qm_seti h3 (a0 + 23) (x4).toNatClampNeg r4) fun h5 =>
    (qX12_game_19 n) a0 x2 x3 (x4 + (1 : Int32)) h5
    else
    if x3 = (0 : Int32) then
    qm_b2 (qX12_isWon a0 x2 h) fun r2 h1 =>
    if r2 = (0 : Int32) then
    some ((0 : Int32), h1)
    else
    some ((1 : Int32), h1)
    else
    qX12_game_68 qm_N a0 x2 (0 : Int32) h
def qX12_game  (a0 : Nat) (x1 : Int32) (x2 : Int32) (x3 : Int32) (h : qm_H) : Option (Int32 × qm_H) :=
  qm_let (qm_seti h a0 0 (0 : Int32)) fun h1 =>
  qm_b2 (qX12_hasParish a0 x1 h1) fun r3 h2 =>
  if r3 = (0 : Int32) then
  some ((-2 : Int32), h2)
  else
  qX12_game_19 qm_N a0 x2 x3 (0 : Int32) h2
def qX12_hintOf  (a0 : Nat) (x1 : Int32) (h : qm_H) : Option (Int32 × qm_H) :=
  if (((33 : Int32) * (h.1 a0 46)) + x1) < 0 ∨ 264 ≤ (((33 : Int32) * (h.1 a0 46)) + x1).toNatClampNeg then none else
  some ((h.1 (a0 + 9) (((33 : Int32) * (h.1 a0 46)) + x1).toNatClampNeg), h)
def qX12_hasClues  (a0 : Nat) (x1 : Int32) (h : qm_H) : Option (Int32 × qm_H) :=
  qm_b2 (qX12_is a0 (3 : Int32) x1 (qm_seti h a0 46 x1)) fun r2 h1 =>
  if r2 = (0 : Int32) then
  some ((0 : Int32), h1)
  else
  qm_b2 (qX12_hintOf a0 (0 : Int32) h1) fun r4 h3 =>
  qm_b2 (qX12_hintOf a0 (1 : Int32) (qm_seti h3 a0 25 r4)) fun r6 h5 =>
  qm_let (qm_seti (qm_seti h5 a0 26 r6) a0 27 (((qm_seti h5 a0 26 r6).1 a0 25) * ((qm_seti h5 a0 26 r6).1 a0 26))) fun h7 =>
  some ((1 : Int32), h7)
def qX12_clues  (a0 : Nat) (x1 : Int32) (x2 : Int32) (h : qm_H) : Option (Int32 × qm_H) :=
  qm_let (qm_seti h a0 0 (0 : Int32)) fun h1 =>
  qm_b2 (qX12_hasClues a0 x1 h1) fun r3 h2 =>
  if r3 = (0 : Int32) then
  some ((-1 : Int32), h2)
  else
  qm_b2 (qX12_in x2 (10 : Int32) (39 : Int32) h2) fun r5 h4 =>
  if r5 = (0 : Int32) then
  qm_b2 (qX12_in x2 (0 : Int32) (2 : Int32) h4) fun r7 h6 =>
  if r7 = (0 : Int32) then
  some ((-1 : Int32), h6)
  else
  qm_b2 (qX12_hintOf a0 x2 h6) fun r9 h8 =>
  some (r9, h8)
  else
  qm_b2 (qX12_hintOf a0 (2 : Int32) h4) fun r11 h10 =>
  if (qm_irem x2 (10 : Int32)) < r11 then
  qm_b2 (qX12_hintOf a0 ((((3 : Int32) + ((3 : Int32) * (qm_irem x2 (10 : Int32)))) + (x2 / (10 : Int32))) - (1 : Int32)) h10) fun r13 h12 =>
  some (r13, h12)
  else
  some ((-1 : Int32), h10)
def qX12_widthOf  (x0 : Int32) (h : qm_H) : Option (Int32 × qm_H) :=
  some (((qm_irem (x0 / (64 : Int32)) (8 : Int32)) + (1 : Int32)), h)
def qX12_heightOf  (x0 : Int32) (h : qm_H) : Option (Int32 × qm_H) :=
  some (((x0 / (512 : Int32)) + (1 : Int32)), h)
def qX12_isInGap  (a0 : Nat) (x1 : Int32) (x2 : Int32) (x3 : Int32) (h : qm_H) : Option (Int32 × qm_H) :=
  qm_let (qm_irem x1 (64 : Int32)) fun v1 =>
  if (h.1 a0 25) = 0 then none else
  qm_b2 (qX12_widthOf x1 h) fun r3 h2 =>
  qm_b2 (qX12_in (x2 - (qm_irem v1 (h.1 a0 25))) (0 : Int32) (r3 - (1 : Int32)) h2) fun r5 h4 =>
  if r5 = (0 : Int32) then
  some ((0 : Int32), h4)
  else
  if (h4.1 a0 25) = 0 then none else
  qm_b2 (qX12_heightOf x1 h4) fun r7 h6 =>
  qm_b2 (qX12_in (x3 - (v1 / (h4.1 a0 25))) (0 : Int32) (r7 - (1 : Int32)) h6) fun r9 h8 =>
  if r9 = (0 : Int32) then
  some ((0 : Int32), h8)
  else
  some ((1 : Int32), h8)
def qX12_isSo_83 (K2 : Nat → Int32 → Int32 → qm_H → Option (Int32 × qm_H)) (a0 : Nat) (x1 : Int32) (x2 : Int32) (x3 : Int32) (xs0 : Int32) (h : qm_H) : Option (Int32 × qm_H) :=
  if (qm_irem x3 (2 : Int32)) = (0 : Int32) then
  if xs0 = (1 : Int32) then
  K2 a0 x1 (x2 + (1 : Int32)) h
  else
  some ((0 : Int32), h)
  else
  if xs0 = (0 : Int32) then
  K2 a0 x1 (x2 + (1 : Int32)) h
  else
  some ((0 : Int32), h)
def qX12_isSo_2  (fuel : Nat) (a0 : Nat) (x1 : Int32) (x2 : Int32) (h : qm_H) : Option (Int32 × qm_H) := match fuel with
  | 0 => none
  | n + 1 =>
    qm_b2 (qX12_hintOf a0 (2 : Int32) h) fun r2 h1 =>
    if x2 < r2 then
    qm_b2 (qX12_hintOf a0 ((3 : Int32) + ((3 : Int32) * x2)) h1) fun r4 h3 =>
    qm_b2 (qX12_hintOf a0 ((4 : Int32) + ((3 : Int32) * x2)) h3) fun r6 h5 =>
    qm_b2 (qX12_hintOf a0 ((5 : Int32) + ((3 : Int32) * x2)) h5) fun r8 h7 =>
    if r4 < (2 : Int32) then
    qm_b2 (qX12_isInGap a0 x1 r6 r8 h7) fun r14 h13 =>
    qX12_isSo_83 (qX12_isSo_2 n) a0 x1 x2 r4 r14 h13
    else
    qm_b2 (qX12_widthOf x1 h7) fun r10 h9 =>
    if r10 < r6 then
    qX12_isSo_83 (qX12_isSo_2 n) a0 x1 x2 r4 (0 : Int32) h9
    else
    qm_b2 (qX12_heightOf x1 h9) fun r12 h11 =>
    if r12 < r8 then
    qX12_isSo_83 (qX12_isSo_2 n) a0 x1 x2 r4 (0 : Int32) h11
    else
    qX12_isSo_83 (qX12_isSo_2 n) a0 x1 x2 r4 (1 : Int32) h11
    else
    some ((1 : Int32), h1)
def qX12_isSo  (a0 : Nat) (x1 : Int32) (h : qm_H) : Option (Int32 × qm_H) :=
  qX12_isSo_2 qm_N a0 x1 (0 : Int32) h
def qX12_findFitting_71 (K7 : Nat → Int32 → qm_H → Option (qm_H)) (a0 : Nat) (x1 : Int32) (xs0 : Int32) (h : qm_H) : Option (qm_H) :=
  if xs0 = (0 : Int32) then
  K7 a0 (x1 + (1 : Int32)) h
  else
  qm_b2 (qX12_isSo a0 x1 h) fun r2 h1 =>
  if r2 = (0 : Int32) then
  K7 a0 (x1 + (1 : Int32)) h1
  else
  if (h1.1 a0 47) < 0 ∨ 1296 ≤ (h1.1 a0 47).toNatClampNeg then none else
  qm_let (qm_seti h1 (a0 + 24) (h1.1 a0 47).toNatClampNeg x1) fun h3 =>
  qm_let (qm_seti h3 a0 47 ((h3.1 a0 47) + (1 : Int32))) fun h4 =>
  K7 a0 (x1 + (1 : Int32)) h4
def qX12_findFitting_7  (fuel : Nat) (a0 : Nat) (x1 : Int32) (h : qm_H) : Option (qm_H) := match fuel with
  | 0 => none
  | n + 1 =>
    if x1 < (4096 : Int32) then
    qm_b2 (qX12_widthOf x1 h) fun r2 h1 =>
    if (h1.1 a0 25) < r2 then
    qX12_findFitting_71 (qX12_findFitting_7 n) a0 x1 (0 : Int32) h1
    else
    qm_b2 (qX12_heightOf x1 h1) fun r4 h3 =>
    if (h3.1 a0 26) < r4 then
    qX12_findFitting_71 (qX12_findFitting_7 n) a0 x1 (0 : Int32) h3
    else
    if (qm_irem x1 (64 : Int32)) < (h3.1 a0 27) then
    qm_b2 (qX12_widthOf x1 h3) fun r6 h5 =>
    qm_b2 (qX12_heightOf x1 h5) fun r8 h7 =>
    qm_b2 (qX12_isPlace a0 (qm_irem x1 (64 : Int32)) r6 r8 h7) fun r10 h9 =>
    if r10 = (0 : Int32) then
    qX12_findFitting_71 (qX12_findFitting_7 n) a0 x1 (0 : Int32) h9
    else
    qX12_findFitting_71 (qX12_findFitting_7 n) a0 x1 (1 : Int32) h9
    else
    qX12_findFitting_71 (qX12_findFitting_7 n) a0 x1 (0 : Int32) h3
    else
    some h
def qX12_findFitting  (a0 : Nat) (h : qm_H) : Option (qm_H) :=
  qm_let (qm_seti h a0 47 (0 : Int32)) fun h1 =>
  qX12_findFitting_7 qm_N a0 (0 : Int32) h1
def qX12_openIn_4  (fuel : Nat) (a0 : Nat) (x1 : Int32) (x2 : Int32) (x3 : Int32) (h : qm_H) : Option (Int32 × qm_H) := match fuel with
  | 0 => none
  | n + 1 =>
    if x3 < (h.1 a0 47) then
    if x3 < 0 ∨ 1296 ≤ (x3).toNatClampNeg then none else
    if (h.1 a0 25) = 0 then none else
    if (h.1 a0 25) = 0 then none else
    qm_b2 (qX12_isInGap a0 (h.1 (a0 + 24) (x3).toNatClampNeg) (qm_irem x1 (h.1 a0 25)) (x1 / (h.1 a0 25)) h) fun r2 h1 =>
    if r2 = (0 : Int32) then
    qm_let (x2 + (0 : Int32)) fun v3 =>
    (qX12_openIn_4 n) a0 x1 v3 (x3 + (1 : Int32)) h1
    else
    qm_let (x2 + (1 : Int32)) fun v4 =>
    (qX12_openIn_4 n) a0 x1 v4 (x3 + (1 : Int32)) h1
    else
    some (x2, h)
def qX12_openIn  (a0 : Nat) (x1 : Int32) (h : qm_H) : Option (Int32 × qm_H) :=
  qX12_openIn_4 qm_N a0 x1 (0 : Int32) (0 : Int32) h
def qX12_askOf_44 (K8 : Nat → Int32 → Int32 → Int32 → qm_H → Option (Int32 × qm_H)) (a0 : Nat) (x2 : Int32) (x3 : Int32) (x4 : Int32) (xs0 : Int32) (h : qm_H) : Option (Int32 × qm_H) :=
  qm_b2 (qX12_greater x4 ((h.1 a0 47) - x4) h) fun r2 h1 =>
  qm_b2 (qX12_lesser x2 r2 h1) fun r4 h3 =>
  K8 a0 xs0 r4 (x3 + (1 : Int32)) h3
def qX12_askOf_8  (fuel : Nat) (a0 : Nat) (x1 : Int32) (x2 : Int32) (x3 : Int32) (h : qm_H) : Option (Int32 × qm_H) := match fuel with
  | 0 => none
  | n + 1 =>
    if x3 < (h.1 a0 27) then
    qm_b2 (qX12_openIn a0 x3 h) fun r2 h1 =>
    qm_b2 (qX12_greater r2 ((h1.1 a0 47) - r2) h1) fun r4 h3 =>
    if r4 < x2 then
    qX12_askOf_44 (qX12_askOf_8 n) a0 x2 x3 r2 x3 h3
    else
    qX12_askOf_44 (qX12_askOf_8 n) a0 x2 x3 r2 x1 h3
    else
    some (x1, h)
def qX12_askOf  (a0 : Nat) (h : qm_H) : Option (Int32 × qm_H) :=
  qX12_askOf_8 qm_N a0 (-1 : Int32) (1000000 : Int32) (0 : Int32) h
def qX12_gaps  (a0 : Nat) (x1 : Int32) (x2 : Int32) (h : qm_H) : Option (Int32 × qm_H) :=
  qm_let (qm_seti h a0 0 (0 : Int32)) fun h1 =>
  qm_b2 (qX12_hasClues a0 x1 h1) fun r3 h2 =>
  if r3 = (0 : Int32) then
  some ((-2 : Int32), h2)
  else
  (qX12_findFitting a0 h2).bind fun h4 =>
  if x2 < (1000 : Int32) then
  qm_b2 (qX12_in x2 (100 : Int32) ((99 : Int32) + (h4.1 a0 27)) h4) fun r6 h5 =>
  if r6 = (0 : Int32) then
  if x2 = (0 : Int32) then
  some ((h5.1 a0 47), h5)
  else
  if x2 = (1 : Int32) then
  if (h5.1 a0 47) = (0 : Int32) then
  some ((-1 : Int32), h5)
  else
  qm_b2 (qX12_askOf a0 h5) fun r8 h7 =>
  some (r8, h7)
  else
  some ((-2 : Int32), h5)
  else
  qm_b2 (qX12_openIn a0 (x2 - (100 : Int32)) h5) fun r10 h9 =>
  if (h9.1 a0 47) = (0 : Int32) then
  some ((-1 : Int32), h9)
  else
  if r10 = (h9.1 a0 47) then
  some ((1 : Int32), h9)
  else
  if r10 = (0 : Int32) then
  some ((0 : Int32), h9)
  else
  some ((-1 : Int32), h9)
  else
  if (x2 - (1000 : Int32)) < (h4.1 a0 47) then
  if (x2 - (1000 : Int32)) < 0 ∨ 1296 ≤ (x2 - (1000 : Int32)).toNatClampNeg then none else
  some ((h4.1 (a0 + 24) (x2 - (1000 : Int32)).toNatClampNeg), h4)
  else
  some ((-2 : Int32), h4)
def qX12_draw  (a0 : Nat) (x1 : Int32) (h : qm_H) : Option (Int32 × qm_H) :=
  qm_let (qm_seti h a0 49 (((h.1 a0 49) * (1103515245 : Int32)) + (12345 : Int32))) fun h1 =>
  if x1 = 0 then none else
  some ((qm_irem (qm_iushr (h1.1 a0 49) (16 : Int32)) x1), h1)
def qX12_drawDeed_80  (xs0 : Int32) (as1 : Nat) (xs2 : Int32) (xs3 : Int32) (as4 : Nat) (h : qm_H) : Option (qm_H) :=
  qm_b2 (qX12_draw as1 xs0 h) fun r2 h1 =>
  qm_b2 (qX12_tends as4 xs3 xs2 r2 h1) fun r4 h3 =>
  some h3
def qX12_drawDeed  (a0 : Nat) (h : qm_H) : Option (qm_H) :=
  qm_b2 (qX12_draw a0 (8 : Int32) h) fun r2 h1 =>
  if r2 < (3 : Int32) then
  qm_b2 (qX12_draw a0 (4 : Int32) h1) fun r12 h11 =>
  qm_let ((1 : Int32) + r12) fun v13 =>
  qm_b2 (qX12_draw a0 (4 : Int32) h11) fun r15 h14 =>
  qm_let ((1 : Int32) + r15) fun v16 =>
  qm_b2 (qX12_draw a0 (40 : Int32) h14) fun r18 h17 =>
  qm_b2 (qX12_comes a0 v13 v16 r18 h17) fun r20 h19 =>
  some h19
  else
  if r2 < (5 : Int32) then
  if r2 = (3 : Int32) then
  if r2 = (3 : Int32) then
  qX12_drawDeed_80 (h1.1 a0 26) a0 (r2 - (3 : Int32)) (1 : Int32) a0 h1
  else
  qX12_drawDeed_80 (h1.1 a0 25) a0 (r2 - (3 : Int32)) (1 : Int32) a0 h1
  else
  if r2 = (3 : Int32) then
  qX12_drawDeed_80 (h1.1 a0 26) a0 (r2 - (3 : Int32)) (2 : Int32) a0 h1
  else
  qX12_drawDeed_80 (h1.1 a0 25) a0 (r2 - (3 : Int32)) (2 : Int32) a0 h1
  else
  if r2 = (5 : Int32) then
  qm_b2 (qX12_draw a0 (h1.1 a0 27) h1) fun r8 h7 =>
  if (h7.1 a0 25) = 0 then none else
  if (h7.1 a0 25) = 0 then none else
  qm_b2 (qX12_weaves a0 (qm_irem r8 (h7.1 a0 25)) (r8 / (h7.1 a0 25)) h7) fun r10 h9 =>
  some h9
  else
  if r2 = (6 : Int32) then
  qm_b2 (qX12_winters a0 h1) fun r6 h5 =>
  some h5
  else
  qm_b2 (qX12_soaks a0 ((1 : Int32) - (h1.1 a0 28)) h1) fun r4 h3 =>
  some h3
def qX12_drawn_38  (fuel : Nat) (a0 : Nat) (x3 : Int32) (x4 : Int32) (x5 : Int32) (h : qm_H) : Option (Int32 × qm_H) := match fuel with
  | 0 => none
  | n + 1 =>
    if x5 < x3 then
    (qX12_drawDeed a0 h).bind fun h3 =>
    (qX12_drawn_38 n) a0 x3 x4 (x5 + (1 : Int32)) h3
    else
    qm_b2 (qX12_ofState a0 x4 h) fun r2 h1 =>
    some (r2, h1)
def qX12_drawn  (a0 : Nat) (x1 : Int32) (x2 : Int32) (x3 : Int32) (x4 : Int32) (h : qm_H) : Option (Int32 × qm_H) :=
  qm_let (qm_seti h a0 0 (0 : Int32)) fun h1 =>
  qm_b2 (qX12_in x3 (0 : Int32) (60 : Int32) h1) fun r3 h2 =>
  if r3 = (0 : Int32) then
  some ((-2 : Int32), h2)
  else
  qm_b2 (qX12_hand a0 x1 h2) fun r5 h4 =>
  if r5 = (0 : Int32) then
  some ((-2 : Int32), h4)
  else
  (qX12_begin a0 (qm_seti h4 a0 49 x2)).bind fun h6 =>
  qX12_drawn_38 qm_N a0 x3 x4 (0 : Int32) h6
def qX12_precedent_33  (fuel : Nat) (a0 : Nat) (x3 : Int32) (x4 : Int32) (x5 : Int32) (h : qm_H) : Option (Int32 × qm_H) := match fuel with
  | 0 => none
  | n + 1 =>
    qm_b2 (qX12_deeds a0 h) fun r2 h1 =>
    if r2 < x5 then
    some ((-1 : Int32), h1)
    else
    qm_b2 (qX12_slipsBy a0 x3 x4 h1) fun r4 h3 =>
    if r4 = (-1 : Int32) then
    qm_b2 (qX12_deeds a0 h3) fun r6 h5 =>
    if x5 = r6 then
    some ((-1 : Int32), h5)
    else
    qm_b2 (qX12_doesDeed a0 x5 h5) fun r8 h7 =>
    if r8 = (0 : Int32) then
    some ((-1 : Int32), h7)
    else
    (qX12_precedent_33 n) a0 x3 x4 (x5 + (1 : Int32)) h7
    else
    some (x5, h3)
def qX12_precedent  (a0 : Nat) (x1 : Int32) (x2 : Int32) (x3 : Int32) (x4 : Int32) (h : qm_H) : Option (Int32 × qm_H) :=
  qm_let (qm_seti h a0 0 (0 : Int32)) fun h1 =>
  qm_b2 (qX12_isSize x3 x4 h1) fun r3 h2 =>
  if r3 = (0 : Int32) then
  some ((-2 : Int32), h2)
  else
  qm_b2 (qX12_layAll a0 x1 x2 h2) fun r5 h4 =>
  if r5 = (0 : Int32) then
  some ((-2 : Int32), h4)
  else
  (qX12_begin a0 h4).bind fun h6 =>
  qX12_precedent_33 qm_N a0 x3 x4 (0 : Int32) h6
def qX12_holdOf  (a0 : Nat) (x1 : Int32) (x2 : Int32) (h : qm_H) : Option (Int32 × qm_H) :=
  qm_b2 (qX12_weakest a0 x1 x2 (0 : Int32) h) fun r2 h1 =>
  qm_b2 (qX12_holdsAt a0 r2 x1 x2 (0 : Int32) h1) fun r4 h3 =>
  some (r4, h3)
def qX12_stout_162 (K51 : Nat → Int32 → Int32 → Int32 → Int32 → Int32 → Int32 → qm_H → Option (Int32 × qm_H)) (a0 : Nat) (x2 : Int32) (x3 : Int32) (x4 : Int32) (x6 : Int32) (x7 : Int32) (x9 : Int32) (xs0 : Int32) (h : qm_H) : Option (Int32 × qm_H) :=
  qm_b2 (qX12_greater x6 x9 h) fun r2 h1 =>
  K51 a0 x2 x3 x4 xs0 r2 (x7 + (1 : Int32)) h1
def qX12_stout_99 (K51 : Nat → Int32 → Int32 → Int32 → Int32 → Int32 → Int32 → qm_H → Option (Int32 × qm_H)) (a0 : Nat) (x2 : Int32) (x3 : Int32) (x4 : Int32) (x5 : Int32) (x6 : Int32) (x7 : Int32) (xs0 : Int32) (h : qm_H) : Option (Int32 × qm_H) :=
  if xs0 = (0 : Int32) then
  K51 a0 x2 x3 x4 x5 x6 (x7 + (1 : Int32)) h
  else
  if x7 < 0 ∨ 16 ≤ (x7).toNatClampNeg then none else
  if (h.1 (a0 + 12) (x7).toNatClampNeg) < (9 : Int32) then
  if x7 < 0 ∨ 16 ≤ (x7).toNatClampNeg then none else
  if x7 < 0 ∨ 16 ≤ (x7).toNatClampNeg then none else
  qm_let (qm_seti h (a0 + 12) (x7).toNatClampNeg ((h.1 (a0 + 12) (x7).toNatClampNeg) + (1 : Int32))) fun h1 =>
  qm_b2 (qX12_holdOf a0 x2 x3 h1) fun r3 h2 =>
  if x7 < 0 ∨ 16 ≤ (x7).toNatClampNeg then none else
  if x7 < 0 ∨ 16 ≤ (x7).toNatClampNeg then none else
  qm_let (qm_seti h2 (a0 + 12) (x7).toNatClampNeg ((h2.1 (a0 + 12) (x7).toNatClampNeg) - (1 : Int32))) fun h4 =>
  if x6 < r3 then
  qX12_stout_162 K51 a0 x2 x3 x4 x6 x7 r3 x7 h4
  else
  qX12_stout_162 K51 a0 x2 x3 x4 x6 x7 r3 x5 h4
  else
  K51 a0 x2 x3 x4 x5 x6 (x7 + (1 : Int32)) h
def qX12_stout_51  (fuel : Nat) (a0 : Nat) (x2 : Int32) (x3 : Int32) (x4 : Int32) (x5 : Int32) (x6 : Int32) (x7 : Int32) (h : qm_H) : Option (Int32 × qm_H) := match fuel with
  | 0 => none
  | n + 1 =>
    if x7 < (16 : Int32) then
    if x7 < (8 : Int32) then
    if x7 < (h.1 a0 26) then
    qX12_stout_99 (qX12_stout_51 n) a0 x2 x3 x4 x5 x6 x7 (1 : Int32) h
    else
    qX12_stout_99 (qX12_stout_51 n) a0 x2 x3 x4 x5 x6 x7 (0 : Int32) h
    else
    if (x7 - (8 : Int32)) < (h.1 a0 25) then
    qX12_stout_99 (qX12_stout_51 n) a0 x2 x3 x4 x5 x6 x7 (1 : Int32) h
    else
    qX12_stout_99 (qX12_stout_51 n) a0 x2 x3 x4 x5 x6 x7 (0 : Int32) h
    else
    if x4 = (0 : Int32) then
    some (x5, h)
    else
    some (x6, h)
def qX12_stout  (a0 : Nat) (x1 : Int32) (x2 : Int32) (x3 : Int32) (x4 : Int32) (h : qm_H) : Option (Int32 × qm_H) :=
  qm_let (qm_seti h a0 0 (0 : Int32)) fun h1 =>
  qm_b2 (qX12_isSize x2 x3 h1) fun r3 h2 =>
  if r3 = (0 : Int32) then
  some ((-1 : Int32), h2)
  else
  qm_b2 (qX12_hand a0 x1 h2) fun r5 h4 =>
  if r5 = (0 : Int32) then
  some ((-1 : Int32), h4)
  else
  qm_b2 (qX12_isWithin a0 x2 x3 h4) fun r7 h6 =>
  if r7 = (0 : Int32) then
  some ((-1 : Int32), h6)
  else
  qm_b2 (qX12_slipsBy a0 x2 x3 h6) fun r9 h8 =>
  if r9 = (-1 : Int32) then
  qX12_stout_51 qm_N a0 x2 x3 x4 (-1 : Int32) (-1 : Int32) (0 : Int32) h8
  else
  some ((-1 : Int32), h8)
def qX12_soft_115 (K36 : Nat → Int32 → Int32 → Int32 → Int32 → Int32 → qm_H → Option (Int32 × qm_H)) (a0 : Nat) (x2 : Int32) (x3 : Int32) (x5 : Int32) (x6 : Int32) (x8 : Int32) (xs0 : Int32) (h : qm_H) : Option (Int32 × qm_H) :=
  qm_b2 (qX12_lesser x5 x8 h) fun r2 h1 =>
  K36 a0 x2 x3 xs0 r2 (x6 + (1 : Int32)) h1
def qX12_soft_36  (fuel : Nat) (a0 : Nat) (x2 : Int32) (x3 : Int32) (x4 : Int32) (x5 : Int32) (x6 : Int32) (h : qm_H) : Option (Int32 × qm_H) := match fuel with
  | 0 => none
  | n + 1 =>
    if (h.1 a0 25) < x6 then
    if x4 = (-1 : Int32) then
    some (x4, h)
    else
    if x3 = (0 : Int32) then
    some (x4, h)
    else
    some (x5, h)
    else
    if x6 = 0 then none else
    if (x6 * (x2 / x6)) = x2 then
    qm_b2 (qX12_in (x2 / x6) (1 : Int32) (h.1 a0 26) h) fun r2 h1 =>
    if r2 = (0 : Int32) then
    (qX12_soft_36 n) a0 x2 x3 x4 x5 (x6 + (1 : Int32)) h1
    else
    qm_b2 (qX12_slipsBy a0 x6 (x2 / x6) h1) fun r4 h3 =>
    if r4 = (-1 : Int32) then
    qm_b2 (qX12_holdOf a0 x6 (x2 / x6) h3) fun r6 h5 =>
    if r6 < x5 then
    qX12_soft_115 (qX12_soft_36 n) a0 x2 x3 x5 x6 r6 (((10 : Int32) * x6) + (x2 / x6)) h5
    else
    qX12_soft_115 (qX12_soft_36 n) a0 x2 x3 x5 x6 r6 x4 h5
    else
    (qX12_soft_36 n) a0 x2 x3 x4 x5 (x6 + (1 : Int32)) h3
    else
    (qX12_soft_36 n) a0 x2 x3 x4 x5 (x6 + (1 : Int32)) h
def qX12_soft  (a0 : Nat) (x1 : Int32) (x2 : Int32) (x3 : Int32) (h : qm_H) : Option (Int32 × qm_H) :=
  qm_let (qm_seti h a0 0 (0 : Int32)) fun h1 =>
  qm_b2 (qX12_in x2 (1 : Int32) (64 : Int32) h1) fun r3 h2 =>
  if r3 = (0 : Int32) then
  some ((-1 : Int32), h2)
  else
  qm_b2 (qX12_hand a0 x1 h2) fun r5 h4 =>
  if r5 = (0 : Int32) then
  some ((-1 : Int32), h4)
  else
  qX12_soft_36 qm_N a0 x2 x3 (-1 : Int32) (1000000 : Int32) (1 : Int32) h4
def qX12_tunnel  (a0 : Nat) (x1 : Int32) (x2 : Int32) (x3 : Int32) (h : qm_H) : Option (Int32 × qm_H) :=
  qm_let (qm_seti h a0 0 (0 : Int32)) fun h1 =>
  qm_b2 (qX12_hand a0 x1 h1) fun r3 h2 =>
  if r3 = (0 : Int32) then
  some ((-1 : Int32), h2)
  else
  qm_b2 (qX12_isCell a0 x2 h2) fun r5 h4 =>
  if r5 = (0 : Int32) then
  some ((-1 : Int32), h4)
  else
  qm_b2 (qX12_isCell a0 x3 h4) fun r7 h6 =>
  if r7 = (0 : Int32) then
  some ((-1 : Int32), h6)
  else
  (qX12_findSoon a0 x2 h6).bind fun h8 =>
  if x3 < 0 ∨ 64 ≤ (x3).toNatClampNeg then none else
  some (((h8.1 (a0 + 18) (x3).toNatClampNeg) / (256 : Int32)), h8)
def qX12_columnMany_4  (fuel : Nat) (a0 : Nat) (x1 : Int32) (x2 : Int32) (x3 : Int32) (h : qm_H) : Option (Int32 × qm_H) := match fuel with
  | 0 => none
  | n + 1 =>
    if x3 < (h.1 a0 26) then
    if x3 < 0 ∨ 8 ≤ (x3).toNatClampNeg then none else
    qm_b2 (qX12_has (h.1 (a0 + 14) (x3).toNatClampNeg) x1 h) fun r2 h1 =>
    if r2 = (0 : Int32) then
    qm_let (x2 + (0 : Int32)) fun v3 =>
    (qX12_columnMany_4 n) a0 x1 v3 (x3 + (1 : Int32)) h1
    else
    qm_let (x2 + (1 : Int32)) fun v4 =>
    (qX12_columnMany_4 n) a0 x1 v4 (x3 + (1 : Int32)) h1
    else
    some (x2, h)
def qX12_columnMany  (a0 : Nat) (x1 : Int32) (h : qm_H) : Option (Int32 × qm_H) :=
  qX12_columnMany_4 qm_N a0 x1 (0 : Int32) (0 : Int32) h
def qX12_mirrors_64 (K6 : Nat → Int32 → Int32 → Int32 → qm_H → Option (Int32 × qm_H)) (a0 : Nat) (x2 : Int32) (x3 : Int32) (x4 : Int32) (xs0 : Int32) (h : qm_H) : Option (Int32 × qm_H) :=
  if x2 = (0 : Int32) then
  K6 a0 xs0 (0 : Int32) (x3 + (1 : Int32)) h
  else
  qm_b2 (qX12_isOpen a0 x3 h) fun r2 h1 =>
  if (h1.1 a0 25) = 0 then none else
  qm_b2 (qX12_isOpen a0 ((((h1.1 a0 27) - (h1.1 a0 25)) - x4) + (qm_irem x3 (h1.1 a0 25))) h1) fun r4 h3 =>
  if r2 = r4 then
  K6 a0 xs0 (1 : Int32) (x3 + (1 : Int32)) h3
  else
  K6 a0 xs0 (0 : Int32) (x3 + (1 : Int32)) h3
def qX12_mirrors_6  (fuel : Nat) (a0 : Nat) (x1 : Int32) (x2 : Int32) (x3 : Int32) (h : qm_H) : Option (Int32 × qm_H) := match fuel with
  | 0 => none
  | n + 1 =>
    if x3 < (h.1 a0 27) then
    if (h.1 a0 25) = 0 then none else
    qm_let ((x3 / (h.1 a0 25)) * (h.1 a0 25)) fun v1 =>
    if x1 = (0 : Int32) then
    qX12_mirrors_64 (qX12_mirrors_6 n) a0 x2 x3 v1 (0 : Int32) h
    else
    qm_b2 (qX12_isOpen a0 x3 h) fun r3 h2 =>
    if (h2.1 a0 25) = 0 then none else
    qm_b2 (qX12_isOpen a0 (((v1 + (h2.1 a0 25)) - (1 : Int32)) - (qm_irem x3 (h2.1 a0 25))) h2) fun r5 h4 =>
    if r3 = r5 then
    qX12_mirrors_64 (qX12_mirrors_6 n) a0 x2 x3 v1 (1 : Int32) h4
    else
    qX12_mirrors_64 (qX12_mirrors_6 n) a0 x2 x3 v1 (0 : Int32) h4
    else
    if x1 = (0 : Int32) then
    if x2 = (0 : Int32) then
    some (((0 : Int32) + (0 : Int32)), h)
    else
    some (((0 : Int32) + (2 : Int32)), h)
    else
    if x2 = (0 : Int32) then
    some (((1 : Int32) + (0 : Int32)), h)
    else
    some (((1 : Int32) + (2 : Int32)), h)
def qX12_mirrors  (a0 : Nat) (h : qm_H) : Option (Int32 × qm_H) :=
  qX12_mirrors_6 qm_N a0 (1 : Int32) (1 : Int32) (0 : Int32) h
def qX12_mirrored_76 (K32 : Nat → Int32 → Int32 → Int32 → Int32 → qm_H → Option (Int32 × qm_H)) (a0 : Nat) (x2 : Int32) (x4 : Int32) (x5 : Int32) (xs0 : Int32) (h : qm_H) : Option (Int32 × qm_H) :=
  if x5 < (h.1 a0 25) then
  qm_b2 (qX12_columnMany a0 x5 h) fun r2 h1 =>
  qm_b2 (qX12_columnMany a0 x4 h1) fun r4 h3 =>
  if r4 < r2 then
  K32 a0 x2 xs0 x5 (x5 + (1 : Int32)) h3
  else
  K32 a0 x2 xs0 x4 (x5 + (1 : Int32)) h3
  else
  K32 a0 x2 xs0 x4 (x5 + (1 : Int32)) h
def qX12_mirrored_32  (fuel : Nat) (a0 : Nat) (x2 : Int32) (x3 : Int32) (x4 : Int32) (x5 : Int32) (h : qm_H) : Option (Int32 × qm_H) := match fuel with
  | 0 => none
  | n + 1 =>
    if x5 < (8 : Int32) then
    if x5 < (h.1 a0 26) then
    if x5 < 0 ∨ 8 ≤ (x5).toNatClampNeg then none else
    qm_b2 (qX12_ones (h.1 (a0 + 14) (x5).toNatClampNeg) h) fun r4 h3 =>
    if x3 < 0 ∨ 8 ≤ (x3).toNatClampNeg then none else
    qm_b2 (qX12_ones (h3.1 (a0 + 14) (x3).toNatClampNeg) h3) fun r6 h5 =>
    if r6 < r4 then
    qX12_mirrored_76 (qX12_mirrored_32 n) a0 x2 x4 x5 x5 h5
    else
    qX12_mirrored_76 (qX12_mirrored_32 n) a0 x2 x4 x5 x3 h5
    else
    qX12_mirrored_76 (qX12_mirrored_32 n) a0 x2 x4 x5 x3 h
    else
    if x2 = (0 : Int32) then
    qm_b2 (qX12_mirrors a0 h) fun r2 h1 =>
    some (r2, h1)
    else
    if x2 = (1 : Int32) then
    some (x3, h)
    else
    some (x4, h)
def qX12_mirrored  (a0 : Nat) (x1 : Int32) (x2 : Int32) (h : qm_H) : Option (Int32 × qm_H) :=
  qm_let (qm_seti h a0 0 (0 : Int32)) fun h1 =>
  qm_b2 (qX12_hand a0 x1 h1) fun r3 h2 =>
  if r3 = (0 : Int32) then
  some ((-1 : Int32), h2)
  else
  qm_b2 (qX12_in x2 (0 : Int32) (2 : Int32) h2) fun r5 h4 =>
  if r5 = (0 : Int32) then
  some ((-1 : Int32), h4)
  else
  qX12_mirrored_32 qm_N a0 x2 (0 : Int32) (0 : Int32) (1 : Int32) h4
def qX12_ownerOf_5  (fuel : Nat) (x1 : Int32) (x2 : Int32) (x3 : Int32) (x4 : Int32) (h : qm_H) : Option (Int32 × qm_H) := match fuel with
  | 0 => none
  | n + 1 =>
    if x4 < x2 then
    if x1 = 0 then none else
    (qX12_ownerOf_5 n) x1 x2 (x3 / x1) (x4 + (1 : Int32)) h
    else
    if x1 = 0 then none else
    some ((qm_irem x3 x1), h)
def qX12_ownerOf  (x0 : Int32) (x1 : Int32) (x2 : Int32) (h : qm_H) : Option (Int32 × qm_H) :=
  qX12_ownerOf_5 qm_N x1 x2 x0 (0 : Int32) h
def qX12_mostHad_17 (K5 : Nat → Int32 → Int32 → Int32 → Int32 → qm_H → Option (Int32 × qm_H)) (fuel : Nat) (a0 : Nat) (x1 : Int32) (x2 : Int32) (x3 : Int32) (x4 : Int32) (x5 : Int32) (x6 : Int32) (h : qm_H) : Option (Int32 × qm_H) := match fuel with
  | 0 => none
  | n + 1 =>
    if x6 < (h.1 a0 41) then
    qm_b2 (qX12_ownerOf x1 x2 (((h.1 a0 41) - (1 : Int32)) - x6) h) fun r4 h3 =>
    if r4 = x4 then
    qm_b2 (qX12_rod a0 x6 h3) fun r7 h6 =>
    (qX12_mostHad_17 K5 n) a0 x1 x2 x3 x4 (x5 + r7) (x6 + (1 : Int32)) h6
    else
    qm_let (x5 + (0 : Int32)) fun v5 =>
    (qX12_mostHad_17 K5 n) a0 x1 x2 x3 x4 v5 (x6 + (1 : Int32)) h3
    else
    qm_b2 (qX12_greater x3 x5 h) fun r2 h1 =>
    K5 a0 x1 x2 r2 (x4 + (1 : Int32)) h1
def qX12_mostHad_5  (fuel : Nat) (a0 : Nat) (x1 : Int32) (x2 : Int32) (x3 : Int32) (x4 : Int32) (h : qm_H) : Option (Int32 × qm_H) := match fuel with
  | 0 => none
  | n + 1 =>
    if x4 < x2 then
    qX12_mostHad_17 (qX12_mostHad_5 n) qm_N a0 x1 x2 x3 x4 (0 : Int32) (0 : Int32) h
    else
    some (x3, h)
def qX12_mostHad  (a0 : Nat) (x1 : Int32) (x2 : Int32) (h : qm_H) : Option (Int32 × qm_H) :=
  qX12_mostHad_5 qm_N a0 x1 x2 (0 : Int32) (0 : Int32) h
def qX12_divided_106 (K76 : Nat → Int32 → Int32 → Int32 → Int32 → Int32 → Int32 → qm_H → Option (Int32 × qm_H)) (a0 : Nat) (x2 : Int32) (x3 : Int32) (x4 : Int32) (x6 : Int32) (x7 : Int32) (x8 : Int32) (xs0 : Int32) (h : qm_H) : Option (Int32 × qm_H) :=
  qm_b2 (qX12_lesser x6 x8 h) fun r2 h1 =>
  K76 a0 x2 x3 x4 xs0 r2 (x7 + (1 : Int32)) h1
def qX12_divided_76  (fuel : Nat) (a0 : Nat) (x2 : Int32) (x3 : Int32) (x4 : Int32) (x5 : Int32) (x6 : Int32) (x7 : Int32) (h : qm_H) : Option (Int32 × qm_H) := match fuel with
  | 0 => none
  | n + 1 =>
    if x7 < x4 then
    qm_b2 (qX12_mostHad a0 x7 x2 h) fun r4 h3 =>
    if r4 < x6 then
    qX12_divided_106 (qX12_divided_76 n) a0 x2 x3 x4 x6 x7 r4 x7 h3
    else
    qX12_divided_106 (qX12_divided_76 n) a0 x2 x3 x4 x6 x7 r4 x5 h3
    else
    if x3 = (-1 : Int32) then
    some (x6, h)
    else
    qm_b2 (qX12_ownerOf x5 x2 (((h.1 a0 41) - (1 : Int32)) - x3) h) fun r2 h1 =>
    some (r2, h1)
def qX12_divided_44  (fuel : Nat) (a0 : Nat) (x2 : Int32) (x3 : Int32) (x4 : Int32) (x5 : Int32) (h : qm_H) : Option (Int32 × qm_H) := match fuel with
  | 0 => none
  | n + 1 =>
    if x5 < (h.1 a0 41) then
    (qX12_divided_44 n) a0 x2 x3 (x4 * x2) (x5 + (1 : Int32)) h
    else
    qX12_divided_76 qm_N a0 x2 x3 x4 (0 : Int32) (1000000 : Int32) (0 : Int32) h
def qX12_divided  (a0 : Nat) (x1 : Int32) (x2 : Int32) (x3 : Int32) (h : qm_H) : Option (Int32 × qm_H) :=
  qm_let (qm_seti h a0 0 (0 : Int32)) fun h1 =>
  qm_b2 (qX12_in x2 (1 : Int32) (4 : Int32) h1) fun r3 h2 =>
  if r3 = (0 : Int32) then
  some ((-1 : Int32), h2)
  else
  qm_b2 (qX12_hasParish a0 x1 h2) fun r5 h4 =>
  if r5 = (0 : Int32) then
  some ((-1 : Int32), h4)
  else
  qm_b2 (qX12_in x3 (-1 : Int32) ((h4.1 a0 41) - (1 : Int32)) h4) fun r7 h6 =>
  if r7 = (0 : Int32) then
  some ((-1 : Int32), h6)
  else
  qX12_divided_44 qm_N a0 x2 x3 (1 : Int32) (0 : Int32) h6
def qX12_kept  (a0 : Nat) (x1 : Int32) (h : qm_H) : Option (Int32 × qm_H) :=
  qm_let (qm_seti h a0 0 (0 : Int32)) fun h1 =>
  qm_b2 (qX12_hasParish a0 x1 h1) fun r3 h2 =>
  if r3 = (0 : Int32) then
  some ((-1 : Int32), h2)
  else
  qm_b2 (qX12_costAll a0 (0 : Int32) h2) fun r5 h4 =>
  if r5 < (1000000 : Int32) then
  some (((h4.1 a0 41) - r5), h4)
  else
  some ((-1 : Int32), h4)
def qX12_count  (a0 : Nat) (x1 : Int32) (h : qm_H) : Option (Int32 × qm_H) :=
  qm_let (qm_seti h a0 0 (0 : Int32)) fun h1 =>
  qm_b2 (qX12_in x1 (0 : Int32) (3 : Int32) h1) fun r3 h2 =>
  if r3 = (0 : Int32) then
  some ((-2 : Int32), h2)
  else
  if x1 < 0 ∨ 16 ≤ (x1).toNatClampNeg then none else
  some ((h2.1 (a0 + 5) (x1).toNatClampNeg), h2)
def qX12_image  (a0 : Nat) (x1 : Int32) (h : qm_H) : Option (Int32 × qm_H) :=
  qm_let (qm_seti h a0 0 (0 : Int32)) fun h1 =>
  qm_b2 (qX12_in x1 (0 : Int32) (2 : Int32) h1) fun r3 h2 =>
  if r3 = (0 : Int32) then
  some ((0 : Int32), h2)
  else
  (qX12_copyAll a0 (0 : Int32) (x1 + (1 : Int32)) h2).bind fun h4 =>
  if x1 < 0 ∨ 3 ≤ (x1).toNatClampNeg then none else
  qm_let (qm_seti h4 (a0 + 25) (x1).toNatClampNeg (vp_nar .boolean (1 : Int32))) fun h5 =>
  some ((1 : Int32), h5)
def qX12_again  (a0 : Nat) (x1 : Int32) (h : qm_H) : Option (Int32 × qm_H) :=
  qm_let (qm_seti h a0 0 (0 : Int32)) fun h1 =>
  qm_b2 (qX12_in x1 (0 : Int32) (2 : Int32) h1) fun r3 h2 =>
  if r3 = (0 : Int32) then
  some ((0 : Int32), h2)
  else
  if x1 < 0 ∨ 3 ≤ (x1).toNatClampNeg then none else
  if (h2.1 (a0 + 25) (x1).toNatClampNeg) = (0 : Int32) then
  some ((0 : Int32), h2)
  else
  (qX12_copyAll a0 (x1 + (1 : Int32)) (0 : Int32) h2).bind fun h4 =>
  some ((1 : Int32), h4)
def qJ0_length_8abf5 (k : Nat) (h : qm_H) : Option (Int32 × qm_H) := if k < 16 then some (nI (qm_slen.getD k 0), h) else none
def qJ0_charAt_5068e (k : Nat) (x : Int32) (h : qm_H) : Option (Int32 × qm_H) := if k < 16 ∧ ¬ x < 0 ∧ x.toNatClampNeg < qm_slen.getD k 0 then some ((qm_sbyt.getD k []).getD x.toNatClampNeg 0, h) else none
def qX8_isWord_39  (fuel : Nat) (a0 : Nat) (k1 : Nat) (x2 : Int32) (h : qm_H) : Option (Int32 × qm_H) := match fuel with
  | 0 => none
  | n + 1 =>
    qm_b2 (qJ0_length_8abf5 k1 h) fun r2 h1 =>
    if x2 < r2 then
    qm_b2 (qJ0_charAt_5068e k1 x2 h1) fun r4 h3 =>
    if ((h3.1 a0 3) + x2) < 0 ∨ 600 ≤ ((h3.1 a0 3) + x2).toNatClampNeg then none else
    if r4 = (h3.1 (a0 - 41) ((h3.1 a0 3) + x2).toNatClampNeg) then
    (qX8_isWord_39 n) a0 k1 (x2 + (1 : Int32)) h3
    else
    some ((0 : Int32), h3)
    else
    some ((1 : Int32), h1)
def qX8_isWord  (a0 : Nat) (k1 : Nat) (h : qm_H) : Option (Int32 × qm_H) :=
  if (h.1 a0 2) = (1 : Int32) then
  qm_b2 (qJ0_length_8abf5 k1 h) fun r2 h1 =>
  if r2 = ((h1.1 a0 4) - (h1.1 a0 3)) then
  if (h1.1 a0 1) < (h1.1 a0 4) then
  some ((0 : Int32), h1)
  else
  qX8_isWord_39 qm_N a0 k1 (0 : Int32) h1
  else
  some ((0 : Int32), h1)
  else
  some ((0 : Int32), h)
def qX3_readWord  (a0 : Nat) (k1 : Nat) (h : qm_H) : Option (Int32 × qm_H) :=
  qm_b2 (qX3_goesOn a0 h) fun r2 h1 =>
  if r2 = (0 : Int32) then
  some ((0 : Int32), h1)
  else
  qm_b2 (qX8_isWord (a0 + 12) k1 h1) fun r4 h3 =>
  if r4 = (0 : Int32) then
  some ((0 : Int32), h3)
  else
  (qX8_advance (a0 + 12) h3).bind fun h5 =>
  some ((1 : Int32), h5)
def qX3_readBasketLine  (a0 : Nat) (h : qm_H) : Option (qm_H) :=
  qm_b2 (qX3_readWord a0 0 h) fun r2 h1 =>
  if r2 = (0 : Int32) then
  qm_b2 (qX3_readWord a0 1 h1) fun r4 h3 =>
  if r4 = (0 : Int32) then
  qm_b2 (qX3_readWord a0 2 h3) fun r6 h5 =>
  if r6 = (0 : Int32) then
  qm_b2 (qX3_readWord a0 3 h5) fun r8 h7 =>
  if r8 = (0 : Int32) then
  qm_b2 (qX3_readWord a0 4 h7) fun r10 h9 =>
  if r10 = (0 : Int32) then
  (qX3_refuse a0 h9).bind fun h11 =>
  some h11
  else
  qm_let (qm_seti h9 (a0 + 1) 5 (1 : Int32)) fun h12 =>
  some h12
  else
  qm_b2 (qX3_readColumn a0 h7) fun r14 h13 =>
  (qX3_readTwig a0 (1 : Int32) r14 h13).bind fun h15 =>
  some h15
  else
  qm_b2 (qX3_readRow a0 h5) fun r17 h16 =>
  (qX3_readTwig a0 (0 : Int32) r17 h16).bind fun h18 =>
  some h18
  else
  qm_b2 (qX3_readColumn a0 h3) fun r20 h19 =>
  qm_b2 (qX3_readRow a0 h19) fun r22 h21 =>
  qm_b2 (qX0_bit r22 r20 h21) fun r24 h23 =>
  qm_let (qm_setl h23 (a0 + 1) 6 ((h21.2 (a0 + 1) 6) ||| r24)) fun h25 =>
  some h25
  else
  qm_b2 (qX3_readNumber a0 (2 : Int32) (8 : Int32) h1) fun r27 h26 =>
  qm_let (qm_seti h26 (a0 + 1) 3 r27) fun h28 =>
  qm_b2 (qX3_readNumber a0 (2 : Int32) (8 : Int32) h28) fun r30 h29 =>
  qm_let (qm_seti h29 (a0 + 1) 4 r30) fun h31 =>
  some h31
def qX3_readCare_29  (a0 : Nat) (x1 : Int32) (x2 : Int32) (h : qm_H) : Option (qm_H) :=
  qm_b2 (qX3_readNumber a0 (0 : Int32) (7 : Int32) h) fun r2 h1 =>
  (qX10_add (a0 + 5) x1 x2 r2 (-1 : Int32) h1).bind fun h3 =>
  some h3
def qX3_readCare  (a0 : Nat) (x1 : Int32) (h : qm_H) : Option (qm_H) :=
  qm_b2 (qX3_readWord a0 3 h) fun r2 h1 =>
  if r2 = (0 : Int32) then
  qm_b2 (qX3_readWord a0 2 h1) fun r4 h3 =>
  if r4 = (0 : Int32) then
  (qX3_refuse a0 h3).bind fun h5 =>
  qX3_readCare_29 a0 x1 (0 : Int32) h5
  else
  qX3_readCare_29 a0 x1 (0 : Int32) h3
  else
  qX3_readCare_29 a0 x1 (1 : Int32) h1
def qX3_readYearLine_24  (a0 : Nat) (h : qm_H) : Option (qm_H) :=
  qm_b2 (qX3_readWord a0 5 h) fun r2 h1 =>
  if r2 = (0 : Int32) then
  qm_b2 (qX3_readWord a0 6 h1) fun r4 h3 =>
  if r4 = (0 : Int32) then
  qm_b2 (qX3_readWord a0 7 h3) fun r6 h5 =>
  if r6 = (0 : Int32) then
  qm_b2 (qX3_readWord a0 8 h5) fun r8 h7 =>
  if r8 = (0 : Int32) then
  qm_b2 (qX3_readWord a0 9 h7) fun r10 h9 =>
  if r10 = (0 : Int32) then
  qm_b2 (qX3_readWord a0 4 h9) fun r12 h11 =>
  if r12 = (0 : Int32) then
  qm_b2 (qX3_readWord a0 10 h11) fun r14 h13 =>
  if r14 = (0 : Int32) then
  (qX3_refuse a0 h13).bind fun h15 =>
  some h15
  else
  (qX10_add (a0 + 5) (6 : Int32) (-1 : Int32) (-1 : Int32) (-1 : Int32) h13).bind fun h16 =>
  some h16
  else
  (qX10_add (a0 + 5) (5 : Int32) (-1 : Int32) (-1 : Int32) (-1 : Int32) h11).bind fun h17 =>
  some h17
  else
  (qX10_add (a0 + 5) (4 : Int32) (-1 : Int32) (-1 : Int32) (-1 : Int32) h9).bind fun h18 =>
  some h18
  else
  qm_b2 (qX3_readNumber a0 (0 : Int32) (7 : Int32) h7) fun r20 h19 =>
  qm_b2 (qX3_readNumber a0 (0 : Int32) (7 : Int32) h19) fun r22 h21 =>
  (qX10_add (a0 + 5) (3 : Int32) r20 r22 (-1 : Int32) h21).bind fun h23 =>
  some h23
  else
  (qX3_readCare a0 (2 : Int32) h5).bind fun h24 =>
  some h24
  else
  (qX3_readCare a0 (1 : Int32) h3).bind fun h25 =>
  some h25
  else
  qm_b2 (qX3_readNumber a0 (1 : Int32) (8 : Int32) h1) fun r27 h26 =>
  qm_b2 (qX3_readNumber a0 (1 : Int32) (8 : Int32) h26) fun r29 h28 =>
  qm_b2 (qX3_readNumber a0 (0 : Int32) (99 : Int32) h28) fun r31 h30 =>
  (qX10_add (a0 + 5) (0 : Int32) r27 r29 r31 h30).bind fun h32 =>
  some h32
def qX3_readYearLine  (a0 : Nat) (h : qm_H) : Option (qm_H) :=
  if (h.1 (a0 + 5) 1) < (40 : Int32) then
  qX3_readYearLine_24 a0 h
  else
  (qX3_note a0 (3 : Int32) (h.1 (a0 + 12) 3) h).bind fun h1 =>
  qX3_readYearLine_24 a0 h1
def qX3_readParishLine_79  (a0 : Nat) (h : qm_H) : Option (qm_H) :=
  qm_b2 (qX3_readNumber a0 (1 : Int32) (60 : Int32) h) fun r2 h1 =>
  (qX2_addPiece (a0 + 7) r2 h1).bind fun h3 =>
  some h3
def qX3_readParishLine_35  (a0 : Nat) (h : qm_H) : Option (qm_H) :=
  qm_b2 (qX3_readNumber a0 (1 : Int32) (60 : Int32) h) fun r2 h1 =>
  (qX2_addRod (a0 + 7) r2 h1).bind fun h3 =>
  some h3
def qX3_readParishLine  (a0 : Nat) (h : qm_H) : Option (qm_H) :=
  qm_let (h.1 (a0 + 12) 3) fun v1 =>
  qm_b2 (qX3_readWord a0 2 h) fun r3 h2 =>
  if r3 = (0 : Int32) then
  qm_b2 (qX3_readWord a0 11 h2) fun r5 h4 =>
  if r5 = (0 : Int32) then
  qm_b2 (qX3_readWord a0 12 h4) fun r7 h6 =>
  if r7 = (0 : Int32) then
  (qX3_refuse a0 h6).bind fun h8 =>
  some h8
  else
  qm_b2 (qX3_readNumber a0 (1 : Int32) (9 : Int32) h6) fun r10 h9 =>
  qm_let (qm_seti h9 (a0 + 7) 4 r10) fun h11 =>
  some h11
  else
  if (h4.1 (a0 + 7) 3) < (8 : Int32) then
  qX3_readParishLine_79 a0 h4
  else
  (qX3_note a0 (3 : Int32) v1 h4).bind fun h12 =>
  qX3_readParishLine_79 a0 h12
  else
  if (h2.1 (a0 + 7) 2) < (6 : Int32) then
  qX3_readParishLine_35 a0 h2
  else
  (qX3_note a0 (3 : Int32) v1 h2).bind fun h13 =>
  qX3_readParishLine_35 a0 h13
def qX3_readClueWord  (a0 : Nat) (h : qm_H) : Option (Int32 × qm_H) :=
  qm_b2 (qX3_readWord a0 1 h) fun r2 h1 =>
  if r2 = (0 : Int32) then
  qm_b2 (qX3_readWord a0 13 h1) fun r4 h3 =>
  if r4 = (0 : Int32) then
  qm_b2 (qX3_readWord a0 14 h3) fun r6 h5 =>
  if r6 = (0 : Int32) then
  qm_b2 (qX3_readWord a0 15 h5) fun r8 h7 =>
  if r8 = (0 : Int32) then
  (qX3_refuse a0 h7).bind fun h9 =>
  some ((3 : Int32), h9)
  else
  some ((3 : Int32), h7)
  else
  some ((2 : Int32), h5)
  else
  some ((1 : Int32), h3)
  else
  some ((0 : Int32), h1)
def qX3_readCluesLine_119  (a0 : Nat) (x1 : Int32) (x3 : Int32) (xs0 : Int32) (h : qm_H) : Option (qm_H) :=
  (qX1_add (a0 + 10) x1 x3 xs0 h).bind fun h1 =>
  some h1
def qX3_readCluesLine_100  (a0 : Nat) (x1 : Int32) (x2 : Int32) (xs0 : Int32) (h : qm_H) : Option (qm_H) :=
  if x2 = (0 : Int32) then
  qm_b2 (qX3_readNumber a0 (1 : Int32) (8 : Int32) h) fun r2 h1 =>
  qX3_readCluesLine_119 a0 x1 xs0 r2 h1
  else
  qm_b2 (qX3_readRow a0 h) fun r4 h3 =>
  qX3_readCluesLine_119 a0 x1 xs0 r4 h3
def qX3_readCluesLine_81  (a0 : Nat) (x1 : Int32) (xs0 : Int32) (h : qm_H) : Option (qm_H) :=
  if xs0 = (0 : Int32) then
  qm_b2 (qX3_readNumber a0 (1 : Int32) (8 : Int32) h) fun r2 h1 =>
  qX3_readCluesLine_100 a0 x1 xs0 r2 h1
  else
  qm_b2 (qX3_readColumn a0 h) fun r4 h3 =>
  qX3_readCluesLine_100 a0 x1 xs0 r4 h3
def qX3_readCluesLine_62  (a0 : Nat) (h : qm_H) : Option (qm_H) :=
  qm_b2 (qX3_readClueWord a0 h) fun r2 h1 =>
  if r2 = (0 : Int32) then
  qX3_readCluesLine_81 a0 r2 (1 : Int32) h1
  else
  if r2 = (1 : Int32) then
  qX3_readCluesLine_81 a0 r2 (1 : Int32) h1
  else
  qX3_readCluesLine_81 a0 r2 (0 : Int32) h1
def qX3_readCluesLine  (a0 : Nat) (h : qm_H) : Option (qm_H) :=
  qm_b2 (qX3_readWord a0 0 h) fun r2 h1 =>
  if r2 = (0 : Int32) then
  if (h1.1 (a0 + 10) 3) < (10 : Int32) then
  qX3_readCluesLine_62 a0 h1
  else
  (qX3_note a0 (3 : Int32) (h1.1 (a0 + 12) 3) h1).bind fun h3 =>
  qX3_readCluesLine_62 a0 h3
  else
  qm_b2 (qX3_readNumber a0 (2 : Int32) (8 : Int32) h1) fun r5 h4 =>
  qm_let (qm_seti h4 (a0 + 10) 1 r5) fun h6 =>
  qm_b2 (qX3_readNumber a0 (2 : Int32) (8 : Int32) h6) fun r8 h7 =>
  qm_let (qm_seti h7 (a0 + 10) 2 r8) fun h9 =>
  some h9
def qX3_read_147  (a0 : Nat) (x1 : Int32) (h : qm_H) : Option (qm_H) :=
  if x1 = (0 : Int32) then
  (qX3_lookForAll a0 (h.1 (a0 + 1) 3) (h.1 (a0 + 1) 4) h).bind fun h2 =>
  some h2
  else
  if x1 = (3 : Int32) then
  (qX3_lookForAll a0 (h.1 (a0 + 10) 1) (h.1 (a0 + 10) 2) h).bind fun h1 =>
  some h1
  else
  some h
def qX3_read_137 (K59 : Nat → Int32 → Int32 → qm_H → Option (qm_H)) (a0 : Nat) (x1 : Int32) (x3 : Int32) (h : qm_H) : Option (qm_H) :=
  (qX3_readStop a0 h).bind fun h1 =>
  K59 a0 x1 (x3 + (1 : Int32)) h1
def qX3_read_59  (fuel : Nat) (a0 : Nat) (x1 : Int32) (x3 : Int32) (h : qm_H) : Option (qm_H) := match fuel with
  | 0 => none
  | n + 1 =>
    if x3 < (600 : Int32) then
    qm_b2 (qX3_goesOn a0 h) fun r2 h1 =>
    if r2 = (0 : Int32) then
    qX3_read_147 a0 x1 h1
    else
    if (h1.1 (a0 + 12) 2) = (0 : Int32) then
    qX3_read_147 a0 x1 h1
    else
    if x1 = (0 : Int32) then
    (qX3_readBasketLine a0 h1).bind fun h3 =>
    qX3_read_137 (qX3_read_59 n) a0 x1 x3 h3
    else if x1 = (1 : Int32) then
    (qX3_readYearLine a0 h1).bind fun h4 =>
    qX3_read_137 (qX3_read_59 n) a0 x1 x3 h4
    else if x1 = (2 : Int32) then
    (qX3_readParishLine a0 h1).bind fun h5 =>
    qX3_read_137 (qX3_read_59 n) a0 x1 x3 h5
    else 
    (qX3_readCluesLine a0 h1).bind fun h6 =>
    qX3_read_137 (qX3_read_59 n) a0 x1 x3 h6
    else
    qX3_read_147 a0 x1 h
def qX3_read  (a0 : Nat) (x1 : Int32) (x2 : Int32) (h : qm_H) : Option (qm_H) :=
  qm_let (qm_seti h a0 5 (0 : Int32)) fun h1 =>
  qm_let (qm_seti h1 a0 6 (-1 : Int32)) fun h2 =>
  qm_let (qm_seti h2 a0 7 (0 : Int32)) fun h3 =>
  qm_let (qm_seti h3 a0 8 (0 : Int32)) fun h4 =>
  (qX0_begin (a0 + 1) h4).bind fun h5 =>
  qm_let (qm_seti h5 (a0 + 5) 1 (0 : Int32)) fun h6 =>
  (qX2_begin (a0 + 7) h6).bind fun h7 =>
  (qX1_begin (a0 + 10) h7).bind fun h8 =>
  (qX8_begin (a0 + 12) x2 h8).bind fun h9 =>
  qX3_read_59 qm_N a0 x1 (0 : Int32) h9
def qX11_text_154  (a0 : Nat) (x1 : Int32) (x4 : Int32) (x5 : Int32) (xs0 : Int32) (h : qm_H) : Option (Int32 × qm_H) :=
  (qX9_keep (a0 + 1) x1 xs0 (a0 + 31) h).bind fun h1 =>
  if x5 = (0 : Int32) then
  some (xs0, h1)
  else
  if x1 < 0 ∨ 4 ≤ (x1).toNatClampNeg then none else
  qm_let (qm_seti h1 ((a0 + 1) + 2) (x1).toNatClampNeg (x4 + (1 : Int32))) fun h2 =>
  some (xs0, h2)
def qX11_text_94  (a0 : Nat) (x1 : Int32) (x2 : Int32) (x3 : Int32) (x4 : Int32) (x5 : Int32) (h : qm_H) : Option (Int32 × qm_H) :=
  (qX3_read (a0 + 31) x1 x3 h).bind fun h1 =>
  if (h1.1 (a0 + 31) 5) = (0 : Int32) then
  if x5 = (0 : Int32) then
  qX11_text_154 a0 x1 x4 x5 x2 h1
  else
  qX11_text_154 a0 x1 x4 x5 x4 h1
  else
  qm_let (qm_seti h1 (a0 + 1) 7 (h1.1 (a0 + 31) 5)) fun h2 =>
  qm_let (qm_seti h2 (a0 + 1) 8 (h2.1 (a0 + 31) 6)) fun h3 =>
  some ((-1 : Int32), h3)
def qX11_text_65  (a0 : Nat) (x1 : Int32) (x2 : Int32) (x3 : Int32) (x4 : Int32) (xs0 : Int32) (h : qm_H) : Option (Int32 × qm_H) :=
  if xs0 = (0 : Int32) then
  if x2 < (0 : Int32) then
  some ((-2 : Int32), h)
  else
  if x2 < x4 then
  qX11_text_94 a0 x1 x2 x3 x4 xs0 h
  else
  some ((-2 : Int32), h)
  else
  if x4 < (2 : Int32) then
  qX11_text_94 a0 x1 x2 x3 x4 xs0 h
  else
  some ((-2 : Int32), h)
def qX11_text  (a0 : Nat) (x1 : Int32) (x2 : Int32) (h : qm_H) : Option (Int32 × qm_H) :=
  qm_let (h.1 (a0 + 1) 6) fun v1 =>
  qm_let (qm_seti h (a0 + 1) 6 (0 : Int32)) fun h2 =>
  qm_let (qm_seti h2 (a0 + 1) 7 (0 : Int32)) fun h3 =>
  qm_let (qm_seti h3 (a0 + 1) 8 (-1 : Int32)) fun h4 =>
  if x1 < (0 : Int32) then
  some ((-2 : Int32), h4)
  else
  if x1 < (4 : Int32) then
  if x1 < 0 ∨ 4 ≤ (x1).toNatClampNeg then none else
  qm_let (h4.1 ((a0 + 1) + 2) (x1).toNatClampNeg) fun v5 =>
  if x2 = (-1 : Int32) then
  qX11_text_65 a0 x1 x2 v1 v5 (1 : Int32) h4
  else
  qX11_text_65 a0 x1 x2 v1 v5 (0 : Int32) h4
  else
  some ((-2 : Int32), h4)
def qL_fresh (h : qm_H) (k : Nat) : qm_H := (fun a j => if 1000 * (k + 1) ≤ a ∧ a < 1000 * (k + 1) + 29 then qL_h0.1 (a - 1000 * (k + 1) + 1) j else if a = 30 ∧ j = k then 1 else h.1 a j, fun a j => if 1000 * (k + 1) ≤ a ∧ a < 1000 * (k + 1) + 29 then 0 else h.2 a j)
def qL_img (x : Int32) (h : qm_H) : Option (Int32 × qm_H) := if x < 0 then some (0, h) else if x < 3 then (qX9_take (1000 * (x.toNatClampNeg + 1)) 1 (if h.1 30 x.toNatClampNeg = 0 then qL_fresh h x.toNatClampNeg else h)).bind fun h2 => some (1, h2) else some (0, h)
