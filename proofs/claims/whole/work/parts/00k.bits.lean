/-! LONGS by their bits; how many there are. -/
theorem lb_lN {n : Nat} (h : n < 2 ^ 64) (i : Nat) : lb (lN n) i = n.testBit i := by
  show (BitVec.ofNat 64 n).getLsbD i = _
  rw [BitVec.getLsbD_ofNat]
  by_cases q : i < 64
  · simp [q]
  · rw [Nat.testBit_lt_two_pow (Nat.lt_of_lt_of_le h (Nat.pow_le_pow_right (by omega) (by omega)))]
    simp
theorem lb_ext {x y : Int64} (h : ∀ i, i < 64 → lb x i = lb y i) : x = y := Int64.toBitVec_inj.mp (BitVec.eq_of_getLsbD_eq (fun i hi => h i hi))
theorem lb_big {x : Int64} {i : Nat} (h : 64 ≤ i) : lb x i = false := BitVec.getLsbD_of_ge _ _ h
theorem lb_or (x y : Int64) (i : Nat) : lb (x ||| y) i = (lb x i || lb y i) := by unfold lb; rw [Int64.toBitVec_or, BitVec.getLsbD_or]
theorem lb_and (x y : Int64) (i : Nat) : lb (x &&& y) i = (lb x i && lb y i) := by unfold lb; rw [Int64.toBitVec_and, BitVec.getLsbD_and]
theorem lb_xor (x y : Int64) (i : Nat) : lb (x ^^^ y) i = (lb x i ^^ lb y i) := by unfold lb; rw [Int64.toBitVec_xor, BitVec.getLsbD_xor]
theorem lb_m1 : ∀ i, i < 64 → lb (-1) i = true := by decide +kernel
theorem lb_not (x : Int64) {i : Nat} (hi : i < 64) : lb (x ^^^ (-1)) i = !lb x i := by rw [lb_xor, lb_m1 i hi]; simp
theorem lb_0 (i : Nat) : lb 0 i = false := BitVec.getLsbD_zero
theorem lb_shl (x : Int64) {k i : Nat} (hk : k < 64) (hi : i < 64) : lb (qm_lshl x (nI k)) i = (decide (k ≤ i) && lb x (i - k)) := by
  unfold qm_lshl lb
  rw [wb_c k hk, Int64.toBitVec_shiftLeft, wb_tb, wb_sm k hk]
  rw [BitVec.shiftLeft_eq', BitVec.getLsbD_shiftLeft, BitVec.toNat_ofNat, Nat.mod_eq_of_lt (show k < 2 ^ 64 by omega)]
  by_cases q : i < k
  · simp [q, hi, Nat.not_le.mpr q]
  · simp [q, hi, Nat.not_lt.mp q]
theorem lb_ushr (x : Int64) {k : Nat} (hk : k < 64) (i : Nat) : lb (qm_lushr x (nI k)) i = lb x (k + i) := by
  obtain ⟨n, hn, rfl⟩ := wb_of x
  unfold qm_lushr
  rw [wb_shr hn hk, lb_lN (Nat.lt_of_le_of_lt (Nat.div_le_self _ _) hn), lb_lN hn, Nat.testBit_div_two_pow, Nat.add_comm]
theorem l_cmp0 (x y : Int64) : (lg_cmp x y = nI 0) = (x = y) := by
  unfold lg_cmp
  by_cases h : x > y
  · have : x ≠ y := fun e => by
      subst e
      exact absurd h (by simp)
    rw [if_pos h]
    simp only [this]
    exact eq_false (by decide)
  · rw [if_neg h]
    by_cases e : x = y
    · rw [if_pos e]
      simp only [e]
      exact eq_true rfl
    · rw [if_neg e]
      simp only [e]
      exact eq_false (by decide)
/-! how many bits a long has -/
def mk (c : Nat) : Nat → Nat
  | 0 => 0
  | n + 1 => c + 256 * mk c n
theorem and_256 (a b : Nat) : a &&& b = (a % 256 &&& b % 256) + 256 * (a / 256 &&& b / 256) := by
  have h1 : (a &&& b) % 2 ^ 8 = (a % 2 ^ 8) &&& (b % 2 ^ 8) := Nat.and_mod_two_pow
  have h2 : (a &&& b) / 2 ^ 8 = (a / 2 ^ 8) &&& (b / 2 ^ 8) := Nat.and_div_two_pow
  have h3 := Nat.div_add_mod (a &&& b) (2 ^ 8)
  rw [h1, h2] at h3
  simp only [Nat.reducePow] at h3
  omega
theorem and_mk (a c n : Nat) (hc : c < 256) : a &&& mk c (n + 1) = (a % 256 &&& c) + 256 * (a / 256 &&& mk c n) := by
  rw [and_256]
  show (_ &&& (c + 256 * mk c n) % 256) + 256 * (_ &&& (c + 256 * mk c n) / 256) = _
  rw [show (c + 256 * mk c n) % 256 = c by omega, show (c + 256 * mk c n) / 256 = mk c n by omega]
def q1 (b : Nat) : Nat := b - ((b / 2) &&& 85)
def q2 (b : Nat) : Nat := (q1 b &&& 51) + ((q1 b / 4) &&& 51)
def pc (b : Nat) : Nat := (q2 b + q2 b / 16) &&& 15
def bySum (f : Nat → Nat) : Nat → Nat → Nat
  | 0, _ => 0
  | n + 1, x => f (x % 256) + 256 * bySum f n (x / 256)
theorem q1_and : ∀ b, b < 256 → ((b / 2) &&& 85) ≤ b ∧ q1 b < 256 := by decide +kernel
theorem h1_t : ∀ b, b < 256 → ∀ t, t < 2 → (b / 2 + 128 * t) &&& 85 = (b / 2) &&& 85 := by decide +kernel
theorem h2_t : ∀ b, b < 256 → ∀ t, t < 4 → (b / 4 + 64 * t) &&& 51 = (b / 4) &&& 51 := by decide +kernel
theorem q2_b : ∀ b, b < 256 → q2 b ≤ 68 ∧ q2 b % 16 ≤ 4 ∧ q2 b / 16 ≤ 4 := by decide +kernel
theorem h3_t : ∀ b, b < 256 → ∀ t, t < 5 → (q2 b + q2 b / 16 + 16 * t) &&& 15 = pc b := by decide +kernel
theorem pc_ct : ∀ b, b < 256 → pc b = fb_ct (fun k => b.testBit k) 8 ∧ pc b ≤ 8 := by decide +kernel
theorem st1 : ∀ n x, x < 256 ^ n → ((x / 2) &&& mk 85 n) ≤ x ∧ x - ((x / 2) &&& mk 85 n) = bySum q1 n x := by
  intro n
  induction n with
  | zero =>
    intro x hx
    have : x = 0 := by simpa using hx
    subst this
    exact ⟨Nat.le_refl _, rfl⟩
  | succ n ih =>
    intro x hx
    have hy : x / 256 < 256 ^ n := by
      rw [Nat.pow_succ] at hx
      exact Nat.div_lt_of_lt_mul (by rw [Nat.mul_comm]; exact hx)
    obtain ⟨i1, i2⟩ := ih (x / 256) hy
    have hb : x % 256 < 256 := Nat.mod_lt _ (by omega)
    have e1 : x / 2 % 256 = x % 256 / 2 + 128 * (x / 256 % 2) := by omega
    have e2 : x / 2 / 256 = x / 256 / 2 := by omega
    rw [and_mk _ _ _ (by omega), e1, h1_t _ hb _ (by omega), e2]
    have hq := q1_and _ hb
    refine ⟨by omega, ?_⟩
    show _ = q1 (x % 256) + 256 * bySum q1 n (x / 256)
    rw [← i2]
    unfold q1 at hq ⊢
    omega
theorem bs_lt {f : Nat → Nat} (hf : ∀ b, b < 256 → f b < 256) : ∀ n x, bySum f n x < 256 ^ n := by
  intro n
  induction n with
  | zero => intro x; exact Nat.one_pos
  | succ n ih =>
    intro x
    have h1 := hf (x % 256) (Nat.mod_lt _ (by omega))
    have h2 := ih (x / 256)
    rw [Nat.pow_succ]
    show f (x % 256) + 256 * bySum f n (x / 256) < _
    omega
theorem st2 : ∀ n x, (bySum q1 n x &&& mk 51 n) + ((bySum q1 n x / 4) &&& mk 51 n) = bySum q2 n x := by
  intro n
  induction n with
  | zero => intro x; simp [bySum, mk]
  | succ n ih =>
    intro x
    have hb : x % 256 < 256 := Nat.mod_lt _ (by omega)
    have hq := (q1_and _ hb).2
    have i := ih (x / 256)
    show ((q1 (x % 256) + 256 * bySum q1 n (x / 256)) &&& mk 51 (n + 1)) + (((q1 (x % 256) + 256 * bySum q1 n (x / 256)) / 4) &&& mk 51 (n + 1)) = q2 (x % 256) + 256 * bySum q2 n (x / 256)
    rw [← i]
    generalize bySum q1 n (x / 256) = y at *
    rw [and_mk _ _ _ (by omega), and_mk _ _ _ (by omega)]
    rw [show (q1 (x % 256) + 256 * y) % 256 = q1 (x % 256) by omega, show (q1 (x % 256) + 256 * y) / 256 = y by omega, show (q1 (x % 256) + 256 * y) / 4 % 256 = q1 (x % 256) / 4 + 64 * (y % 4) by omega, show (q1 (x % 256) + 256 * y) / 4 / 256 = y / 4 by omega, h2_t _ hq _ (by omega)]
    unfold q2
    omega
theorem bs_nib (n x : Nat) : bySum q2 n x % 16 ≤ 4 := by
  cases n with
  | zero => exact Nat.zero_le _
  | succ n =>
    have h := (q2_b (x % 256) (Nat.mod_lt _ (by omega))).2.1
    show (q2 (x % 256) + 256 * bySum q2 n (x / 256)) % 16 ≤ 4
    omega
theorem st3 : ∀ n x, (bySum q2 n x + bySum q2 n x / 16) &&& mk 15 n = bySum pc n x := by
  intro n
  induction n with
  | zero => intro x; exact Nat.and_zero _
  | succ n ih =>
    intro x
    have hb : x % 256 < 256 := Nat.mod_lt _ (by omega)
    have hq := q2_b _ hb
    have i := ih (x / 256)
    have hn := bs_nib n (x / 256)
    show ((q2 (x % 256) + 256 * bySum q2 n (x / 256)) + (q2 (x % 256) + 256 * bySum q2 n (x / 256)) / 16) &&& mk 15 (n + 1) = pc (x % 256) + 256 * bySum pc n (x / 256)
    rw [← i]
    generalize bySum q2 n (x / 256) = y at *
    rw [and_mk _ _ _ (by omega)]
    rw [show (q2 (x % 256) + 256 * y + (q2 (x % 256) + 256 * y) / 16) % 256 = q2 (x % 256) + q2 (x % 256) / 16 + 16 * (y % 16) by omega, show (q2 (x % 256) + 256 * y + (q2 (x % 256) + 256 * y) / 16) / 256 = y + y / 16 by omega, h3_t _ hb _ (by omega)]
theorem ct_bytes : ∀ n x, fb_ct (fun k => x.testBit k) (8 * n) = fb_sm (fun k => pc (x / 256 ^ k % 256)) n := by
  intro n
  induction n with
  | zero => intro x; rfl
  | succ n ih =>
    intro x
    rw [Nat.mul_succ, fb_ct_split, ih, fb_sm_succ]
    congr 1
    rw [(pc_ct _ (Nat.mod_lt _ (by omega))).1]
    apply fb_ct_cong
    intro k hk
    rw [show (256 : Nat) ^ n = 2 ^ (8 * n) by rw [Nat.pow_mul]]
    rw [show (256 : Nat) = 2 ^ 8 from rfl, Nat.testBit_mod_two_pow, Nat.testBit_div_two_pow]
    simp [hk, Nat.add_comm]
theorem comb4 {A B V0 V1 V2 V3 V4 b0 b1 b2 b3 : Nat} (h0 : b0 ≤ 32) (h1 : b1 ≤ 32) (h2 : b2 ≤ 32) (h3 : b3 ≤ 32) (e0 : V0 = b0 + 256 * V1) (e1 : V1 = b1 + 256 * V2) (e2 : V2 = b2 + 256 * V3) (e3 : V3 = b3 + 256 * V4) : V0 / 4294967296 = V4 := by
  have q3 : V2 / 65536 = V4 := by omega
  have q1 : V0 / 65536 = V2 := by omega
  rw [← q3, ← q1, Nat.div_div_eq_div_mul]
theorem comb {p0 p1 p2 p3 p4 p5 p6 p7 Y0 Y1 Y2 Y3 Y4 Y5 Y6 Y7 : Nat} (g0 : p0 ≤ 8) (g1 : p1 ≤ 8) (g2 : p2 ≤ 8) (g3 : p3 ≤ 8) (g4 : p4 ≤ 8) (g5 : p5 ≤ 8) (g6 : p6 ≤ 8) (g7 : p7 ≤ 8) (e0 : Y0 = p0 + 256 * Y1) (e1 : Y1 = p1 + 256 * Y2) (e2 : Y2 = p2 + 256 * Y3) (e3 : Y3 = p3 + 256 * Y4) (e4 : Y4 = p4 + 256 * Y5) (e5 : Y5 = p5 + 256 * Y6) (e6 : Y6 = p6 + 256 * Y7) (e7 : Y7 = p7) :
    (Y0 + Y0 / 256 + (Y0 + Y0 / 256) / 65536 + (Y0 + Y0 / 256 + (Y0 + Y0 / 256) / 65536) / 4294967296) % 128 = p0 + p1 + p2 + p3 + p4 + p5 + p6 + p7 := by
  have d1 : Y0 / 256 = Y1 := by clear e1 e2 e3 e4 e5 e6 e7; omega
  rw [d1]
  have d2 : (Y0 + Y1) / 65536 = Y2 + Y3 := by clear e3 e4 e5 e6 e7; omega
  rw [d2]
  have d3 : (Y0 + Y1 + (Y2 + Y3)) / 4294967296 = Y4 + Y5 + (Y6 + Y7) := comb4 (A := 0) (B := 0) (b0 := p0 + p1 + p2 + p3) (b1 := p1 + p2 + p3 + p4) (b2 := p2 + p3 + p4 + p5) (b3 := p3 + p4 + p5 + p6) (V1 := Y1 + Y2 + (Y3 + Y4)) (V2 := Y2 + Y3 + (Y4 + Y5)) (V3 := Y3 + Y4 + (Y5 + Y6)) (by clear e0 e1 e2 e3 e4 e5 e6 e7; omega) (by clear e0 e1 e2 e3 e4 e5 e6 e7; omega) (by clear e0 e1 e2 e3 e4 e5 e6 e7; omega) (by clear e0 e1 e2 e3 e4 e5 e6 e7; omega) (by clear d1 d2 e4 e5 e6 e7; omega) (by clear d1 d2 e0 e5 e6 e7; omega) (by clear d1 d2 e0 e1 e6 e7; omega) (by clear d1 d2 e0 e1 e2 e7; omega)
  rw [d3]
  clear d1 d2 d3
  omega
theorem bc_l (x : Int64) (h : qm_H) : qJ13_bitCount_95d88 x h = some (nI (fb_ct (lb x) 64), h) := by
  obtain ⟨n, hn, rfl⟩ := wb_of x
  have hn8 : n < 256 ^ 8 := hn
  obtain ⟨s1, s1'⟩ := st1 8 n hn8
  have s2 := st2 8 n
  have s3 := st3 8 n
  have b1 := bs_lt (f := q1) (fun b hb => (q1_and b hb).2) 8 n
  have b2 := bs_lt (f := q2) (fun b hb => by have := (q2_b b hb).1; omega) 8 n
  have e1 : (6148914691236517205 : Int64) = lN (mk 85 8) := rfl
  have e2 : (3689348814741910323 : Int64) = lN (mk 51 8) := rfl
  have e3 : (1085102592571150095 : Int64) = lN (mk 15 8) := rfl
  unfold qJ13_bitCount_95d88 qm_lushr qm_let
  simp only
  rw [k_1, k_2, k_4, k_8, k_16, k_32, e1, e2, e3]
  rw [wb_shr hn (by omega), fb_andL, lN_sub (by simpa using s1), show n - (n / 2 ^ 1 &&& mk 85 8) = bySum q1 8 n by simpa using s1']
  rw [wb_shr b1 (by omega), fb_andL, fb_andL, lN_add, show (bySum q1 8 n &&& mk 51 8) + (bySum q1 8 n / 2 ^ 2 &&& mk 51 8) = bySum q2 8 n by simpa using s2]
  rw [wb_shr b2 (by omega), lN_add, fb_andL, show (bySum q2 8 n + bySum q2 8 n / 2 ^ 4 &&& mk 15 8) = bySum pc 8 n by simpa using s3]
  have g : ∀ k, pc (n / 256 ^ k % 256) ≤ 8 := fun k => (pc_ct _ (Nat.mod_lt _ (by omega))).2
  have g0 := g 0
  have g1 := g 1
  have g2 := g 2
  have g3 := g 3
  have g4 := g 4
  have g5 := g 5
  have g6 := g 6
  have g7 := g 7
  have eb : bySum pc 8 n = pc (n / 256 ^ 0 % 256) + 256 * (pc (n / 256 ^ 1 % 256) + 256 * (pc (n / 256 ^ 2 % 256) + 256 * (pc (n / 256 ^ 3 % 256) + 256 * (pc (n / 256 ^ 4 % 256) + 256 * (pc (n / 256 ^ 5 % 256) + 256 * (pc (n / 256 ^ 6 % 256) + 256 * (pc (n / 256 ^ 7 % 256)))))))) := by
    simp only [bySum, Nat.div_div_eq_div_mul, Nat.pow_zero, Nat.div_one, Nat.reduceMul, Nat.reducePow, Nat.mul_zero, Nat.add_zero]
  have ec : fb_ct (lb (lN n)) 64 = pc (n / 256 ^ 0 % 256) + pc (n / 256 ^ 1 % 256) + pc (n / 256 ^ 2 % 256) + pc (n / 256 ^ 3 % 256) + pc (n / 256 ^ 4 % 256) + pc (n / 256 ^ 5 % 256) + pc (n / 256 ^ 6 % 256) + pc (n / 256 ^ 7 % 256) := by
    rw [fb_ct_cong (q := fun k => n.testBit k) (fun k _ => lb_lN hn k), ct_bytes 8 n]
    simp only [fb_sm, Nat.zero_add]
  rw [eb, ec]
  generalize pc (n / 256 ^ 0 % 256) = p0 at *
  generalize pc (n / 256 ^ 1 % 256) = p1 at *
  generalize pc (n / 256 ^ 2 % 256) = p2 at *
  generalize pc (n / 256 ^ 3 % 256) = p3 at *
  generalize pc (n / 256 ^ 4 % 256) = p4 at *
  generalize pc (n / 256 ^ 5 % 256) = p5 at *
  generalize pc (n / 256 ^ 6 % 256) = p6 at *
  generalize pc (n / 256 ^ 7 % 256) = p7 at *
  rw [wb_shr (by omega) (by omega), lN_add, wb_shr (by omega) (by omega), lN_add, wb_shr (by omega) (by omega), lN_add, lN_i, show (127 : Int32) = nI (2 ^ 7 - 1) from rfl, n_and, Nat.and_two_pow_sub_one_eq_mod]
  congr 3
  simp only [Nat.reducePow]
  exact comb g0 g1 g2 g3 g4 g5 g6 g7 rfl rfl rfl rfl rfl rfl rfl rfl
/-- .. row by row -/
theorem ct_rows (f : Nat → Bool) : ∀ n, fb_ct f (8 * n) = fb_sm (fun r => fb_ct (fun c => f (8 * r + c)) 8) n := by
  intro n
  induction n with
  | zero => rfl
  | succ n ih => rw [Nat.mul_succ, fb_ct_split, ih, fb_sm_succ]
theorem ct_sm (f : Nat → Bool) : ∀ n, fb_ct f n = fb_sm (fun k => if f k then 1 else 0) n := by
  intro n
  induction n with
  | zero => rfl
  | succ n ih => rw [fb_ct_succ, ih, fb_sm_succ]
