/-! The lowest bit of a long; the class's gaps. -/
theorem bv_sub1 {w : Nat} (x : BitVec w) : x - 1#w = ~~~(-x) := by
  have h := BitVec.neg_eq_not_add (-x)
  rw [BitVec.neg_neg] at h
  have h2 : x - 1#w = (~~~(-x) + 1#w) - 1#w := by rw [← h]
  rw [h2, BitVec.add_sub_cancel]
def ntT (v : Int32) (h : qm_H) : Option (Int32 × qm_H) :=
  if (0 : Int32) < v then
  if (65536 : Int32) < v then
  qm_let (qm_iushr v (16 : Int32)) fun v2 =>
  qJ6_numberOfTrailingZeros_0f7a4_34 v2 ((1 : Int32) + (16 : Int32)) h
  else
  qJ6_numberOfTrailingZeros_0f7a4_34 v (1 : Int32) h
  else
  some ((v &&& (32 : Int32)), h)
theorem nt_h (v : Int32) (h : qm_H) : ntT v h = ((ntT v (fun _ _ => 0, fun _ _ => 0)).map Prod.fst).map (fun r => (r, h)) := by
  unfold ntT qJ6_numberOfTrailingZeros_0f7a4_34 qJ6_numberOfTrailingZeros_0f7a4_62
  simp only [let_e]
  repeat' split
  all_goals rfl
theorem nt_k : ∀ k, k < 32 → (ntT (nI (2 ^ k - 1)) (fun _ _ => 0, fun _ _ => 0)).map Prod.fst = some (nI k) := by decide +kernel
theorem bt_nI {n : Nat} (h : n < 2 ^ 32) (i : Nat) (hi : i < 32) : bt (nI n) i = n.testBit i := by
  show (BitVec.ofNat 32 n).getLsbD i = _
  rw [BitVec.getLsbD_ofNat, decide_eq_true hi, Bool.true_and]
theorem bt_ext {x y : Int32} (h : ∀ i, i < 32 → bt x i = bt y i) : x = y := Int32.toBitVec_inj.mp (BitVec.eq_of_getLsbD_eq (fun i hi => h i hi))
theorem bt_m1 : ∀ i, i < 32 → bt (-1) i = true := by decide +kernel
theorem j_ntz {x : Int32} {k : Nat} (hk : k < 32) (b1 : bt x k = true) (b2 : ∀ j, j < k → bt x j = false) (h : qm_H) : qJ6_numberOfTrailingZeros_0f7a4 x h = some (nI k, h) := by
  have e : (x ^^^ (-1)) &&& (x - 1) = nI (2 ^ k - 1) := by
    apply bt_ext
    intro i hi
    have hp : 2 ^ k - 1 < 2 ^ 32 := Nat.lt_of_lt_of_le (Nat.sub_lt (Nat.pow_pos (by omega)) (by omega)) (Nat.pow_le_pow_right (by omega) (by omega))
    rw [bt_nI hp i hi, Nat.testBit_two_pow_sub_one]
    have a1 : bt ((x ^^^ (-1)) &&& (x - 1)) i = ((bt x i ^^ bt (-1) i) && bt (x - 1) i) := by
      unfold bt
      rw [Int32.toBitVec_and, BitVec.getLsbD_and, Int32.toBitVec_xor, BitVec.getLsbD_xor]
    have a2 : bt (x - 1) i = !(bt x i ^^ decide (∃ j, j < i ∧ bt x j = true)) := by
      unfold bt
      rw [Int32.toBitVec_sub]
      show (x.toBitVec - 1#32).getLsbD i = _
      rw [bv_sub1, BitVec.getLsbD_not, BitVec.getLsbD_neg, decide_eq_true hi, Bool.true_and, Bool.true_and]
    rw [a1, a2, bt_m1 i hi]
    by_cases z : i < k
    · rw [b2 i z, decide_eq_true z, decide_eq_false (fun y => by obtain ⟨j, j1, j2⟩ := y; rw [b2 j (by omega)] at j2; cases j2)]
      rfl
    · rw [decide_eq_false z]
      by_cases y : i = k
      · rw [y, b1, decide_eq_false (fun y => by obtain ⟨j, j1, j2⟩ := y; rw [b2 j (by omega)] at j2; cases j2)]
        rfl
      · rw [decide_eq_true ⟨k, by omega, b1⟩]
        cases bt x i <;> rfl
  have e2 : qJ6_numberOfTrailingZeros_0f7a4 x h = ntT ((x ^^^ (-1)) &&& (x - 1)) h := by
    unfold qJ6_numberOfTrailingZeros_0f7a4 ntT
    rw [let_e]
  rw [e2, e, nt_h, nt_k k hk]
  rfl
theorem bt_lo (x : Int64) {i : Nat} (hi : i < 32) : bt x.toInt32 i = lb x i := by
  unfold bt lb
  rw [Int64.toBitVec_toInt32, BitVec.getLsbD_signExtend, decide_eq_true hi, Bool.true_and, if_pos (by omega)]
theorem j_ntzl {x : Int64} {k : Nat} (hk : k < 64) (b1 : lb x k = true) (b2 : ∀ j, j < k → lb x j = false) (h : qm_H) : qJ13_numberOfTrailingZeros_95d88 x h = some (nI k, h) := by
  unfold qJ13_numberOfTrailingZeros_95d88
  by_cases z : k < 32
  · have ne : ¬ x.toInt32 = 0 := fun y => by
      have := bt_lo x z
      rw [y, b1] at this
      have t : bt 0 k = false := BitVec.getLsbD_zero
      rw [t] at this
      cases this
    rw [if_neg ne, j_ntz z (by rw [bt_lo x z]; exact b1) (fun j hj => by rw [bt_lo x (by omega)]; exact b2 j hj), b2_some]
  · have eq : x.toInt32 = 0 := bt_ext (fun i hi => by
      rw [bt_lo x hi, b2 i (by omega)]
      exact (BitVec.getLsbD_zero (w := 32)).symm)
    have u : ∀ i, i < 32 → bt (qm_lushr x (nI 32)).toInt32 i = lb x (32 + i) := fun i hi => by
      rw [bt_lo _ hi, lb_ushr _ (by omega)]
    rw [if_pos eq, k_32, j_ntz (k := k - 32) (by omega) (by rw [u _ (by omega), show 32 + (k - 32) = k by omega]; exact b1) (fun j hj => by rw [u _ (by omega)]; exact b2 _ (by omega)), b2_some, nI_add, show 32 + (k - 32) = k by omega]
/-- a STROKE in a rectangle -/
def inR (W w hh u x : Nat) : Bool := decide (u / W ≤ x / W ∧ x / W < u / W + hh ∧ u % W ≤ x % W ∧ x % W < u % W + w)
theorem rep_blk {W H w hh u : Nat} {B : Int64} (hp : plP W H w hh u = true) (hB : ∀ k, k < 64 → lb B k = blB (u / W) (u % W) w hh k) : rep W H B (inR W w hh u) := by
  have hp' : u % W + w ≤ W ∧ u / W + hh ≤ H := of_decide_eq_true hp
  intro k hk
  rw [hB k hk]
  unfold blB inR
  by_cases z : k / 8 < H ∧ k % 8 < W
  · obtain ⟨w1, w2⟩ := wc_dm (W := W) (r := k / 8) (c := k % 8) z.2
    rw [decide_eq_true z, Bool.true_and, w1, w2]
  · rw [decide_eq_false z, Bool.false_and]
    exact decide_eq_false (by omega)
theorem fs_first {p : Nat → Bool} : ∀ {d i k : Nat}, fs p d i = some k → ∀ j, i ≤ j → j < k → p j = false := by
  intro d
  induction d with
  | zero => intro i k e; cases e
  | succ d ih =>
    intro i k e j h1 h2
    have e' : (if p i = true then some i else fs p d (i + 1)) = some k := e
    by_cases q : p i = true
    · rw [if_pos q] at e'
      have := Option.some.inj e'
      omega
    · rw [if_neg q] at e'
      by_cases z : j = i
      · rw [z]
        exact Bool.not_eq_true _ ▸ q
      · exact ih e' j (by omega) h2
section CG2
variable {β : qB} {b : Nat} {h : qm_H}
def gB (β : qB) (w hh : Nat) : Nat → Bool := gapP (bw β) (bh β) (bO β) w hh
/-- the class's gaps below p -/
def gC (β : qB) (w hh p : Nat) (h h1 : qm_H) : Prop := qFr (fun a q => (a = 49 ∧ q = 3) ∨ a = 50) h h1 ∧ h1.1 49 3 = nI (fb_ct (gB β w hh) p) ∧ ∀ u, u < p → gB β w hh u = true → rep (bw β) (bh β) (h1.2 50 (fb_ct (gB β w hh) u)) (inR (bw β) w hh u)
theorem gC.skip {w hh a p : Nat} {h1 : qm_H} (S : gC β w hh a h h1) (hap : a ≤ p) (H : ∀ u, a ≤ u → u < p → gB β w hh u = false) : gC β w hh p h h1 := by
  obtain ⟨s1, s2, s3⟩ := S
  refine ⟨s1, by rw [ct_skip hap H]; exact s2, fun u hu hg => s3 u ?_ hg⟩
  by_cases z : u < a
  · exact z
  · rw [H u (by omega) hu] at hg
    cases hg
theorem c_fg8 (k : bOK β) (C : bC b β h) (hb : b + 2 < 49) {w hh : Nat} (hw : 1 ≤ w) (hw2 : w ≤ 8) (hh1 : 1 ≤ hh) (hh2 : hh ≤ 8) : ∀ e r h1 fuel, r + e = bh β → e < fuel → gC β w hh (bw β * r) h h1 → ∃ h2, qX7_findGaps_8 fuel 49 b (nI w) (nI hh) (nI r) h1 = some h2 ∧ gC β w hh (bw β * bh β) h h2 := by
  have hW := k.W
  have hH := k.H
  have hn := k.n
  intro e
  induction e with
  | zero =>
    intro r h1 fuel hr hf S
    obtain ⟨g, rfl⟩ : ∃ g, fuel = g + 1 := ⟨fuel - 1, by omega⟩
    have C1 : bC b β h1 := C.mv (fun a q _ _ => (S.1 a q (by omega)).1) (S.1 b 6 (by omega)).2
    refine ⟨h1, ?_, by rw [show bh β = r by omega]; exact S⟩
    unfold qX7_findGaps_8
    simp (disch := omega) only [↓reduceIte, ↓q_m1, ↓q_m2, k_o, k_0, k_1, k_2, k_3, k_4, k_5, k_6, k_7, k_8, k_9, k_10, k_11, k_16, k_17, k_19, k_20, k_24, k_26, k_27, k_30, k_32, k_33, k_35, k_40, k_43, k_48, k_50, k_57, k_60, k_64, k_81, k_86, k_34, k_66, k_322, k_97, k_99, k_100, k_122, k_128, k_160, k_161, k_255, k_256, k_512, k_580, k_600, k_1000, k_4096, k_far, k_o, nI_add, n_mul, n_sub, n_div, n_rem, n_lt, n_le, n_eq, n_cl, n_and, n_or, n_xor, m1_lt, lt_m1, m1_eq, eq_m1, le_m1, m1_le, m2_eq, up_eq, up_ne, n_shl, n_shr, b2_some, let_e, ob_some, bI_0, bI_a, bI_t, bI_f, if_true, if_false, ite_true, ite_false, true_and, and_true, false_and, and_false, true_or, or_true, false_or, or_false, not_true_eq_false, not_false_eq_true, ite_not, ne_eq, Bool.true_eq_false, Bool.false_eq_true, reduceCtorEq, decide_true, decide_false, Bool.and_true, Bool.and_false, Bool.true_and, Bool.false_and, Bool.or_true, Bool.or_false, Bool.not_true, Bool.not_false, Nat.add_zero, Nat.zero_add, eq_self, Nat.not_lt_zero, Nat.reduceAdd, Nat.reduceMul, Nat.reduceSub, Nat.reduceDiv, Nat.reduceMod, Nat.reduceAnd, Nat.reduceXor, Nat.reduceEqDiff, Nat.reducePow, lt_T, lt_F, le_T, le_F, eq_F, C1.2.1]
  | succ e ih =>
    intro r h1 fuel hr hf S
    obtain ⟨g, rfl⟩ : ∃ g, fuel = g + 1 := ⟨fuel - 1, by omega⟩
    have C1 : bC b β h1 := C.mv (fun a q _ _ => (S.1 a q (by omega)).1) (S.1 b 6 (by omega)).2
    by_cases q : bh β < r + hh
    · refine ⟨h1, ?_, S.skip (Nat.mul_le_mul_left _ (by omega)) (fun u h1 h2 => gapP_out ?_)⟩
      · unfold qX7_findGaps_8
        simp (disch := omega) only [↓reduceIte, ↓q_m1, ↓q_m2, k_o, k_0, k_1, k_2, k_3, k_4, k_5, k_6, k_7, k_8, k_9, k_10, k_11, k_16, k_17, k_19, k_20, k_24, k_26, k_27, k_30, k_32, k_33, k_35, k_40, k_43, k_48, k_50, k_57, k_60, k_64, k_81, k_86, k_34, k_66, k_322, k_97, k_99, k_100, k_122, k_128, k_160, k_161, k_255, k_256, k_512, k_580, k_600, k_1000, k_4096, k_far, k_o, nI_add, n_mul, n_sub, n_div, n_rem, n_lt, n_le, n_eq, n_cl, n_and, n_or, n_xor, m1_lt, lt_m1, m1_eq, eq_m1, le_m1, m1_le, m2_eq, up_eq, up_ne, n_shl, n_shr, b2_some, let_e, ob_some, bI_0, bI_a, bI_t, bI_f, if_true, if_false, ite_true, ite_false, true_and, and_true, false_and, and_false, true_or, or_true, false_or, or_false, not_true_eq_false, not_false_eq_true, ite_not, ne_eq, Bool.true_eq_false, Bool.false_eq_true, reduceCtorEq, decide_true, decide_false, Bool.and_true, Bool.and_false, Bool.true_and, Bool.false_and, Bool.or_true, Bool.or_false, Bool.not_true, Bool.not_false, Nat.add_zero, Nat.zero_add, eq_self, Nat.not_lt_zero, Nat.reduceAdd, Nat.reduceMul, Nat.reduceSub, Nat.reduceDiv, Nat.reduceMod, Nat.reduceAnd, Nat.reduceXor, Nat.reduceEqDiff, Nat.reducePow, lt_T, lt_F, le_T, le_F, eq_F, C1.2.1]
      · have : r ≤ u / bw β := (Nat.le_div_iff_mul_le (by omega)).mpr (by rw [Nat.mul_comm]; exact h1)
        omega
    · have inner : ∀ d c h1 f2, c + d = bw β → d < f2 → gC β w hh (bw β * r + c) h h1 → ∃ h2, qX7_findGaps_22 (qX7_findGaps_8 g) f2 49 b (nI w) (nI hh) (nI r) (nI c) h1 = some h2 ∧ gC β w hh (bw β * bh β) h h2 := by
        intro d
        induction d with
        | zero =>
          intro c h1 f2 hc hf2 S
          obtain ⟨g2, rfl⟩ : ∃ g, f2 = g + 1 := ⟨f2 - 1, by omega⟩
          have C1 : bC b β h1 := C.mv (fun a q _ _ => (S.1 a q (by omega)).1) (S.1 b 6 (by omega)).2
          obtain ⟨h2, e1, e2⟩ := ih (r + 1) h1 g (by omega) (by omega) (by rw [show bw β * (r + 1) = bw β * r + c by rw [Nat.mul_succ]; omega]; exact S)
          refine ⟨h2, ?_, e2⟩
          unfold qX7_findGaps_22
          simp (disch := omega) only [↓reduceIte, ↓q_m1, ↓q_m2, k_o, k_0, k_1, k_2, k_3, k_4, k_5, k_6, k_7, k_8, k_9, k_10, k_11, k_16, k_17, k_19, k_20, k_24, k_26, k_27, k_30, k_32, k_33, k_35, k_40, k_43, k_48, k_50, k_57, k_60, k_64, k_81, k_86, k_34, k_66, k_322, k_97, k_99, k_100, k_122, k_128, k_160, k_161, k_255, k_256, k_512, k_580, k_600, k_1000, k_4096, k_far, k_o, nI_add, n_mul, n_sub, n_div, n_rem, n_lt, n_le, n_eq, n_cl, n_and, n_or, n_xor, m1_lt, lt_m1, m1_eq, eq_m1, le_m1, m1_le, m2_eq, up_eq, up_ne, n_shl, n_shr, b2_some, let_e, ob_some, bI_0, bI_a, bI_t, bI_f, if_true, if_false, ite_true, ite_false, true_and, and_true, false_and, and_false, true_or, or_true, false_or, or_false, not_true_eq_false, not_false_eq_true, ite_not, ne_eq, Bool.true_eq_false, Bool.false_eq_true, reduceCtorEq, decide_true, decide_false, Bool.and_true, Bool.and_false, Bool.true_and, Bool.false_and, Bool.or_true, Bool.or_false, Bool.not_true, Bool.not_false, Nat.add_zero, Nat.zero_add, eq_self, Nat.not_lt_zero, Nat.reduceAdd, Nat.reduceMul, Nat.reduceSub, Nat.reduceDiv, Nat.reduceMod, Nat.reduceAnd, Nat.reduceXor, Nat.reduceEqDiff, Nat.reducePow, lt_T, lt_F, le_T, le_F, eq_F, C1.1]
          exact e1
        | succ d ih2 =>
          intro c h1 f2 hc hf2 S
          obtain ⟨g2, rfl⟩ : ∃ g, f2 = g + 1 := ⟨f2 - 1, by omega⟩
          have C1 : bC b β h1 := C.mv (fun a q _ _ => (S.1 a q (by omega)).1) (S.1 b 6 (by omega)).2
          by_cases q2 : bw β < c + w
          · obtain ⟨h2, e1, e2⟩ := ih (r + 1) h1 g (by omega) (by omega) (S.skip (by rw [Nat.mul_succ]; omega) (fun u h1 h2 => gapP_out (by
              rw [Nat.mul_succ] at h2
              obtain ⟨z1, z2⟩ := row_skip (W := bw β) (r := r) (c := c) (k := u) (by omega) h1 (by omega)
              omega)))
            refine ⟨h2, ?_, e2⟩
            unfold qX7_findGaps_22
            simp (disch := omega) only [↓reduceIte, ↓q_m1, ↓q_m2, k_o, k_0, k_1, k_2, k_3, k_4, k_5, k_6, k_7, k_8, k_9, k_10, k_11, k_16, k_17, k_19, k_20, k_24, k_26, k_27, k_30, k_32, k_33, k_35, k_40, k_43, k_48, k_50, k_57, k_60, k_64, k_81, k_86, k_34, k_66, k_322, k_97, k_99, k_100, k_122, k_128, k_160, k_161, k_255, k_256, k_512, k_580, k_600, k_1000, k_4096, k_far, k_o, nI_add, n_mul, n_sub, n_div, n_rem, n_lt, n_le, n_eq, n_cl, n_and, n_or, n_xor, m1_lt, lt_m1, m1_eq, eq_m1, le_m1, m1_le, m2_eq, up_eq, up_ne, n_shl, n_shr, b2_some, let_e, ob_some, bI_0, bI_a, bI_t, bI_f, if_true, if_false, ite_true, ite_false, true_and, and_true, false_and, and_false, true_or, or_true, false_or, or_false, not_true_eq_false, not_false_eq_true, ite_not, ne_eq, Bool.true_eq_false, Bool.false_eq_true, reduceCtorEq, decide_true, decide_false, Bool.and_true, Bool.and_false, Bool.true_and, Bool.false_and, Bool.or_true, Bool.or_false, Bool.not_true, Bool.not_false, Nat.add_zero, Nat.zero_add, eq_self, Nat.not_lt_zero, Nat.reduceAdd, Nat.reduceMul, Nat.reduceSub, Nat.reduceDiv, Nat.reduceMod, Nat.reduceAnd, Nat.reduceXor, Nat.reduceEqDiff, Nat.reducePow, lt_T, lt_F, le_T, le_F, eq_F, C1.1]
            exact e1
          · obtain ⟨z1, z2⟩ := wc_dm (W := bw β) (r := r) (c := c) (by omega)
            have hlt := cell_lt (W := bw β) (H := bh β) (r := r) (q := c) (by omega) (by omega)
            have hp : plP (bw β) (bh β) w hh (bw β * r + c) = true := by
              unfold plP
              rw [z1, z2]
              exact decide_eq_true (by omega)
            obtain ⟨B, p1, p2⟩ := c_block (r := r) (c := c) (w := w) (hh := hh) (by omega) (by omega) (by omega) (by omega) h1
            have hin := blk_in (X := h1.2 b 6) (B := B) (O := bO β) (r := r) (c := c) (w := w) (hh := hh) (by omega) (by omega) C1.2.2.2.2 p2
            have eg : gB β w hh (bw β * r + c) = decide (rs (shO (bO β)) r c w hh = 0) := by
              show gapP _ _ _ _ _ _ = _
              unfold gapP
              rw [hp, z1, z2, Bool.true_and]
            obtain ⟨s1, s2, s3⟩ := S
            have hct := fb_ct_le (gB β w hh) (bw β * r + c)
            by_cases q3 : rs (shO (bO β)) r c w hh = 0
            · rw [decide_eq_true q3] at eg
              obtain ⟨h2, e1, e2⟩ := ih2 (c + 1) (qm_seti (qm_setl h1 50 (fb_ct (gB β w hh) (bw β * r + c)) B) 49 3 (nI (fb_ct (gB β w hh) (bw β * r + c) + 1))) g2 (by omega) (by omega) ⟨(s1.trans (qFr.setl (Or.inr rfl))).trans (qFr.seti (Or.inl ⟨rfl, rfl⟩)), by
                rw [sI_eq, ← Nat.add_assoc, fb_ct_succ, eg]
                rfl, fun u hu hg => by
                show rep _ _ (qm_up h1.2 50 (fb_ct (gB β w hh) (bw β * r + c)) B 50 (fb_ct (gB β w hh) u)) _
                by_cases y : u = bw β * r + c
                · rw [y, up_eq]
                  refine rep_blk hp (fun k hk => ?_)
                  rw [z1, z2]
                  exact p2 k hk
                · rw [up_ne (fun t => y (fb_ct_kth_one hg eg t.2))]
                  exact s3 u (by omega) hg⟩
              refine ⟨h2, ?_, e2⟩
              unfold qX7_findGaps_22
              simp (disch := omega) only [↓reduceIte, ↓q_m1, ↓q_m2, k_o, k_0, k_1, k_2, k_3, k_4, k_5, k_6, k_7, k_8, k_9, k_10, k_11, k_16, k_17, k_19, k_20, k_24, k_26, k_27, k_30, k_32, k_33, k_35, k_40, k_43, k_48, k_50, k_57, k_60, k_64, k_81, k_86, k_34, k_66, k_322, k_97, k_99, k_100, k_122, k_128, k_160, k_161, k_255, k_256, k_512, k_580, k_600, k_1000, k_4096, k_far, k_o, nI_add, n_mul, n_sub, n_div, n_rem, n_lt, n_le, n_eq, n_cl, n_and, n_or, n_xor, m1_lt, lt_m1, m1_eq, eq_m1, le_m1, m1_le, m2_eq, up_eq, up_ne, n_shl, n_shr, b2_some, let_e, ob_some, bI_0, bI_a, bI_t, bI_f, if_true, if_false, ite_true, ite_false, true_and, and_true, false_and, and_false, true_or, or_true, false_or, or_false, not_true_eq_false, not_false_eq_true, ite_not, ne_eq, Bool.true_eq_false, Bool.false_eq_true, reduceCtorEq, decide_true, decide_false, Bool.and_true, Bool.and_false, Bool.true_and, Bool.false_and, Bool.or_true, Bool.or_false, Bool.not_true, Bool.not_false, Nat.add_zero, Nat.zero_add, eq_self, Nat.not_lt_zero, Nat.reduceAdd, Nat.reduceMul, Nat.reduceSub, Nat.reduceDiv, Nat.reduceMod, Nat.reduceAnd, Nat.reduceXor, Nat.reduceEqDiff, Nat.reducePow, lt_T, lt_F, le_T, le_F, eq_F, C1.1, p1, l_cmp0, eq_true (hin.mpr q3), s2]
              exact e1
            · rw [decide_eq_false q3] at eg
              obtain ⟨h2, e1, e2⟩ := ih2 (c + 1) h1 g2 (by omega) (by omega) (gC.skip ⟨s1, s2, s3⟩ (by omega) (fun u h1 h2 => by rw [show u = bw β * r + c by omega]; exact eg))
              refine ⟨h2, ?_, e2⟩
              unfold qX7_findGaps_22
              simp (disch := omega) only [↓reduceIte, ↓q_m1, ↓q_m2, k_o, k_0, k_1, k_2, k_3, k_4, k_5, k_6, k_7, k_8, k_9, k_10, k_11, k_16, k_17, k_19, k_20, k_24, k_26, k_27, k_30, k_32, k_33, k_35, k_40, k_43, k_48, k_50, k_57, k_60, k_64, k_81, k_86, k_34, k_66, k_322, k_97, k_99, k_100, k_122, k_128, k_160, k_161, k_255, k_256, k_512, k_580, k_600, k_1000, k_4096, k_far, k_o, nI_add, n_mul, n_sub, n_div, n_rem, n_lt, n_le, n_eq, n_cl, n_and, n_or, n_xor, m1_lt, lt_m1, m1_eq, eq_m1, le_m1, m1_le, m2_eq, up_eq, up_ne, n_shl, n_shr, b2_some, let_e, ob_some, bI_0, bI_a, bI_t, bI_f, if_true, if_false, ite_true, ite_false, true_and, and_true, false_and, and_false, true_or, or_true, false_or, or_false, not_true_eq_false, not_false_eq_true, ite_not, ne_eq, Bool.true_eq_false, Bool.false_eq_true, reduceCtorEq, decide_true, decide_false, Bool.and_true, Bool.and_false, Bool.true_and, Bool.false_and, Bool.or_true, Bool.or_false, Bool.not_true, Bool.not_false, Nat.add_zero, Nat.zero_add, eq_self, Nat.not_lt_zero, Nat.reduceAdd, Nat.reduceMul, Nat.reduceSub, Nat.reduceDiv, Nat.reduceMod, Nat.reduceAnd, Nat.reduceXor, Nat.reduceEqDiff, Nat.reducePow, lt_T, lt_F, le_T, le_F, eq_F, C1.1, p1, l_cmp0, eq_false (fun t => q3 (hin.mp t))]
              exact e1
      obtain ⟨h2, e1, e2⟩ := inner (bw β) 0 h1 qm_N (by omega) (by unfold qm_N; omega) S
      refine ⟨h2, ?_, e2⟩
      unfold qX7_findGaps_8
      simp (disch := omega) only [↓reduceIte, ↓q_m1, ↓q_m2, k_o, k_0, k_1, k_2, k_3, k_4, k_5, k_6, k_7, k_8, k_9, k_10, k_11, k_16, k_17, k_19, k_20, k_24, k_26, k_27, k_30, k_32, k_33, k_35, k_40, k_43, k_48, k_50, k_57, k_60, k_64, k_81, k_86, k_34, k_66, k_322, k_97, k_99, k_100, k_122, k_128, k_160, k_161, k_255, k_256, k_512, k_580, k_600, k_1000, k_4096, k_far, k_o, nI_add, n_mul, n_sub, n_div, n_rem, n_lt, n_le, n_eq, n_cl, n_and, n_or, n_xor, m1_lt, lt_m1, m1_eq, eq_m1, le_m1, m1_le, m2_eq, up_eq, up_ne, n_shl, n_shr, b2_some, let_e, ob_some, bI_0, bI_a, bI_t, bI_f, if_true, if_false, ite_true, ite_false, true_and, and_true, false_and, and_false, true_or, or_true, false_or, or_false, not_true_eq_false, not_false_eq_true, ite_not, ne_eq, Bool.true_eq_false, Bool.false_eq_true, reduceCtorEq, decide_true, decide_false, Bool.and_true, Bool.and_false, Bool.true_and, Bool.false_and, Bool.or_true, Bool.or_false, Bool.not_true, Bool.not_false, Nat.add_zero, Nat.zero_add, eq_self, Nat.not_lt_zero, Nat.reduceAdd, Nat.reduceMul, Nat.reduceSub, Nat.reduceDiv, Nat.reduceMod, Nat.reduceAnd, Nat.reduceXor, Nat.reduceEqDiff, Nat.reducePow, lt_T, lt_F, le_T, le_F, eq_F, C1.2.1]
      exact e1
theorem c_findGaps (k : bOK β) (C : bC b β h) (hb : b + 2 < 49) {w hh : Nat} (hw : 1 ≤ w) (hw2 : w ≤ 8) (hh1 : 1 ≤ hh) (hh2 : hh ≤ 8) : ∃ h2, qX7_findGaps 49 b (nI w) (nI hh) h = some h2 ∧ gC β w hh (bw β * bh β) h h2 := by
  have hH := k.H
  have C1 : bC b β (qm_seti h 49 3 (nI 0)) := C.mv (fun a q _ _ => sI_ne (by omega)) rfl
  obtain ⟨h2, e1, e2, e3, e4⟩ := c_fg8 k C1 hb hw hw2 hh1 hh2 (bh β) 0 (qm_seti h 49 3 (nI 0)) qm_N (by omega) (by unfold qm_N; omega) ⟨qFr.refl _ _, sI_eq _ _ _ _, fun u hu => absurd hu (by omega)⟩
  exact ⟨h2, e1, (qFr.seti (Or.inl ⟨rfl, rfl⟩)).trans e2, e3, e4⟩
/-- a gap that some STROKES leave -/
def unB (β : qB) (w hh : Nat) (S : Nat → Bool) (u : Nat) : Bool := gB β w hh u && decide (∀ x, x < bw β * bh β → (inR (bw β) w hh u x && S x) = false)
/-- a STROKE that is in all such gaps (below p) -/
def inA (β : qB) (w hh : Nat) (S : Nat → Bool) (p x : Nat) : Bool := decide (∀ u, u < p → unB β w hh S u = true → inR (bw β) w hh u x = true)
def sgm (W x : Nat) : Nat := 8 * (x / W) + x % W
theorem c_lia_end (k : bOK β) {w hh : Nat} {S : Nat → Bool} {l : Int64} (ex : ∃ u, u < bw β * bh β ∧ unB β w hh S u = true) (R : rep (bw β) (bh β) l (inA β w hh S (bw β * bh β))) : qX7_leastInAll_59 l h = some (match fs (inA β w hh S (bw β * bh β)) (bw β * bh β) 0 with | none => m1 | some x => nI (sgm (bw β) x), h) := by
  have hW := k.W
  have hH := k.H
  unfold qX7_leastInAll_59
  cases q : fs (inA β w hh S (bw β * bh β)) (bw β * bh β) 0 with
  | none =>
    have z : l = 0 := by
      apply lb_ext
      intro j hj
      rw [lb_0, R j hj]
      by_cases y : j / 8 < bh β ∧ j % 8 < bw β
      · rw [fs_is_none q _ (Nat.zero_le _) (by have := cell_lt (W := bw β) (H := bh β) y.1 y.2; omega), Bool.and_false]
      · rw [decide_eq_false y, Bool.false_and]
    rw [k_0, if_pos (by rw [l_cmp0]; exact z)]
    rfl
  | some x =>
    obtain ⟨x1, x2, x3⟩ := fs_some q
    have hx : x < bw β * bh β := by omega
    have hd := k.dm hx
    have hcm := Nat.div_add_mod x (bw β)
    have b1 := rep_bit hW.2 hH.2 R hd.1 hd.2
    rw [hcm, x3] at b1
    have ne : ¬ l = 0 := fun y => by rw [y, lb_0] at b1; cases b1
    have b2 : ∀ j, j < sgm (bw β) x → lb l j = false := fun j hj => by
      unfold sgm at hj
      by_cases y : j / 8 < bh β ∧ j % 8 < bw β
      · rw [R j (by omega), decide_eq_true y, Bool.true_and]
        have hlt : bw β * (j / 8) + j % 8 < x := by
          by_cases y1 : j / 8 < x / bw β
          · have : bw β * (j / 8 + 1) ≤ bw β * (x / bw β) := Nat.mul_le_mul_left _ y1
            rw [Nat.mul_succ] at this
            omega
          · have : j / 8 = x / bw β := by omega
            rw [this]
            omega
        have := fs_first q (bw β * (j / 8) + j % 8) (Nat.zero_le _) hlt
        exact this
      · exact rep_out R y
    rw [k_0, if_neg (by rw [l_cmp0]; exact ne), j_ntzl (k := sgm (bw β) x) (by unfold sgm; omega) b1 b2, b2_some]
end CG2
