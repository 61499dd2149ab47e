/-! THE CLASS'S BASKET. -/
theorem j_max {p q r : Nat} (hp : p < 19) (hq : q < 10) (hr : r < 10) (h : qm_H) : qJ9_max_7cf53 (nI 0) (nI p - nI q - nI r) h = some (nI (p - q - r), h) := by
  have e : ∀ p, p < 19 → ∀ q, q < 10 → ∀ r, r < 10 → (if nI 0 < (nI p - nI q - nI r) then nI p - nI q - nI r else nI 0) = nI (p - q - r) := by decide +kernel
  unfold qJ9_max_7cf53
  rw [← e p hp q hq r hr]
  split <;> rfl
theorem j_maxn {a b : Nat} (ha : a < 2147483648) (hb : b < 2147483648) (h : qm_H) : qJ9_max_7cf53 (nI a) (nI b) h = some (nI (max a b), h) := by
  unfold qJ9_max_7cf53
  simp (disch := omega) only [↓q_m1, ↓q_m2, k_o, k_0, k_1, k_2, k_3, k_4, k_5, k_6, k_7, k_8, k_9, k_10, k_11, k_16, k_17, k_19, k_20, k_24, k_26, k_27, k_30, k_32, k_33, k_35, k_40, k_43, k_48, k_50, k_57, k_60, k_64, k_81, k_86, k_34, k_66, k_322, k_97, k_99, k_100, k_122, k_128, k_160, k_161, k_255, k_256, k_512, k_580, k_600, k_1000, k_4096, k_far, k_o, nI_add, n_mul, n_sub, n_div, n_rem, n_lt, n_le, n_eq, n_cl, n_and, n_or, n_xor, m1_lt, lt_m1, m1_eq, eq_m1, le_m1, m1_le, m2_eq, up_eq, up_ne, n_shl, n_shr, b2_some, let_e, ob_some, bI_0, bI_a, bI_t, bI_f, if_true, if_false, ite_true, ite_false, true_and, and_true, false_and, and_false, true_or, or_true, false_or, or_false, not_true_eq_false, not_false_eq_true, ite_not, ne_eq, Bool.true_eq_false, Bool.false_eq_true, reduceCtorEq, decide_true, decide_false, Bool.and_true, Bool.and_false, Bool.true_and, Bool.false_and, Bool.or_true, Bool.or_false, Bool.not_true, Bool.not_false, Nat.add_zero, Nat.zero_add, eq_self, Nat.not_lt_zero, Nat.reduceAdd, Nat.reduceMul, Nat.reduceSub, Nat.reduceDiv, Nat.reduceMod, Nat.reduceAnd, Nat.reduceXor, Nat.reduceEqDiff, Nat.reducePow]
  split <;> congr 3 <;> omega
theorem j_minn {a b : Nat} (ha : a < 2147483648) (hb : b < 2147483648) (h : qm_H) : qJ9_min_7cf53 (nI a) (nI b) h = some (nI (min a b), h) := by
  unfold qJ9_min_7cf53
  simp (disch := omega) only [↓q_m1, ↓q_m2, k_o, k_0, k_1, k_2, k_3, k_4, k_5, k_6, k_7, k_8, k_9, k_10, k_11, k_16, k_17, k_19, k_20, k_24, k_26, k_27, k_30, k_32, k_33, k_35, k_40, k_43, k_48, k_50, k_57, k_60, k_64, k_81, k_86, k_34, k_66, k_322, k_97, k_99, k_100, k_122, k_128, k_160, k_161, k_255, k_256, k_512, k_580, k_600, k_1000, k_4096, k_far, k_o, nI_add, n_mul, n_sub, n_div, n_rem, n_lt, n_le, n_eq, n_cl, n_and, n_or, n_xor, m1_lt, lt_m1, m1_eq, eq_m1, le_m1, m1_le, m2_eq, up_eq, up_ne, n_shl, n_shr, b2_some, let_e, ob_some, bI_0, bI_a, bI_t, bI_f, if_true, if_false, ite_true, ite_false, true_and, and_true, false_and, and_false, true_or, or_true, false_or, or_false, not_true_eq_false, not_false_eq_true, ite_not, ne_eq, Bool.true_eq_false, Bool.false_eq_true, reduceCtorEq, decide_true, decide_false, Bool.and_true, Bool.and_false, Bool.true_and, Bool.false_and, Bool.or_true, Bool.or_false, Bool.not_true, Bool.not_false, Nat.add_zero, Nat.zero_add, eq_self, Nat.not_lt_zero, Nat.reduceAdd, Nat.reduceMul, Nat.reduceSub, Nat.reduceDiv, Nat.reduceMod, Nat.reduceAnd, Nat.reduceXor, Nat.reduceEqDiff, Nat.reducePow]
  split <;> congr 3 <;> omega
/-- a rectangle's bits -/
def blB (r c w h k : Nat) : Bool := decide (r ≤ k / 8 ∧ k / 8 < r + h ∧ c ≤ k % 8 ∧ k % 8 < c + w)
theorem line_b : ∀ w, w ≤ 8 → ∀ k, k < 64 → lb (qm_lshl 1 (nI w) - 1) k = decide (k < w) := by decide +kernel
theorem c_block_l {r c w hh : Nat} (hw : w ≤ 8) (hr : r + hh ≤ 8) (hc : c + w ≤ 8) (hc8 : c < 8) (hr8 : r < 8) (h : qm_H) : ∀ d i B fuel, i + d = hh → d < fuel → (∀ k, k < 64 → lb B k = decide (k / 8 < i ∧ k % 8 < w)) → ∃ B', qX0_block_13 fuel (nI r) (nI c) (nI hh) (qm_lshl 1 (nI w) - 1) B (nI i) h = some (B', h) ∧ ∀ k, k < 64 → lb B' k = blB r c w hh k := by
  intro d
  induction d with
  | zero =>
    intro i B fuel hi hf hB
    obtain ⟨g, rfl⟩ : ∃ g, fuel = g + 1 := ⟨fuel - 1, by omega⟩
    refine ⟨qm_lshl B (nI (8 * r + c)), ?_, fun k hk => ?_⟩
    · unfold qX0_block_13
      simp (disch := omega) only [↓q_m1, ↓q_m2, k_o, k_0, k_1, k_2, k_3, k_4, k_5, k_6, k_7, k_8, k_9, k_10, k_11, k_16, k_17, k_19, k_20, k_24, k_26, k_27, k_30, k_32, k_33, k_35, k_40, k_43, k_48, k_50, k_57, k_60, k_64, k_81, k_86, k_34, k_66, k_322, k_97, k_99, k_100, k_122, k_128, k_160, k_161, k_255, k_256, k_512, k_580, k_600, k_1000, k_4096, k_far, k_o, nI_add, n_mul, n_sub, n_div, n_rem, n_lt, n_le, n_eq, n_cl, n_and, n_or, n_xor, m1_lt, lt_m1, m1_eq, eq_m1, le_m1, m1_le, m2_eq, up_eq, up_ne, n_shl, n_shr, b2_some, let_e, ob_some, bI_0, bI_a, bI_t, bI_f, if_true, if_false, ite_true, ite_false, true_and, and_true, false_and, and_false, true_or, or_true, false_or, or_false, not_true_eq_false, not_false_eq_true, ite_not, ne_eq, Bool.true_eq_false, Bool.false_eq_true, reduceCtorEq, decide_true, decide_false, Bool.and_true, Bool.and_false, Bool.true_and, Bool.false_and, Bool.or_true, Bool.or_false, Bool.not_true, Bool.not_false, Nat.add_zero, Nat.zero_add, eq_self, Nat.not_lt_zero, Nat.reduceAdd, Nat.reduceMul, Nat.reduceSub, Nat.reduceDiv, Nat.reduceMod, Nat.reduceAnd, Nat.reduceXor, Nat.reduceEqDiff, Nat.reducePow, lt_T, lt_F, le_T, le_F, eq_F]
    · rw [lb_shl _ (by omega) hk]
      unfold blB
      by_cases q : 8 * r + c ≤ k
      · rw [hB _ (by omega), decide_eq_true q, Bool.true_and]
        exact decide_eq_decide.mpr ⟨fun z => by omega, fun z => by omega⟩
      · rw [decide_eq_false q, Bool.false_and]
        exact (decide_eq_false (by omega)).symm
  | succ d ih =>
    intro i B fuel hi hf hB
    obtain ⟨g, rfl⟩ : ∃ g, fuel = g + 1 := ⟨fuel - 1, by omega⟩
    obtain ⟨B', e1, e2⟩ := ih (i + 1) (B ||| qm_lshl (qm_lshl 1 (nI w) - 1) (nI (8 * i))) g (by omega) (by omega) (fun k hk => by
      rw [lb_or, hB k hk, lb_shl _ (by omega) hk]
      by_cases q : 8 * i ≤ k
      · rw [line_b w hw _ (by omega), decide_eq_true q, Bool.true_and, ← Bool.decide_or]
        exact decide_eq_decide.mpr ⟨fun z => by omega, fun z => by omega⟩
      · rw [decide_eq_false q, Bool.false_and, Bool.or_false]
        exact decide_eq_decide.mpr ⟨fun z => by omega, fun z => by omega⟩)
    refine ⟨B', ?_, e2⟩
    unfold qX0_block_13
    simp (disch := omega) only [↓q_m1, ↓q_m2, k_o, k_0, k_1, k_2, k_3, k_4, k_5, k_6, k_7, k_8, k_9, k_10, k_11, k_16, k_17, k_19, k_20, k_24, k_26, k_27, k_30, k_32, k_33, k_35, k_40, k_43, k_48, k_50, k_57, k_60, k_64, k_81, k_86, k_34, k_66, k_322, k_97, k_99, k_100, k_122, k_128, k_160, k_161, k_255, k_256, k_512, k_580, k_600, k_1000, k_4096, k_far, k_o, nI_add, n_mul, n_sub, n_div, n_rem, n_lt, n_le, n_eq, n_cl, n_and, n_or, n_xor, m1_lt, lt_m1, m1_eq, eq_m1, le_m1, m1_le, m2_eq, up_eq, up_ne, n_shl, n_shr, b2_some, let_e, ob_some, bI_0, bI_a, bI_t, bI_f, if_true, if_false, ite_true, ite_false, true_and, and_true, false_and, and_false, true_or, or_true, false_or, or_false, not_true_eq_false, not_false_eq_true, ite_not, ne_eq, Bool.true_eq_false, Bool.false_eq_true, reduceCtorEq, decide_true, decide_false, Bool.and_true, Bool.and_false, Bool.true_and, Bool.false_and, Bool.or_true, Bool.or_false, Bool.not_true, Bool.not_false, Nat.add_zero, Nat.zero_add, eq_self, Nat.not_lt_zero, Nat.reduceAdd, Nat.reduceMul, Nat.reduceSub, Nat.reduceDiv, Nat.reduceMod, Nat.reduceAnd, Nat.reduceXor, Nat.reduceEqDiff, Nat.reducePow, lt_T, lt_F, le_T, le_F, eq_F]
    exact e1
theorem c_block {r c w hh : Nat} (hr : r + hh ≤ 8) (hc : c + w ≤ 8) (hc8 : c < 8) (hr8 : r < 8) (h : qm_H) : ∃ B, qX0_block (nI r) (nI c) (nI w) (nI hh) h = some (B, h) ∧ ∀ k, k < 64 → lb B k = blB r c w hh k := by
  obtain ⟨B, e1, e2⟩ := c_block_l (r := r) (c := c) (w := w) (hh := hh) (by omega) hr hc hc8 hr8 h hh 0 0 qm_N (by omega) (by unfold qm_N; omega) (fun k _ => by
    rw [lb_0]
    exact (decide_eq_false (by omega)).symm)
  refine ⟨B, ?_, e2⟩
  unfold qX0_block
  rw [let_e]
  exact e1
/-- all bits of a rectangle are in -/
theorem blk_in {X B : Int64} {O : Nat → Nat → Bool} {r c w hh : Nat} (hr : r + hh ≤ 8) (hc : c + w ≤ 8) (hX : ∀ r c, r < 8 → c < 8 → lb X (8 * r + c) = O r c) (hB : ∀ k, k < 64 → lb B k = blB r c w hh k) : (X &&& B = B) ↔ rs (shO O) r c w hh = 0 := by
  rw [rs_zero]
  constructor
  · intro e i j hi hj
    have : lb (X &&& B) (8 * (r + i) + (c + j)) = lb B (8 * (r + i) + (c + j)) := by rw [e]
    rw [lb_and, hX _ _ (by omega) (by omega), hB _ (by omega)] at this
    have t : blB r c w hh (8 * (r + i) + (c + j)) = true := decide_eq_true (by omega)
    rw [t, Bool.and_true] at this
    unfold shO
    rw [this]
    rfl
  · intro e
    apply lb_ext
    intro k hk
    rw [lb_and, hB k hk]
    by_cases q : blB r c w hh k = true
    · rw [q, Bool.and_true]
      have q' : r ≤ k / 8 ∧ k / 8 < r + hh ∧ c ≤ k % 8 ∧ k % 8 < c + w := of_decide_eq_true q
      have := e (k / 8 - r) (k % 8 - c) (by omega) (by omega)
      rw [show r + (k / 8 - r) = k / 8 by omega, show c + (k % 8 - c) = k % 8 by omega] at this
      have h2 := hX (k / 8) (k % 8) (by omega) (by omega)
      rw [show 8 * (k / 8) + k % 8 = k by omega] at h2
      rw [h2]
      unfold shO at this
      by_cases z : O (k / 8) (k % 8) = true
      · exact z
      · rw [if_neg z] at this
        omega
    · have : blB r c w hh k = false := Bool.not_eq_true _ ▸ q
      rw [this, Bool.and_false]
section CB
variable {β : qB} {h : qm_H} {b : Nat}
theorem c_rowOf (k : bOK β) (C : bC b β h) {c : Nat} (hc : c < 2147483648) : qX0_rowOf b (nI c) h = some (nI (c / bw β), h) := by
  have hW := k.W
  unfold qX0_rowOf
  simp (disch := omega) only [↓q_m1, ↓q_m2, k_o, k_0, k_1, k_2, k_3, k_4, k_5, k_6, k_7, k_8, k_9, k_10, k_11, k_16, k_17, k_19, k_20, k_24, k_26, k_27, k_30, k_32, k_33, k_35, k_40, k_43, k_48, k_50, k_57, k_60, k_64, k_81, k_86, k_34, k_66, k_322, k_97, k_99, k_100, k_122, k_128, k_160, k_161, k_255, k_256, k_512, k_580, k_600, k_1000, k_4096, k_far, k_o, nI_add, n_mul, n_sub, n_div, n_rem, n_lt, n_le, n_eq, n_cl, n_and, n_or, n_xor, m1_lt, lt_m1, m1_eq, eq_m1, le_m1, m1_le, m2_eq, up_eq, up_ne, n_shl, n_shr, b2_some, let_e, ob_some, bI_0, bI_a, bI_t, bI_f, if_true, if_false, ite_true, ite_false, true_and, and_true, false_and, and_false, true_or, or_true, false_or, or_false, not_true_eq_false, not_false_eq_true, ite_not, ne_eq, Bool.true_eq_false, Bool.false_eq_true, reduceCtorEq, decide_true, decide_false, Bool.and_true, Bool.and_false, Bool.true_and, Bool.false_and, Bool.or_true, Bool.or_false, Bool.not_true, Bool.not_false, Nat.add_zero, Nat.zero_add, eq_self, Nat.not_lt_zero, Nat.reduceAdd, Nat.reduceMul, Nat.reduceSub, Nat.reduceDiv, Nat.reduceMod, Nat.reduceAnd, Nat.reduceXor, Nat.reduceEqDiff, Nat.reducePow, lt_T, lt_F, le_T, le_F, eq_F, C.1]
theorem c_columnOf (k : bOK β) (C : bC b β h) {c : Nat} (hc : c < 2147483648) : qX0_columnOf b (nI c) h = some (nI (c % bw β), h) := by
  have hW := k.W
  unfold qX0_columnOf
  simp (disch := omega) only [↓q_m1, ↓q_m2, k_o, k_0, k_1, k_2, k_3, k_4, k_5, k_6, k_7, k_8, k_9, k_10, k_11, k_16, k_17, k_19, k_20, k_24, k_26, k_27, k_30, k_32, k_33, k_35, k_40, k_43, k_48, k_50, k_57, k_60, k_64, k_81, k_86, k_34, k_66, k_322, k_97, k_99, k_100, k_122, k_128, k_160, k_161, k_255, k_256, k_512, k_580, k_600, k_1000, k_4096, k_far, k_o, nI_add, n_mul, n_sub, n_div, n_rem, n_lt, n_le, n_eq, n_cl, n_and, n_or, n_xor, m1_lt, lt_m1, m1_eq, eq_m1, le_m1, m1_le, m2_eq, up_eq, up_ne, n_shl, n_shr, b2_some, let_e, ob_some, bI_0, bI_a, bI_t, bI_f, if_true, if_false, ite_true, ite_false, true_and, and_true, false_and, and_false, true_or, or_true, false_or, or_false, not_true_eq_false, not_false_eq_true, ite_not, ne_eq, Bool.true_eq_false, Bool.false_eq_true, reduceCtorEq, decide_true, decide_false, Bool.and_true, Bool.and_false, Bool.true_and, Bool.false_and, Bool.or_true, Bool.or_false, Bool.not_true, Bool.not_false, Nat.add_zero, Nat.zero_add, eq_self, Nat.not_lt_zero, Nat.reduceAdd, Nat.reduceMul, Nat.reduceSub, Nat.reduceDiv, Nat.reduceMod, Nat.reduceAnd, Nat.reduceXor, Nat.reduceEqDiff, Nat.reducePow, lt_T, lt_F, le_T, le_F, eq_F, C.1]
theorem c_hasStroke (k : bOK β) (C : bC b β h) {c : Nat} (hc : c < 2147483648) : qX0_hasStroke b (nI c) h = some (bI (decide (c < bw β * bh β)), h) := by
  have hn := k.n
  unfold qX0_hasStroke
  simp (disch := omega) only [↓q_m1, ↓q_m2, k_o, k_0, k_1, k_2, k_3, k_4, k_5, k_6, k_7, k_8, k_9, k_10, k_11, k_16, k_17, k_19, k_20, k_24, k_26, k_27, k_30, k_32, k_33, k_35, k_40, k_43, k_48, k_50, k_57, k_60, k_64, k_81, k_86, k_34, k_66, k_322, k_97, k_99, k_100, k_122, k_128, k_160, k_161, k_255, k_256, k_512, k_580, k_600, k_1000, k_4096, k_far, k_o, nI_add, n_mul, n_sub, n_div, n_rem, n_lt, n_le, n_eq, n_cl, n_and, n_or, n_xor, m1_lt, lt_m1, m1_eq, eq_m1, le_m1, m1_le, m2_eq, up_eq, up_ne, n_shl, n_shr, b2_some, let_e, ob_some, bI_0, bI_a, bI_t, bI_f, if_true, if_false, ite_true, ite_false, true_and, and_true, false_and, and_false, true_or, or_true, false_or, or_false, not_true_eq_false, not_false_eq_true, ite_not, ne_eq, Bool.true_eq_false, Bool.false_eq_true, reduceCtorEq, decide_true, decide_false, Bool.and_true, Bool.and_false, Bool.true_and, Bool.false_and, Bool.or_true, Bool.or_false, Bool.not_true, Bool.not_false, Nat.add_zero, Nat.zero_add, eq_self, Nat.not_lt_zero, Nat.reduceAdd, Nat.reduceMul, Nat.reduceSub, Nat.reduceDiv, Nat.reduceMod, Nat.reduceAnd, Nat.reduceXor, Nat.reduceEqDiff, Nat.reducePow, C.1, C.2.1]
  by_cases q : c < bw β * bh β
  · simp (disch := omega) only [↓q_m1, ↓q_m2, k_o, k_0, k_1, k_2, k_3, k_4, k_5, k_6, k_7, k_8, k_9, k_10, k_11, k_16, k_17, k_19, k_20, k_24, k_26, k_27, k_30, k_32, k_33, k_35, k_40, k_43, k_48, k_50, k_57, k_60, k_64, k_81, k_86, k_34, k_66, k_322, k_97, k_99, k_100, k_122, k_128, k_160, k_161, k_255, k_256, k_512, k_580, k_600, k_1000, k_4096, k_far, k_o, nI_add, n_mul, n_sub, n_div, n_rem, n_lt, n_le, n_eq, n_cl, n_and, n_or, n_xor, m1_lt, lt_m1, m1_eq, eq_m1, le_m1, m1_le, m2_eq, up_eq, up_ne, n_shl, n_shr, b2_some, let_e, ob_some, bI_0, bI_a, bI_t, bI_f, if_true, if_false, ite_true, ite_false, true_and, and_true, false_and, and_false, true_or, or_true, false_or, or_false, not_true_eq_false, not_false_eq_true, ite_not, ne_eq, Bool.true_eq_false, Bool.false_eq_true, reduceCtorEq, decide_true, decide_false, Bool.and_true, Bool.and_false, Bool.true_and, Bool.false_and, Bool.or_true, Bool.or_false, Bool.not_true, Bool.not_false, Nat.add_zero, Nat.zero_add, eq_self, Nat.not_lt_zero, Nat.reduceAdd, Nat.reduceMul, Nat.reduceSub, Nat.reduceDiv, Nat.reduceMod, Nat.reduceAnd, Nat.reduceXor, Nat.reduceEqDiff, Nat.reducePow, lt_T, lt_F, le_T, le_F, eq_F]
  · simp (disch := omega) only [↓q_m1, ↓q_m2, k_o, k_0, k_1, k_2, k_3, k_4, k_5, k_6, k_7, k_8, k_9, k_10, k_11, k_16, k_17, k_19, k_20, k_24, k_26, k_27, k_30, k_32, k_33, k_35, k_40, k_43, k_48, k_50, k_57, k_60, k_64, k_81, k_86, k_34, k_66, k_322, k_97, k_99, k_100, k_122, k_128, k_160, k_161, k_255, k_256, k_512, k_580, k_600, k_1000, k_4096, k_far, k_o, nI_add, n_mul, n_sub, n_div, n_rem, n_lt, n_le, n_eq, n_cl, n_and, n_or, n_xor, m1_lt, lt_m1, m1_eq, eq_m1, le_m1, m1_le, m2_eq, up_eq, up_ne, n_shl, n_shr, b2_some, let_e, ob_some, bI_0, bI_a, bI_t, bI_f, if_true, if_false, ite_true, ite_false, true_and, and_true, false_and, and_false, true_or, or_true, false_or, or_false, not_true_eq_false, not_false_eq_true, ite_not, ne_eq, Bool.true_eq_false, Bool.false_eq_true, reduceCtorEq, decide_true, decide_false, Bool.and_true, Bool.and_false, Bool.true_and, Bool.false_and, Bool.or_true, Bool.or_false, Bool.not_true, Bool.not_false, Nat.add_zero, Nat.zero_add, eq_self, Nat.not_lt_zero, Nat.reduceAdd, Nat.reduceMul, Nat.reduceSub, Nat.reduceDiv, Nat.reduceMod, Nat.reduceAnd, Nat.reduceXor, Nat.reduceEqDiff, Nat.reducePow, lt_T, lt_F, le_T, le_F, eq_F]
theorem lt0_self {x : Int32} (hx : x < 0) : (x < nI 0) = True := ng_lt hx (by omega)
theorem c_hasStroke_n {x : Int32} (hx : x < 0) : qX0_hasStroke b x h = some (bI false, h) := by
  unfold qX0_hasStroke
  simp (disch := omega) only [↓q_m1, ↓q_m2, k_o, k_0, k_1, k_2, k_3, k_4, k_5, k_6, k_7, k_8, k_9, k_10, k_11, k_16, k_17, k_19, k_20, k_24, k_26, k_27, k_30, k_32, k_33, k_35, k_40, k_43, k_48, k_50, k_57, k_60, k_64, k_81, k_86, k_34, k_66, k_322, k_97, k_99, k_100, k_122, k_128, k_160, k_161, k_255, k_256, k_512, k_580, k_600, k_1000, k_4096, k_far, k_o, nI_add, n_mul, n_sub, n_div, n_rem, n_lt, n_le, n_eq, n_cl, n_and, n_or, n_xor, m1_lt, lt_m1, m1_eq, eq_m1, le_m1, m1_le, m2_eq, up_eq, up_ne, n_shl, n_shr, b2_some, let_e, ob_some, bI_0, bI_a, bI_t, bI_f, if_true, if_false, ite_true, ite_false, true_and, and_true, false_and, and_false, true_or, or_true, false_or, or_false, not_true_eq_false, not_false_eq_true, ite_not, ne_eq, Bool.true_eq_false, Bool.false_eq_true, reduceCtorEq, decide_true, decide_false, Bool.and_true, Bool.and_false, Bool.true_and, Bool.false_and, Bool.or_true, Bool.or_false, Bool.not_true, Bool.not_false, Nat.add_zero, Nat.zero_add, eq_self, Nat.not_lt_zero, Nat.reduceAdd, Nat.reduceMul, Nat.reduceSub, Nat.reduceDiv, Nat.reduceMod, Nat.reduceAnd, Nat.reduceXor, Nat.reduceEqDiff, Nat.reducePow, lt0_self hx]
theorem c_hasTwig (k : bOK β) (C : bC b β h) {s c : Nat} (hs : s ≤ 1) (hc : c < 2147483648) : qX0_hasTwig b (nI s) (nI c) h = some (bI (decide (c < if s = 0 then bh β else bw β)), h) := by
  have hW := k.W
  have hH := k.H
  unfold qX0_hasTwig
  simp (disch := omega) only [↓q_m1, ↓q_m2, k_o, k_0, k_1, k_2, k_3, k_4, k_5, k_6, k_7, k_8, k_9, k_10, k_11, k_16, k_17, k_19, k_20, k_24, k_26, k_27, k_30, k_32, k_33, k_35, k_40, k_43, k_48, k_50, k_57, k_60, k_64, k_81, k_86, k_34, k_66, k_322, k_97, k_99, k_100, k_122, k_128, k_160, k_161, k_255, k_256, k_512, k_580, k_600, k_1000, k_4096, k_far, k_o, nI_add, n_mul, n_sub, n_div, n_rem, n_lt, n_le, n_eq, n_cl, n_and, n_or, n_xor, m1_lt, lt_m1, m1_eq, eq_m1, le_m1, m1_le, m2_eq, up_eq, up_ne, n_shl, n_shr, b2_some, let_e, ob_some, bI_0, bI_a, bI_t, bI_f, if_true, if_false, ite_true, ite_false, true_and, and_true, false_and, and_false, true_or, or_true, false_or, or_false, not_true_eq_false, not_false_eq_true, ite_not, ne_eq, Bool.true_eq_false, Bool.false_eq_true, reduceCtorEq, decide_true, decide_false, Bool.and_true, Bool.and_false, Bool.true_and, Bool.false_and, Bool.or_true, Bool.or_false, Bool.not_true, Bool.not_false, Nat.add_zero, Nat.zero_add, eq_self, Nat.not_lt_zero, Nat.reduceAdd, Nat.reduceMul, Nat.reduceSub, Nat.reduceDiv, Nat.reduceMod, Nat.reduceAnd, Nat.reduceXor, Nat.reduceEqDiff, Nat.reducePow, C.1, C.2.1]
  by_cases q : s = 0
  · subst q
    by_cases q2 : c < bh β
    · simp (disch := omega) only [↓q_m1, ↓q_m2, k_o, k_0, k_1, k_2, k_3, k_4, k_5, k_6, k_7, k_8, k_9, k_10, k_11, k_16, k_17, k_19, k_20, k_24, k_26, k_27, k_30, k_32, k_33, k_35, k_40, k_43, k_48, k_50, k_57, k_60, k_64, k_81, k_86, k_34, k_66, k_322, k_97, k_99, k_100, k_122, k_128, k_160, k_161, k_255, k_256, k_512, k_580, k_600, k_1000, k_4096, k_far, k_o, nI_add, n_mul, n_sub, n_div, n_rem, n_lt, n_le, n_eq, n_cl, n_and, n_or, n_xor, m1_lt, lt_m1, m1_eq, eq_m1, le_m1, m1_le, m2_eq, up_eq, up_ne, n_shl, n_shr, b2_some, let_e, ob_some, bI_0, bI_a, bI_t, bI_f, if_true, if_false, ite_true, ite_false, true_and, and_true, false_and, and_false, true_or, or_true, false_or, or_false, not_true_eq_false, not_false_eq_true, ite_not, ne_eq, Bool.true_eq_false, Bool.false_eq_true, reduceCtorEq, decide_true, decide_false, Bool.and_true, Bool.and_false, Bool.true_and, Bool.false_and, Bool.or_true, Bool.or_false, Bool.not_true, Bool.not_false, Nat.add_zero, Nat.zero_add, eq_self, Nat.not_lt_zero, Nat.reduceAdd, Nat.reduceMul, Nat.reduceSub, Nat.reduceDiv, Nat.reduceMod, Nat.reduceAnd, Nat.reduceXor, Nat.reduceEqDiff, Nat.reducePow, lt_T, lt_F, le_T, le_F, eq_F]
    · simp (disch := omega) only [↓q_m1, ↓q_m2, k_o, k_0, k_1, k_2, k_3, k_4, k_5, k_6, k_7, k_8, k_9, k_10, k_11, k_16, k_17, k_19, k_20, k_24, k_26, k_27, k_30, k_32, k_33, k_35, k_40, k_43, k_48, k_50, k_57, k_60, k_64, k_81, k_86, k_34, k_66, k_322, k_97, k_99, k_100, k_122, k_128, k_160, k_161, k_255, k_256, k_512, k_580, k_600, k_1000, k_4096, k_far, k_o, nI_add, n_mul, n_sub, n_div, n_rem, n_lt, n_le, n_eq, n_cl, n_and, n_or, n_xor, m1_lt, lt_m1, m1_eq, eq_m1, le_m1, m1_le, m2_eq, up_eq, up_ne, n_shl, n_shr, b2_some, let_e, ob_some, bI_0, bI_a, bI_t, bI_f, if_true, if_false, ite_true, ite_false, true_and, and_true, false_and, and_false, true_or, or_true, false_or, or_false, not_true_eq_false, not_false_eq_true, ite_not, ne_eq, Bool.true_eq_false, Bool.false_eq_true, reduceCtorEq, decide_true, decide_false, Bool.and_true, Bool.and_false, Bool.true_and, Bool.false_and, Bool.or_true, Bool.or_false, Bool.not_true, Bool.not_false, Nat.add_zero, Nat.zero_add, eq_self, Nat.not_lt_zero, Nat.reduceAdd, Nat.reduceMul, Nat.reduceSub, Nat.reduceDiv, Nat.reduceMod, Nat.reduceAnd, Nat.reduceXor, Nat.reduceEqDiff, Nat.reducePow, lt_T, lt_F, le_T, le_F, eq_F]
  · have : s = 1 := by omega
    subst this
    by_cases q2 : c < bw β
    · simp (disch := omega) only [↓q_m1, ↓q_m2, k_o, k_0, k_1, k_2, k_3, k_4, k_5, k_6, k_7, k_8, k_9, k_10, k_11, k_16, k_17, k_19, k_20, k_24, k_26, k_27, k_30, k_32, k_33, k_35, k_40, k_43, k_48, k_50, k_57, k_60, k_64, k_81, k_86, k_34, k_66, k_322, k_97, k_99, k_100, k_122, k_128, k_160, k_161, k_255, k_256, k_512, k_580, k_600, k_1000, k_4096, k_far, k_o, nI_add, n_mul, n_sub, n_div, n_rem, n_lt, n_le, n_eq, n_cl, n_and, n_or, n_xor, m1_lt, lt_m1, m1_eq, eq_m1, le_m1, m1_le, m2_eq, up_eq, up_ne, n_shl, n_shr, b2_some, let_e, ob_some, bI_0, bI_a, bI_t, bI_f, if_true, if_false, ite_true, ite_false, true_and, and_true, false_and, and_false, true_or, or_true, false_or, or_false, not_true_eq_false, not_false_eq_true, ite_not, ne_eq, Bool.true_eq_false, Bool.false_eq_true, reduceCtorEq, decide_true, decide_false, Bool.and_true, Bool.and_false, Bool.true_and, Bool.false_and, Bool.or_true, Bool.or_false, Bool.not_true, Bool.not_false, Nat.add_zero, Nat.zero_add, eq_self, Nat.not_lt_zero, Nat.reduceAdd, Nat.reduceMul, Nat.reduceSub, Nat.reduceDiv, Nat.reduceMod, Nat.reduceAnd, Nat.reduceXor, Nat.reduceEqDiff, Nat.reducePow, lt_T, lt_F, le_T, le_F, eq_F]
    · simp (disch := omega) only [↓q_m1, ↓q_m2, k_o, k_0, k_1, k_2, k_3, k_4, k_5, k_6, k_7, k_8, k_9, k_10, k_11, k_16, k_17, k_19, k_20, k_24, k_26, k_27, k_30, k_32, k_33, k_35, k_40, k_43, k_48, k_50, k_57, k_60, k_64, k_81, k_86, k_34, k_66, k_322, k_97, k_99, k_100, k_122, k_128, k_160, k_161, k_255, k_256, k_512, k_580, k_600, k_1000, k_4096, k_far, k_o, nI_add, n_mul, n_sub, n_div, n_rem, n_lt, n_le, n_eq, n_cl, n_and, n_or, n_xor, m1_lt, lt_m1, m1_eq, eq_m1, le_m1, m1_le, m2_eq, up_eq, up_ne, n_shl, n_shr, b2_some, let_e, ob_some, bI_0, bI_a, bI_t, bI_f, if_true, if_false, ite_true, ite_false, true_and, and_true, false_and, and_false, true_or, or_true, false_or, or_false, not_true_eq_false, not_false_eq_true, ite_not, ne_eq, Bool.true_eq_false, Bool.false_eq_true, reduceCtorEq, decide_true, decide_false, Bool.and_true, Bool.and_false, Bool.true_and, Bool.false_and, Bool.or_true, Bool.or_false, Bool.not_true, Bool.not_false, Nat.add_zero, Nat.zero_add, eq_self, Nat.not_lt_zero, Nat.reduceAdd, Nat.reduceMul, Nat.reduceSub, Nat.reduceDiv, Nat.reduceMod, Nat.reduceAnd, Nat.reduceXor, Nat.reduceEqDiff, Nat.reducePow, lt_T, lt_F, le_T, le_F, eq_F]
theorem and_pow {X : Int64} {j : Nat} (hj : j < 64) : (X &&& qm_lshl 1 (nI j) = 0) ↔ lb X j = false := by
  have b1 : ∀ i, i < 64 → lb (1 : Int64) i = decide (i = 0) := by decide +kernel
  constructor
  · intro e
    have : lb (X &&& qm_lshl 1 (nI j)) j = lb 0 j := by rw [e]
    rw [lb_and, lb_shl _ hj hj, lb_0, b1 _ (by omega)] at this
    simpa using this
  · intro e
    apply lb_ext
    intro i hi
    rw [lb_and, lb_shl _ hj hi, lb_0]
    by_cases q : i = j
    · subst q
      rw [e, Bool.false_and]
    · by_cases q2 : j ≤ i
      · rw [b1 _ (by omega), decide_eq_false (show ¬ i - j = 0 by omega), Bool.and_false, Bool.and_false]
      · rw [decide_eq_false q2, Bool.false_and, Bool.and_false]
theorem c_isOpen (C : bC b β h) {r c : Nat} (hr : r < 8) (hc : c < 8) : qX0_isOpen b (nI r) (nI c) h = some (bI (bO β r c), h) := by
  unfold qX0_isOpen qX0_bit
  simp (disch := omega) only [↓q_m1, ↓q_m2, k_o, k_0, k_1, k_2, k_3, k_4, k_5, k_6, k_7, k_8, k_9, k_10, k_11, k_16, k_17, k_19, k_20, k_24, k_26, k_27, k_30, k_32, k_33, k_35, k_40, k_43, k_48, k_50, k_57, k_60, k_64, k_81, k_86, k_34, k_66, k_322, k_97, k_99, k_100, k_122, k_128, k_160, k_161, k_255, k_256, k_512, k_580, k_600, k_1000, k_4096, k_far, k_o, nI_add, n_mul, n_sub, n_div, n_rem, n_lt, n_le, n_eq, n_cl, n_and, n_or, n_xor, m1_lt, lt_m1, m1_eq, eq_m1, le_m1, m1_le, m2_eq, up_eq, up_ne, n_shl, n_shr, b2_some, let_e, ob_some, bI_0, bI_a, bI_t, bI_f, if_true, if_false, ite_true, ite_false, true_and, and_true, false_and, and_false, true_or, or_true, false_or, or_false, not_true_eq_false, not_false_eq_true, ite_not, ne_eq, Bool.true_eq_false, Bool.false_eq_true, reduceCtorEq, decide_true, decide_false, Bool.and_true, Bool.and_false, Bool.true_and, Bool.false_and, Bool.or_true, Bool.or_false, Bool.not_true, Bool.not_false, Nat.add_zero, Nat.zero_add, eq_self, Nat.not_lt_zero, Nat.reduceAdd, Nat.reduceMul, Nat.reduceSub, Nat.reduceDiv, Nat.reduceMod, Nat.reduceAnd, Nat.reduceXor, Nat.reduceEqDiff, Nat.reducePow, l_cmp0]
  have e := and_pow (X := h.2 b 6) (j := 8 * r + c) (by omega)
  rw [C.2.2.2.2 r c hr hc] at e
  cases q : bO β r c
  · rw [if_pos (e.mpr q)]
    rfl
  · rw [if_neg (fun z => by rw [e.mp z] at q; cases q)]
    rfl
theorem bit_and1 {X : Int64} {j : Nat} (hj : j < 64) : (qm_lushr X (nI j) &&& 1 = 0) ↔ lb X j = false := by
  have b1 : ∀ i, i < 64 → lb (1 : Int64) i = decide (i = 0) := by decide +kernel
  constructor
  · intro e
    have : lb (qm_lushr X (nI j) &&& 1) 0 = lb 0 0 := by rw [e]
    rw [lb_and, lb_ushr _ hj, lb_0, b1 _ (by omega)] at this
    simpa using this
  · intro e
    apply lb_ext
    intro i hi
    rw [lb_and, lb_ushr _ hj, lb_0, b1 _ hi]
    by_cases q : i = 0
    · subst q
      rw [Nat.add_zero, e, Bool.false_and]
    · rw [decide_eq_false q, Bool.and_false]
theorem c_strengthIn (k : bOK β) (C : bC b β h) {r c : Nat} (hr : r < 8) (hc : c < 8) : qX0_strengthIn b (nI r) (nI c) h = some (nI (hg β 0 r c), h) := by
  obtain ⟨a1, a2, a3, a4, a5⟩ := C
  have e1 := a4 r (by omega)
  have e2 := a4 (8 + c) (by omega)
  have k1 := k.2.2.2.2.2.1 r (by omega)
  have k2 := k.2.2.2.2.2.1 (8 + c) (by omega)
  have kx := k.2.2.2.2.1
  have g := j_max (p := bT β r + bT β (8 + c)) (q := bR β r) (r := bR β (8 + c)) (by omega) (by omega) (by omega) h
  have e := bit_and1 (X := h.2 b 6) (j := 8 * r + c) (by omega)
  rw [a5 r c hr hc] at e
  unfold qX0_strengthIn qX0_strengthIn_25
  simp (disch := omega) only [↓q_m1, ↓q_m2, k_o, k_0, k_1, k_2, k_3, k_4, k_5, k_6, k_7, k_8, k_9, k_10, k_11, k_16, k_17, k_19, k_20, k_24, k_26, k_27, k_30, k_32, k_33, k_35, k_40, k_43, k_48, k_50, k_57, k_60, k_64, k_81, k_86, k_34, k_66, k_322, k_97, k_99, k_100, k_122, k_128, k_160, k_161, k_255, k_256, k_512, k_580, k_600, k_1000, k_4096, k_far, k_o, nI_add, n_mul, n_sub, n_div, n_rem, n_lt, n_le, n_eq, n_cl, n_and, n_or, n_xor, m1_lt, lt_m1, m1_eq, eq_m1, le_m1, m1_le, m2_eq, up_eq, up_ne, n_shl, n_shr, b2_some, let_e, ob_some, bI_0, bI_a, bI_t, bI_f, if_true, if_false, ite_true, ite_false, true_and, and_true, false_and, and_false, true_or, or_true, false_or, or_false, not_true_eq_false, not_false_eq_true, ite_not, ne_eq, Bool.true_eq_false, Bool.false_eq_true, reduceCtorEq, decide_true, decide_false, Bool.and_true, Bool.and_false, Bool.true_and, Bool.false_and, Bool.or_true, Bool.or_false, Bool.not_true, Bool.not_false, Nat.add_zero, Nat.zero_add, eq_self, Nat.not_lt_zero, Nat.reduceAdd, Nat.reduceMul, Nat.reduceSub, Nat.reduceDiv, Nat.reduceMod, Nat.reduceAnd, Nat.reduceXor, Nat.reduceEqDiff, Nat.reducePow, lt_T, lt_F, le_T, le_F, eq_F, l_cmp0]
  unfold hg
  cases q : bO β r c
  · rw [if_pos (e.mpr q)]
    simp (disch := omega) only [n_cl, e1.1, e1.2, e2.1, e2.2, nI_add, g, b2_some, a3, n_eq, n_div]
    unfold st
    by_cases qx : bx β = 0
    · rw [if_pos qx, if_neg (show ¬ bx β = 1 by omega)]
      rfl
    · rw [if_neg qx, if_pos (show bx β = 1 by omega)]
      rfl
  · rw [if_neg (fun z => by rw [e.mp z] at q; cases q)]
    rfl
theorem c_strengthOf (k : bOK β) (C : bC b β h) {c : Nat} (hc : c < bw β * bh β) : qX0_strengthOf b (nI c) h = some (nI (hg β 0 (c / bw β) (c % bw β)), h) := by
  have hn := k.n
  have hd := k.dm hc
  have hW := k.W
  have hH := k.H
  unfold qX0_strengthOf
  rw [c_rowOf k C (by omega), b2_some, c_columnOf k C (by omega), b2_some, c_strengthIn k C (by omega) (by omega), b2_some]
theorem c_sR_l2 (k : bOK β) (C : bC b β h) {r0 c0 w hh r : Nat} (hr : r < 8) (hc : c0 + w ≤ 8) (K : Nat → Int32 → Int32 → Int32 → Int32 → Int32 → Int32 → qm_H → Option (Int32 × qm_H)) : ∀ d j n fuel, j + d = w → d < fuel → n + d * 18 ≤ 100000 → qX0_strengthOfRectangle_34 K fuel b (nI w) (nI hh) (nI r0) (nI c0) (nI n) (nI r) (nI (c0 + j)) h = K b (nI w) (nI hh) (nI r0) (nI c0) (nI (n + fb_sm (fun i => hg β 0 r (c0 + (j + i))) d)) (nI (r + 1)) h := by
  intro d
  induction d with
  | zero =>
    intro j n fuel hj hf hn
    obtain ⟨g, rfl⟩ : ∃ g, fuel = g + 1 := ⟨fuel - 1, by omega⟩
    unfold qX0_strengthOfRectangle_34
    simp (disch := omega) only [↓q_m1, ↓q_m2, k_o, k_0, k_1, k_2, k_3, k_4, k_5, k_6, k_7, k_8, k_9, k_10, k_11, k_16, k_17, k_19, k_20, k_24, k_26, k_27, k_30, k_32, k_33, k_35, k_40, k_43, k_48, k_50, k_57, k_60, k_64, k_81, k_86, k_34, k_66, k_322, k_97, k_99, k_100, k_122, k_128, k_160, k_161, k_255, k_256, k_512, k_580, k_600, k_1000, k_4096, k_far, k_o, nI_add, n_mul, n_sub, n_div, n_rem, n_lt, n_le, n_eq, n_cl, n_and, n_or, n_xor, m1_lt, lt_m1, m1_eq, eq_m1, le_m1, m1_le, m2_eq, up_eq, up_ne, n_shl, n_shr, b2_some, let_e, ob_some, bI_0, bI_a, bI_t, bI_f, if_true, if_false, ite_true, ite_false, true_and, and_true, false_and, and_false, true_or, or_true, false_or, or_false, not_true_eq_false, not_false_eq_true, ite_not, ne_eq, Bool.true_eq_false, Bool.false_eq_true, reduceCtorEq, decide_true, decide_false, Bool.and_true, Bool.and_false, Bool.true_and, Bool.false_and, Bool.or_true, Bool.or_false, Bool.not_true, Bool.not_false, Nat.add_zero, Nat.zero_add, eq_self, Nat.not_lt_zero, Nat.reduceAdd, Nat.reduceMul, Nat.reduceSub, Nat.reduceDiv, Nat.reduceMod, Nat.reduceAnd, Nat.reduceXor, Nat.reduceEqDiff, Nat.reducePow, lt_T, lt_F, le_T, le_F, eq_F, sm_0]
  | succ d ih =>
    intro j n fuel hj hf hn
    obtain ⟨g, rfl⟩ : ∃ g, fuel = g + 1 := ⟨fuel - 1, by omega⟩
    have o1 := c_strengthIn k C (r := r) (c := c0 + j) hr (by omega)
    have o2 := hg_le k (f := 0) (r := r) (c := c0 + j) hr (by omega)
    unfold qX0_strengthOfRectangle_34
    simp (disch := omega) only [↓q_m1, ↓q_m2, k_o, k_0, k_1, k_2, k_3, k_4, k_5, k_6, k_7, k_8, k_9, k_10, k_11, k_16, k_17, k_19, k_20, k_24, k_26, k_27, k_30, k_32, k_33, k_35, k_40, k_43, k_48, k_50, k_57, k_60, k_64, k_81, k_86, k_34, k_66, k_322, k_97, k_99, k_100, k_122, k_128, k_160, k_161, k_255, k_256, k_512, k_580, k_600, k_1000, k_4096, k_far, k_o, nI_add, n_mul, n_sub, n_div, n_rem, n_lt, n_le, n_eq, n_cl, n_and, n_or, n_xor, m1_lt, lt_m1, m1_eq, eq_m1, le_m1, m1_le, m2_eq, up_eq, up_ne, n_shl, n_shr, b2_some, let_e, ob_some, bI_0, bI_a, bI_t, bI_f, if_true, if_false, ite_true, ite_false, true_and, and_true, false_and, and_false, true_or, or_true, false_or, or_false, not_true_eq_false, not_false_eq_true, ite_not, ne_eq, Bool.true_eq_false, Bool.false_eq_true, reduceCtorEq, decide_true, decide_false, Bool.and_true, Bool.and_false, Bool.true_and, Bool.false_and, Bool.or_true, Bool.or_false, Bool.not_true, Bool.not_false, Nat.add_zero, Nat.zero_add, eq_self, Nat.not_lt_zero, Nat.reduceAdd, Nat.reduceMul, Nat.reduceSub, Nat.reduceDiv, Nat.reduceMod, Nat.reduceAnd, Nat.reduceXor, Nat.reduceEqDiff, Nat.reducePow, lt_T, lt_F, le_T, le_F, eq_F, o1]
    rw [show c0 + j + 1 = c0 + (j + 1) by omega, ih (j + 1) (n + hg β 0 r (c0 + j)) g (by omega) (by omega) (by omega)]
    congr 2
    rw [show d + 1 = 1 + d by omega, fb_sm_split]
    have : fb_sm (fun i => hg β 0 r (c0 + (j + i))) 1 = hg β 0 r (c0 + j) := Nat.zero_add _
    rw [this, Nat.add_assoc]
    congr 2
    apply fb_sm_cong
    intro i hi
    rw [show j + 1 + i = j + (1 + i) by omega]
theorem c_sR_l1 (k : bOK β) (C : bC b β h) {r0 c0 w hh : Nat} (hr : r0 + hh ≤ 8) (hc : c0 + w ≤ 8) : ∀ d i n fuel, i + d = hh → d < fuel → n = rs (hg β 0) r0 c0 w i → qX0_strengthOfRectangle_21 fuel b (nI w) (nI hh) (nI r0) (nI c0) (nI n) (nI (r0 + i)) h = some (nI (rs (hg β 0) r0 c0 w hh), h) := by
  intro d
  induction d with
  | zero =>
    intro i n fuel hi hf hn
    obtain ⟨g, rfl⟩ : ∃ g, fuel = g + 1 := ⟨fuel - 1, by omega⟩
    unfold qX0_strengthOfRectangle_21
    simp (disch := omega) only [↓q_m1, ↓q_m2, k_o, k_0, k_1, k_2, k_3, k_4, k_5, k_6, k_7, k_8, k_9, k_10, k_11, k_16, k_17, k_19, k_20, k_24, k_26, k_27, k_30, k_32, k_33, k_35, k_40, k_43, k_48, k_50, k_57, k_60, k_64, k_81, k_86, k_34, k_66, k_322, k_97, k_99, k_100, k_122, k_128, k_160, k_161, k_255, k_256, k_512, k_580, k_600, k_1000, k_4096, k_far, k_o, nI_add, n_mul, n_sub, n_div, n_rem, n_lt, n_le, n_eq, n_cl, n_and, n_or, n_xor, m1_lt, lt_m1, m1_eq, eq_m1, le_m1, m1_le, m2_eq, up_eq, up_ne, n_shl, n_shr, b2_some, let_e, ob_some, bI_0, bI_a, bI_t, bI_f, if_true, if_false, ite_true, ite_false, true_and, and_true, false_and, and_false, true_or, or_true, false_or, or_false, not_true_eq_false, not_false_eq_true, ite_not, ne_eq, Bool.true_eq_false, Bool.false_eq_true, reduceCtorEq, decide_true, decide_false, Bool.and_true, Bool.and_false, Bool.true_and, Bool.false_and, Bool.or_true, Bool.or_false, Bool.not_true, Bool.not_false, Nat.add_zero, Nat.zero_add, eq_self, Nat.not_lt_zero, Nat.reduceAdd, Nat.reduceMul, Nat.reduceSub, Nat.reduceDiv, Nat.reduceMod, Nat.reduceAnd, Nat.reduceXor, Nat.reduceEqDiff, Nat.reducePow, lt_T, lt_F, le_T, le_F, eq_F]
    rw [hn, show i = hh by omega]
  | succ d ih =>
    intro i n fuel hi hf hn
    obtain ⟨g, rfl⟩ : ∃ g, fuel = g + 1 := ⟨fuel - 1, by omega⟩
    have hb : n ≤ 1152 := by
      rw [hn]
      have : rs (hg β 0) r0 c0 w i ≤ i * (w * 18) := fb_sm_bound (fun a ha => fb_sm_bound (fun j hj => hg_le k (by omega) (by omega)))
      have h2 : i * (w * 18) ≤ 8 * (8 * 18) := Nat.mul_le_mul (by omega) (Nat.mul_le_mul (by omega) (Nat.le_refl _))
      omega
    have o := c_sR_l2 k C (r0 := r0) (c0 := c0) (w := w) (hh := hh) (r := r0 + i) (by omega) hc (qX0_strengthOfRectangle_21 g) w 0 n qm_N (by omega) (by unfold qm_N; omega) (by omega)
    rw [Nat.add_zero] at o
    unfold qX0_strengthOfRectangle_21
    simp (disch := omega) only [↓q_m1, ↓q_m2, k_o, k_0, k_1, k_2, k_3, k_4, k_5, k_6, k_7, k_8, k_9, k_10, k_11, k_16, k_17, k_19, k_20, k_24, k_26, k_27, k_30, k_32, k_33, k_35, k_40, k_43, k_48, k_50, k_57, k_60, k_64, k_81, k_86, k_34, k_66, k_322, k_97, k_99, k_100, k_122, k_128, k_160, k_161, k_255, k_256, k_512, k_580, k_600, k_1000, k_4096, k_far, k_o, nI_add, n_mul, n_sub, n_div, n_rem, n_lt, n_le, n_eq, n_cl, n_and, n_or, n_xor, m1_lt, lt_m1, m1_eq, eq_m1, le_m1, m1_le, m2_eq, up_eq, up_ne, n_shl, n_shr, b2_some, let_e, ob_some, bI_0, bI_a, bI_t, bI_f, if_true, if_false, ite_true, ite_false, true_and, and_true, false_and, and_false, true_or, or_true, false_or, or_false, not_true_eq_false, not_false_eq_true, ite_not, ne_eq, Bool.true_eq_false, Bool.false_eq_true, reduceCtorEq, decide_true, decide_false, Bool.and_true, Bool.and_false, Bool.true_and, Bool.false_and, Bool.or_true, Bool.or_false, Bool.not_true, Bool.not_false, Nat.add_zero, Nat.zero_add, eq_self, Nat.not_lt_zero, Nat.reduceAdd, Nat.reduceMul, Nat.reduceSub, Nat.reduceDiv, Nat.reduceMod, Nat.reduceAnd, Nat.reduceXor, Nat.reduceEqDiff, Nat.reducePow, lt_T, lt_F, le_T, le_F, eq_F]
    rw [o]
    refine ih (i + 1) _ g (by omega) (by omega) ?_
    rw [rs_row, hn]
    congr 1
    show _ = 0 + fb_sm (fun j => hg β 0 (r0 + i + 0) (c0 + j)) w
    rw [Nat.zero_add]
    apply fb_sm_cong
    intro j hj
    rw [Nat.zero_add, Nat.add_zero]
theorem c_sR (k : bOK β) (C : bC b β h) {c w hh : Nat} (hc : c < bw β * bh β) (hp : plP (bw β) (bh β) w hh c = true) : qX0_strengthOfRectangle b (nI c) (nI w) (nI hh) h = some (nI (rs (hg β 0) (c / bw β) (c % bw β) w hh), h) := by
  have hp' : c % bw β + w ≤ bw β ∧ c / bw β + hh ≤ bh β := of_decide_eq_true hp
  have hn := k.n
  have hW := k.W
  have hH := k.H
  have hz := Nat.zero_le (c / bw β)
  unfold qX0_strengthOfRectangle
  rw [c_rowOf k C (by omega), b2_some, c_columnOf k C (by omega), b2_some]
  exact c_sR_l1 k C (by omega) (by omega) hh 0 0 qm_N (by omega) (by unfold qm_N; omega) rfl
theorem c_sAll (k : bOK β) (C : bC b β h) : qX0_strengthOfAll b h = some (nI (rs (hg β 0) 0 0 (bw β) (bh β)), h) := by
  have hW := k.W
  have hH := k.H
  unfold qX0_strengthOfAll
  rw [C.1, C.2.1, k_0, c_sR k C (by have := k.n; omega) (decide_eq_true (by rw [Nat.zero_mod, Nat.zero_div]; omega)), b2_some, Nat.zero_mod, Nat.zero_div]
/-! the first gap -/
theorem gapP_out {W H w hh c : Nat} {O : Nat → Nat → Bool} (q : ¬ (c % W + w ≤ W ∧ c / W + hh ≤ H)) : gapP W H O w hh c = false := by
  unfold gapP plP
  rw [decide_eq_false q, Bool.false_and]
theorem wc_dm {W r c : Nat} (hc : c < W) : (W * r + c) / W = r ∧ (W * r + c) % W = c := by
  have hW : 0 < W := by omega
  rw [Nat.mul_add_div hW, Nat.mul_add_mod, Nat.div_eq_of_lt hc, Nat.mod_eq_of_lt hc, Nat.add_zero]
  exact ⟨rfl, rfl⟩
theorem row_skip {W r c k : Nat} (hc : c ≤ W) (h1 : W * r + c ≤ k) (h2 : k < W * r + c + (W - c)) : k / W = r ∧ k % W = k - W * r := by
  have := wc_dm (W := W) (r := r) (c := k - W * r) (by omega)
  rw [show W * r + (k - W * r) = k by omega] at this
  exact this
theorem c_gapIn_l {X B : Int64} {O : Nat → Nat → Bool} (k : bOK β) (C : bC b β h) {w hh : Nat} (hw : 1 ≤ w) (hw2 : w ≤ 8) (hh1 : 1 ≤ hh) (hh2 : hh ≤ 8) (hX : ∀ r c, r < 8 → c < 8 → lb X (8 * r + c) = O r c) (hB : ∀ q, q < 64 → lb B q = blB 0 0 w hh q) : ∀ e r fuel, r + e = bh β → e < fuel → qX0_gapIn_13 fuel b X (nI w) (nI hh) B (nI r) h = some (oI (fs (gapP (bw β) (bh β) O w hh) (bw β * e) (bw β * r)), h) := by
  have hW := k.W
  have hH := k.H
  intro e
  induction e with
  | zero =>
    intro r fuel hr hf
    obtain ⟨g, rfl⟩ : ∃ g, fuel = g + 1 := ⟨fuel - 1, by omega⟩
    unfold qX0_gapIn_13
    simp (disch := omega) only [↓q_m1, ↓q_m2, k_o, k_0, k_1, k_2, k_3, k_4, k_5, k_6, k_7, k_8, k_9, k_10, k_11, k_16, k_17, k_19, k_20, k_24, k_26, k_27, k_30, k_32, k_33, k_35, k_40, k_43, k_48, k_50, k_57, k_60, k_64, k_81, k_86, k_34, k_66, k_322, k_97, k_99, k_100, k_122, k_128, k_160, k_161, k_255, k_256, k_512, k_580, k_600, k_1000, k_4096, k_far, k_o, nI_add, n_mul, n_sub, n_div, n_rem, n_lt, n_le, n_eq, n_cl, n_and, n_or, n_xor, m1_lt, lt_m1, m1_eq, eq_m1, le_m1, m1_le, m2_eq, up_eq, up_ne, n_shl, n_shr, b2_some, let_e, ob_some, bI_0, bI_a, bI_t, bI_f, if_true, if_false, ite_true, ite_false, true_and, and_true, false_and, and_false, true_or, or_true, false_or, or_false, not_true_eq_false, not_false_eq_true, ite_not, ne_eq, Bool.true_eq_false, Bool.false_eq_true, reduceCtorEq, decide_true, decide_false, Bool.and_true, Bool.and_false, Bool.true_and, Bool.false_and, Bool.or_true, Bool.or_false, Bool.not_true, Bool.not_false, Nat.add_zero, Nat.zero_add, eq_self, Nat.not_lt_zero, Nat.reduceAdd, Nat.reduceMul, Nat.reduceSub, Nat.reduceDiv, Nat.reduceMod, Nat.reduceAnd, Nat.reduceXor, Nat.reduceEqDiff, Nat.reducePow, lt_T, lt_F, le_T, le_F, eq_F, C.2.1]
    rfl
  | succ e ih =>
    intro r fuel hr hf
    obtain ⟨g, rfl⟩ : ∃ g, fuel = g + 1 := ⟨fuel - 1, by omega⟩
    unfold qX0_gapIn_13
    by_cases q : bh β < r + hh
    · simp (disch := omega) only [↓q_m1, ↓q_m2, k_o, k_0, k_1, k_2, k_3, k_4, k_5, k_6, k_7, k_8, k_9, k_10, k_11, k_16, k_17, k_19, k_20, k_24, k_26, k_27, k_30, k_32, k_33, k_35, k_40, k_43, k_48, k_50, k_57, k_60, k_64, k_81, k_86, k_34, k_66, k_322, k_97, k_99, k_100, k_122, k_128, k_160, k_161, k_255, k_256, k_512, k_580, k_600, k_1000, k_4096, k_far, k_o, nI_add, n_mul, n_sub, n_div, n_rem, n_lt, n_le, n_eq, n_cl, n_and, n_or, n_xor, m1_lt, lt_m1, m1_eq, eq_m1, le_m1, m1_le, m2_eq, up_eq, up_ne, n_shl, n_shr, b2_some, let_e, ob_some, bI_0, bI_a, bI_t, bI_f, if_true, if_false, ite_true, ite_false, true_and, and_true, false_and, and_false, true_or, or_true, false_or, or_false, not_true_eq_false, not_false_eq_true, ite_not, ne_eq, Bool.true_eq_false, Bool.false_eq_true, reduceCtorEq, decide_true, decide_false, Bool.and_true, Bool.and_false, Bool.true_and, Bool.false_and, Bool.or_true, Bool.or_false, Bool.not_true, Bool.not_false, Nat.add_zero, Nat.zero_add, eq_self, Nat.not_lt_zero, Nat.reduceAdd, Nat.reduceMul, Nat.reduceSub, Nat.reduceDiv, Nat.reduceMod, Nat.reduceAnd, Nat.reduceXor, Nat.reduceEqDiff, Nat.reducePow, lt_T, lt_F, le_T, le_F, eq_F, C.2.1]
      rw [fs_none]
      · rfl
      · intro j h1 h2
        apply gapP_out
        have : r ≤ j / bw β := (Nat.le_div_iff_mul_le (by omega)).mpr (by rw [Nat.mul_comm]; exact h1)
        omega
    · simp (disch := omega) only [↓q_m1, ↓q_m2, k_o, k_0, k_1, k_2, k_3, k_4, k_5, k_6, k_7, k_8, k_9, k_10, k_11, k_16, k_17, k_19, k_20, k_24, k_26, k_27, k_30, k_32, k_33, k_35, k_40, k_43, k_48, k_50, k_57, k_60, k_64, k_81, k_86, k_34, k_66, k_322, k_97, k_99, k_100, k_122, k_128, k_160, k_161, k_255, k_256, k_512, k_580, k_600, k_1000, k_4096, k_far, k_o, nI_add, n_mul, n_sub, n_div, n_rem, n_lt, n_le, n_eq, n_cl, n_and, n_or, n_xor, m1_lt, lt_m1, m1_eq, eq_m1, le_m1, m1_le, m2_eq, up_eq, up_ne, n_shl, n_shr, b2_some, let_e, ob_some, bI_0, bI_a, bI_t, bI_f, if_true, if_false, ite_true, ite_false, true_and, and_true, false_and, and_false, true_or, or_true, false_or, or_false, not_true_eq_false, not_false_eq_true, ite_not, ne_eq, Bool.true_eq_false, Bool.false_eq_true, reduceCtorEq, decide_true, decide_false, Bool.and_true, Bool.and_false, Bool.true_and, Bool.false_and, Bool.or_true, Bool.or_false, Bool.not_true, Bool.not_false, Nat.add_zero, Nat.zero_add, eq_self, Nat.not_lt_zero, Nat.reduceAdd, Nat.reduceMul, Nat.reduceSub, Nat.reduceDiv, Nat.reduceMod, Nat.reduceAnd, Nat.reduceXor, Nat.reduceEqDiff, Nat.reducePow, lt_T, lt_F, le_T, le_F, eq_F, C.2.1]
      have inner : ∀ d c f2, c + d = bw β → d < f2 → qX0_gapIn_28 (qX0_gapIn_13 g) f2 b X (nI w) (nI hh) B (nI r) (nI c) h = some (oI (fs (gapP (bw β) (bh β) O w hh) (d + bw β * e) (bw β * r + c)), h) := by
        intro d
        induction d with
        | zero =>
          intro c f2 hc hf2
          obtain ⟨g2, rfl⟩ : ∃ g, f2 = g + 1 := ⟨f2 - 1, by omega⟩
          unfold qX0_gapIn_28
          simp (disch := omega) only [↓q_m1, ↓q_m2, k_o, k_0, k_1, k_2, k_3, k_4, k_5, k_6, k_7, k_8, k_9, k_10, k_11, k_16, k_17, k_19, k_20, k_24, k_26, k_27, k_30, k_32, k_33, k_35, k_40, k_43, k_48, k_50, k_57, k_60, k_64, k_81, k_86, k_34, k_66, k_322, k_97, k_99, k_100, k_122, k_128, k_160, k_161, k_255, k_256, k_512, k_580, k_600, k_1000, k_4096, k_far, k_o, nI_add, n_mul, n_sub, n_div, n_rem, n_lt, n_le, n_eq, n_cl, n_and, n_or, n_xor, m1_lt, lt_m1, m1_eq, eq_m1, le_m1, m1_le, m2_eq, up_eq, up_ne, n_shl, n_shr, b2_some, let_e, ob_some, bI_0, bI_a, bI_t, bI_f, if_true, if_false, ite_true, ite_false, true_and, and_true, false_and, and_false, true_or, or_true, false_or, or_false, not_true_eq_false, not_false_eq_true, ite_not, ne_eq, Bool.true_eq_false, Bool.false_eq_true, reduceCtorEq, decide_true, decide_false, Bool.and_true, Bool.and_false, Bool.true_and, Bool.false_and, Bool.or_true, Bool.or_false, Bool.not_true, Bool.not_false, Nat.add_zero, Nat.zero_add, eq_self, Nat.not_lt_zero, Nat.reduceAdd, Nat.reduceMul, Nat.reduceSub, Nat.reduceDiv, Nat.reduceMod, Nat.reduceAnd, Nat.reduceXor, Nat.reduceEqDiff, Nat.reducePow, lt_T, lt_F, le_T, le_F, eq_F, C.1]
          rw [ih (r + 1) g (by omega) (by omega), show bw β * r + c = bw β * (r + 1) by rw [Nat.mul_succ]; omega]
        | succ d ih2 =>
          intro c f2 hc hf2
          obtain ⟨g2, rfl⟩ : ∃ g, f2 = g + 1 := ⟨f2 - 1, by omega⟩
          have hrb : bw β * r ≤ 8 * 8 := Nat.mul_le_mul (by omega) (by omega)
          unfold qX0_gapIn_28
          by_cases q2 : bw β < c + w
          · simp (disch := omega) only [↓q_m1, ↓q_m2, k_o, k_0, k_1, k_2, k_3, k_4, k_5, k_6, k_7, k_8, k_9, k_10, k_11, k_16, k_17, k_19, k_20, k_24, k_26, k_27, k_30, k_32, k_33, k_35, k_40, k_43, k_48, k_50, k_57, k_60, k_64, k_81, k_86, k_34, k_66, k_322, k_97, k_99, k_100, k_122, k_128, k_160, k_161, k_255, k_256, k_512, k_580, k_600, k_1000, k_4096, k_far, k_o, nI_add, n_mul, n_sub, n_div, n_rem, n_lt, n_le, n_eq, n_cl, n_and, n_or, n_xor, m1_lt, lt_m1, m1_eq, eq_m1, le_m1, m1_le, m2_eq, up_eq, up_ne, n_shl, n_shr, b2_some, let_e, ob_some, bI_0, bI_a, bI_t, bI_f, if_true, if_false, ite_true, ite_false, true_and, and_true, false_and, and_false, true_or, or_true, false_or, or_false, not_true_eq_false, not_false_eq_true, ite_not, ne_eq, Bool.true_eq_false, Bool.false_eq_true, reduceCtorEq, decide_true, decide_false, Bool.and_true, Bool.and_false, Bool.true_and, Bool.false_and, Bool.or_true, Bool.or_false, Bool.not_true, Bool.not_false, Nat.add_zero, Nat.zero_add, eq_self, Nat.not_lt_zero, Nat.reduceAdd, Nat.reduceMul, Nat.reduceSub, Nat.reduceDiv, Nat.reduceMod, Nat.reduceAnd, Nat.reduceXor, Nat.reduceEqDiff, Nat.reducePow, lt_T, lt_F, le_T, le_F, eq_F, C.1]
            rw [ih (r + 1) g (by omega) (by omega), fs_skip (e := d + 1), show bw β * r + c + (d + 1) = bw β * (r + 1) by rw [Nat.mul_succ]; omega]
            intro j h1 h2
            apply gapP_out
            obtain ⟨z1, z2⟩ := row_skip (W := bw β) (r := r) (c := c) (k := j) (by omega) h1 (by omega)
            omega
          · simp (disch := omega) only [↓q_m1, ↓q_m2, k_o, k_0, k_1, k_2, k_3, k_4, k_5, k_6, k_7, k_8, k_9, k_10, k_11, k_16, k_17, k_19, k_20, k_24, k_26, k_27, k_30, k_32, k_33, k_35, k_40, k_43, k_48, k_50, k_57, k_60, k_64, k_81, k_86, k_34, k_66, k_322, k_97, k_99, k_100, k_122, k_128, k_160, k_161, k_255, k_256, k_512, k_580, k_600, k_1000, k_4096, k_far, k_o, nI_add, n_mul, n_sub, n_div, n_rem, n_lt, n_le, n_eq, n_cl, n_and, n_or, n_xor, m1_lt, lt_m1, m1_eq, eq_m1, le_m1, m1_le, m2_eq, up_eq, up_ne, n_shl, n_shr, b2_some, let_e, ob_some, bI_0, bI_a, bI_t, bI_f, if_true, if_false, ite_true, ite_false, true_and, and_true, false_and, and_false, true_or, or_true, false_or, or_false, not_true_eq_false, not_false_eq_true, ite_not, ne_eq, Bool.true_eq_false, Bool.false_eq_true, reduceCtorEq, decide_true, decide_false, Bool.and_true, Bool.and_false, Bool.true_and, Bool.false_and, Bool.or_true, Bool.or_false, Bool.not_true, Bool.not_false, Nat.add_zero, Nat.zero_add, eq_self, Nat.not_lt_zero, Nat.reduceAdd, Nat.reduceMul, Nat.reduceSub, Nat.reduceDiv, Nat.reduceMod, Nat.reduceAnd, Nat.reduceXor, Nat.reduceEqDiff, Nat.reducePow, lt_T, lt_F, le_T, le_F, eq_F, C.1, l_cmp0]
            obtain ⟨z1, z2⟩ := wc_dm (W := bw β) (r := r) (c := c) (by omega)
            have hS : ∀ q, q < 64 → lb (qm_lshl B (nI (8 * r + c))) q = blB r c w hh q := by
              intro p hp
              rw [lb_shl _ (by omega) hp]
              by_cases q3 : 8 * r + c ≤ p
              · rw [hB _ (by omega), decide_eq_true q3, Bool.true_and]
                exact decide_eq_decide.mpr ⟨fun z => by omega, fun z => by omega⟩
              · rw [decide_eq_false q3, Bool.false_and]
                exact (decide_eq_false (by omega)).symm
            have hin := blk_in (X := X) (O := O) (r := r) (c := c) (w := w) (hh := hh) (by omega) (by omega) hX hS
            rw [show d + 1 + bw β * e = (d + bw β * e) + 1 by omega]
            show _ = some (oI (if gapP (bw β) (bh β) O w hh (bw β * r + c) = true then some (bw β * r + c) else fs (gapP (bw β) (bh β) O w hh) (d + bw β * e) (bw β * r + c + 1)), h)
            have hg : gapP (bw β) (bh β) O w hh (bw β * r + c) = decide (rs (shO O) r c w hh = 0) := by
              unfold gapP plP
              rw [z1, z2, decide_eq_true (show c + w ≤ bw β ∧ r + hh ≤ bh β by omega), Bool.true_and]
            by_cases q4 : rs (shO O) r c w hh = 0
            · rw [if_pos (hin.mpr q4), hg, if_pos (decide_eq_true q4)]
              rfl
            · rw [if_neg (fun z => q4 (hin.mp z)), hg, if_neg (by simp [q4])]
              exact ih2 (c + 1) g2 (by omega) (by omega)
      rw [inner (bw β) 0 qm_N (by omega) (by unfold qm_N; omega), Nat.add_zero, Nat.mul_succ, Nat.add_comm]
theorem c_gapIn {X : Int64} {O : Nat → Nat → Bool} (k : bOK β) (C : bC b β h) {w hh : Nat} (hw : 1 ≤ w) (hw2 : w ≤ 8) (hh1 : 1 ≤ hh) (hh2 : hh ≤ 8) (hX : ∀ r c, r < 8 → c < 8 → lb X (8 * r + c) = O r c) : qX0_gapIn b X (nI w) (nI hh) h = some (oI (gap (bw β) (bh β) O w hh), h) := by
  have hH := k.H
  obtain ⟨B, e1, e2⟩ := c_block (r := 0) (c := 0) (w := w) (hh := hh) (by omega) (by omega) (by omega) (by omega) h
  unfold qX0_gapIn
  rw [k_0, e1, b2_some, c_gapIn_l k C hw hw2 hh1 hh2 hX e2 (bh β) 0 qm_N (by omega) (by unfold qm_N; omega)]
  rfl
theorem c_gapFor (k : bOK β) (C : bC b β h) {w hh : Nat} (hw : 1 ≤ w) (hw2 : w ≤ 8) (hh1 : 1 ≤ hh) (hh2 : hh ≤ 8) : qX0_gapFor b (nI w) (nI hh) h = some (oI (gap (bw β) (bh β) (bO β) w hh), h) := by
  unfold qX0_gapFor
  rw [c_gapIn k C hw hw2 hh1 hh2 C.2.2.2.2, b2_some]
end CB
