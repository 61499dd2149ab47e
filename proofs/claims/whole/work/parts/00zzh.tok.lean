/-! text: the kind of a byte. -/
/-- 1 a letter, 2 a digit, 3 a stop, 4 a space, 5 any other -/
def kdB (c : Nat) : Nat := if 97 ≤ c ∧ c ≤ 122 then 1 else if 48 ≤ c ∧ c ≤ 57 then 2 else if c = 59 then 3 else if c = 10 ∨ c = 32 then 4 else 5
theorem kdB_o {c : Nat} (h1 : c < 48 ∨ 57 < c) (h2 : c < 97 ∨ 122 < c) : kdB c = if c = 59 then 3 else if c = 10 ∨ c = 32 then 4 else 5 := by
  unfold kdB
  rw [if_neg (show ¬ (97 ≤ c ∧ c ≤ 122) by omega), if_neg (show ¬ (48 ≤ c ∧ c ≤ 57) by omega)]
theorem c_kd49 {c : Nat} (hc : c < 256) (h : qm_H) (h1 : c < 48 ∨ 57 < c) (h2 : c < 97 ∨ 122 < c) : qX8_kindAt_49 (nI c) h = some (nI (kdB c), h) := by
  rw [kdB_o h1 h2]
  unfold qX8_kindAt_49
  rw [show (59 : Int32) = nI 59 from rfl, show (10 : Int32) = nI 10 from rfl, show (32 : Int32) = nI 32 from rfl]
  by_cases q1 : c = 59
  · subst q1
    rfl
  · by_cases q2 : c = 10
    · subst q2
      rfl
    · by_cases q3 : c = 32
      · subst q3
        rfl
      · rw [if_neg q1, if_neg (show ¬ (c = 10 ∨ c = 32) by omega)]
        simp (disch := omega) only [↓reduceIte, ↓q_m1, ↓q_m2, k_o, k_0, k_1, k_2, k_3, k_4, k_5, k_6, k_7, k_8, k_9, k_10, k_11, k_16, k_17, k_19, k_20, k_24, k_26, k_27, k_30, k_32, k_33, k_35, k_40, k_43, k_48, k_50, k_57, k_60, k_64, k_81, k_86, k_34, k_66, k_322, k_97, k_99, k_100, k_122, k_128, k_160, k_161, k_255, k_256, k_512, k_580, k_600, k_1000, k_4096, k_far, k_o, nI_add, n_mul, n_sub, n_div, n_rem, n_lt, n_le, n_eq, n_cl, n_and, n_or, n_xor, m1_lt, lt_m1, m1_eq, eq_m1, le_m1, m1_le, m2_eq, up_eq, up_ne, n_shl, n_shr, b2_some, let_e, ob_some, bI_0, bI_a, bI_t, bI_f, if_true, if_false, ite_true, ite_false, true_and, and_true, false_and, and_false, true_or, or_true, false_or, or_false, not_true_eq_false, not_false_eq_true, ite_not, ne_eq, Bool.true_eq_false, Bool.false_eq_true, reduceCtorEq, decide_true, decide_false, Bool.and_true, Bool.and_false, Bool.true_and, Bool.false_and, Bool.or_true, Bool.or_false, Bool.not_true, Bool.not_false, Nat.add_zero, Nat.zero_add, eq_self, Nat.not_lt_zero, Nat.reduceAdd, Nat.reduceMul, Nat.reduceSub, Nat.reduceDiv, Nat.reduceMod, Nat.reduceAnd, Nat.reduceXor, Nat.reduceEqDiff, Nat.reducePow, lt_T, lt_F, le_T, le_F, eq_F, eq_false q1, eq_false q2, eq_false q3]
