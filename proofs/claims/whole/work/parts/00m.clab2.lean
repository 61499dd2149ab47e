/-! THE CLASS'S BASKET: the softest place, the likeliest one. -/
theorem n_corner {a b c d R : Nat} (h : a + d = R + b + c) : nI a - nI b - nI c + nI d = nI R := by
  have e : nI a + nI d = nI R + nI b + nI c := by rw [nI_add, nI_add, nI_add, h]
  grind
section CB2
variable {β : qB} {h : qm_H} {b : Nat}
theorem c_sumTo {r c : Nat} (hi : 9 * r + c < 81) : qX0_sumTo b (nI r) (nI c) h = some (h.1 (b + 3) (9 * r + c), h) := by
  unfold qX0_sumTo
  simp (disch := omega) only [↓q_m1, ↓q_m2, k_o, k_0, k_1, k_2, k_3, k_4, k_5, k_6, k_7, k_8, k_9, k_10, k_11, k_16, k_17, k_19, k_20, k_24, k_26, k_27, k_30, k_32, k_33, k_35, k_40, k_43, k_48, k_50, k_57, k_60, k_64, k_81, k_86, k_34, k_66, k_322, k_97, k_99, k_100, k_122, k_128, k_160, k_161, k_255, k_256, k_512, k_580, k_600, k_1000, k_4096, k_far, k_o, nI_add, n_mul, n_sub, n_div, n_rem, n_lt, n_le, n_eq, n_cl, n_and, n_or, n_xor, m1_lt, lt_m1, m1_eq, eq_m1, le_m1, m1_le, m2_eq, up_eq, up_ne, n_shl, n_shr, b2_some, let_e, ob_some, bI_0, bI_a, bI_t, bI_f, if_true, if_false, ite_true, ite_false, true_and, and_true, false_and, and_false, true_or, or_true, false_or, or_false, not_true_eq_false, not_false_eq_true, ite_not, ne_eq, Bool.true_eq_false, Bool.false_eq_true, reduceCtorEq, decide_true, decide_false, Bool.and_true, Bool.and_false, Bool.true_and, Bool.false_and, Bool.or_true, Bool.or_false, Bool.not_true, Bool.not_false, Nat.add_zero, Nat.zero_add, eq_self, Nat.not_lt_zero, Nat.reduceAdd, Nat.reduceMul, Nat.reduceSub, Nat.reduceDiv, Nat.reduceMod, Nat.reduceAnd, Nat.reduceXor, Nat.reduceEqDiff, Nat.reducePow, lt_T, lt_F, le_T, le_F, eq_F]
theorem bC.fr {h' : qm_H} (C : bC b β h) (F : qFr (fun a _ => a = b + 3) h h') : bC b β h' := C.mv (fun a k h1 h2 => (F a k (by omega)).1) (F b 6 (by omega)).2
/-- sums up to row r, and in the row behind it up to column c -/
def sumI (β : qB) (b r c : Nat) (h h' : qm_H) : Prop := (∀ i j, i ≤ r → j ≤ bw β → h'.1 (b + 3) (9 * i + j) = nI (rs (hg β 0) 0 0 j i)) ∧ (∀ j, j ≤ c → h'.1 (b + 3) (9 * (r + 1) + j) = nI (rs (hg β 0) 0 0 j (r + 1))) ∧ qFr (fun a _ => a = b + 3) h h' ∧ qZb (b + 3) h'
theorem rs_w0 {g : Nat → Nat → Nat} {r c hh : Nat} : rs g r c 0 hh = 0 := rs_zero.mpr (fun i j _ hj => absurd hj (Nat.not_lt_zero j))
theorem rs_h0 {g : Nat → Nat → Nat} {r c w : Nat} : rs g r c w 0 = 0 := rfl
theorem rs_add {g : Nat → Nat → Nat} {w r : Nat} : rs g 0 0 w (r + 1) = rs g 0 0 w r + fb_sm (fun j => g r j) w := by
  unfold rs
  rw [fb_sm_succ]
  simp only [Nat.zero_add]
theorem c_sumUp_i (k : bOK β) {r : Nat} (hr : r < bh β) (K : Nat → Int32 → qm_H → Option qm_H) (C : bC b β h) : ∀ d c h1 fuel, c + d = bw β → d < fuel → sumI β b r c h h1 → ∃ h2, qX0_sumUp_20 K fuel b (nI r) (nI (fb_sm (fun j => hg β 0 r j) c)) (nI c) h1 = K b (nI (r + 1)) h2 ∧ sumI β b r (bw β) h h2 := by
  have hW := k.W
  have hH := k.H
  intro d
  induction d with
  | zero =>
    intro c h1 fuel hc hf I
    obtain ⟨g, rfl⟩ : ∃ g, fuel = g + 1 := ⟨fuel - 1, by omega⟩
    have C1 := C.fr I.2.2.1
    refine ⟨h1, ?_, ?_⟩
    · unfold qX0_sumUp_20
      simp (disch := omega) only [↓q_m1, ↓q_m2, k_o, k_0, k_1, k_2, k_3, k_4, k_5, k_6, k_7, k_8, k_9, k_10, k_11, k_16, k_17, k_19, k_20, k_24, k_26, k_27, k_30, k_32, k_33, k_35, k_40, k_43, k_48, k_50, k_57, k_60, k_64, k_81, k_86, k_34, k_66, k_322, k_97, k_99, k_100, k_122, k_128, k_160, k_161, k_255, k_256, k_512, k_580, k_600, k_1000, k_4096, k_far, k_o, nI_add, n_mul, n_sub, n_div, n_rem, n_lt, n_le, n_eq, n_cl, n_and, n_or, n_xor, m1_lt, lt_m1, m1_eq, eq_m1, le_m1, m1_le, m2_eq, up_eq, up_ne, n_shl, n_shr, b2_some, let_e, ob_some, bI_0, bI_a, bI_t, bI_f, if_true, if_false, ite_true, ite_false, true_and, and_true, false_and, and_false, true_or, or_true, false_or, or_false, not_true_eq_false, not_false_eq_true, ite_not, ne_eq, Bool.true_eq_false, Bool.false_eq_true, reduceCtorEq, decide_true, decide_false, Bool.and_true, Bool.and_false, Bool.true_and, Bool.false_and, Bool.or_true, Bool.or_false, Bool.not_true, Bool.not_false, Nat.add_zero, Nat.zero_add, eq_self, Nat.not_lt_zero, Nat.reduceAdd, Nat.reduceMul, Nat.reduceSub, Nat.reduceDiv, Nat.reduceMod, Nat.reduceAnd, Nat.reduceXor, Nat.reduceEqDiff, Nat.reducePow, lt_T, lt_F, le_T, le_F, eq_F, C1.1]
    · have : c = bw β := by omega
      rw [← this]
      exact I
  | succ d ih =>
    intro c h1 fuel hc hf I
    obtain ⟨g, rfl⟩ : ∃ g, fuel = g + 1 := ⟨fuel - 1, by omega⟩
    have C1 := C.fr I.2.2.1
    have o1 := c_strengthIn k C1 (r := r) (c := c) (by omega) (by omega)
    have o2 := c_sumTo (b := b) (h := h1) (r := r) (c := c + 1) (by omega)
    rw [I.1 r (c + 1) (Nat.le_refl _) (by omega)] at o2
    have hb1 : rs (hg β 0) 0 0 (c + 1) r ≤ 1152 := by
      have : rs (hg β 0) 0 0 (c + 1) r ≤ r * ((c + 1) * 18) := fb_sm_bound (fun i hi => fb_sm_bound (fun j hj => hg_le k (by omega) (by omega)))
      have h2 : r * ((c + 1) * 18) ≤ 8 * (8 * 18) := Nat.mul_le_mul (by omega) (Nat.mul_le_mul (by omega) (Nat.le_refl _))
      omega
    obtain ⟨h2, e1, e2⟩ := ih (c + 1) (qm_seti h1 (b + 3) (9 * (r + 1) + c + 1) (nI (rs (hg β 0) 0 0 (c + 1) (r + 1)))) g (by omega) (by omega) (by
      obtain ⟨i1, i2, i3, i4⟩ := I
      refine ⟨fun i j hi hj => ?_, fun j hj => ?_, i3.trans (qFr.seti rfl), fun q hq => ⟨?_, ?_⟩⟩
      · rw [sI_ne (by omega)]
        exact i1 i j hi hj
      · by_cases q : j = c + 1
        · subst q
          rw [show 9 * (r + 1) + (c + 1) = 9 * (r + 1) + c + 1 by omega, sI_eq]
        · rw [sI_ne (by omega)]
          exact i2 j (by omega)
      · rw [sI_ne (by omega)]
        exact (i4 q hq).1
      · rw [sI_ne (by omega)]
        exact (i4 q hq).2)
    refine ⟨h2, ?_, e2⟩
    rw [fb_sm_succ] at e1
    unfold qX0_sumUp_20
    simp (disch := omega) only [↓q_m1, ↓q_m2, k_o, k_0, k_1, k_2, k_3, k_4, k_5, k_6, k_7, k_8, k_9, k_10, k_11, k_16, k_17, k_19, k_20, k_24, k_26, k_27, k_30, k_32, k_33, k_35, k_40, k_43, k_48, k_50, k_57, k_60, k_64, k_81, k_86, k_34, k_66, k_322, k_97, k_99, k_100, k_122, k_128, k_160, k_161, k_255, k_256, k_512, k_580, k_600, k_1000, k_4096, k_far, k_o, nI_add, n_mul, n_sub, n_div, n_rem, n_lt, n_le, n_eq, n_cl, n_and, n_or, n_xor, m1_lt, lt_m1, m1_eq, eq_m1, le_m1, m1_le, m2_eq, up_eq, up_ne, n_shl, n_shr, b2_some, let_e, ob_some, bI_0, bI_a, bI_t, bI_f, if_true, if_false, ite_true, ite_false, true_and, and_true, false_and, and_false, true_or, or_true, false_or, or_false, not_true_eq_false, not_false_eq_true, ite_not, ne_eq, Bool.true_eq_false, Bool.false_eq_true, reduceCtorEq, decide_true, decide_false, Bool.and_true, Bool.and_false, Bool.true_and, Bool.false_and, Bool.or_true, Bool.or_false, Bool.not_true, Bool.not_false, Nat.add_zero, Nat.zero_add, eq_self, Nat.not_lt_zero, Nat.reduceAdd, Nat.reduceMul, Nat.reduceSub, Nat.reduceDiv, Nat.reduceMod, Nat.reduceAnd, Nat.reduceXor, Nat.reduceEqDiff, Nat.reducePow, lt_T, lt_F, le_T, le_F, eq_F, C1.1, o1, o2]
    rw [← e1]
    congr 4
    rw [rs_add, fb_sm_succ]
theorem c_sumUp_o (k : bOK β) (C : bC b β h) : ∀ d r h1 fuel, r + d = bh β → d < fuel → sumI β b r 0 h h1 → ∃ h2, qX0_sumUp_2 fuel b (nI r) h1 = some h2 ∧ sumI β b (bh β) 0 h h2 := by
  have hW := k.W
  have hH := k.H
  intro d
  induction d with
  | zero =>
    intro r h1 fuel hr hf I
    obtain ⟨g, rfl⟩ : ∃ g, fuel = g + 1 := ⟨fuel - 1, by omega⟩
    have C1 := C.fr I.2.2.1
    refine ⟨h1, ?_, ?_⟩
    · unfold qX0_sumUp_2
      simp (disch := omega) only [↓q_m1, ↓q_m2, k_o, k_0, k_1, k_2, k_3, k_4, k_5, k_6, k_7, k_8, k_9, k_10, k_11, k_16, k_17, k_19, k_20, k_24, k_26, k_27, k_30, k_32, k_33, k_35, k_40, k_43, k_48, k_50, k_57, k_60, k_64, k_81, k_86, k_34, k_66, k_322, k_97, k_99, k_100, k_122, k_128, k_160, k_161, k_255, k_256, k_512, k_580, k_600, k_1000, k_4096, k_far, k_o, nI_add, n_mul, n_sub, n_div, n_rem, n_lt, n_le, n_eq, n_cl, n_and, n_or, n_xor, m1_lt, lt_m1, m1_eq, eq_m1, le_m1, m1_le, m2_eq, up_eq, up_ne, n_shl, n_shr, b2_some, let_e, ob_some, bI_0, bI_a, bI_t, bI_f, if_true, if_false, ite_true, ite_false, true_and, and_true, false_and, and_false, true_or, or_true, false_or, or_false, not_true_eq_false, not_false_eq_true, ite_not, ne_eq, Bool.true_eq_false, Bool.false_eq_true, reduceCtorEq, decide_true, decide_false, Bool.and_true, Bool.and_false, Bool.true_and, Bool.false_and, Bool.or_true, Bool.or_false, Bool.not_true, Bool.not_false, Nat.add_zero, Nat.zero_add, eq_self, Nat.not_lt_zero, Nat.reduceAdd, Nat.reduceMul, Nat.reduceSub, Nat.reduceDiv, Nat.reduceMod, Nat.reduceAnd, Nat.reduceXor, Nat.reduceEqDiff, Nat.reducePow, lt_T, lt_F, le_T, le_F, eq_F, C1.2.1]
    · have : r = bh β := by omega
      rw [← this]
      exact I
  | succ d ih =>
    intro r h1 fuel hr hf I
    obtain ⟨g, rfl⟩ : ∃ g, fuel = g + 1 := ⟨fuel - 1, by omega⟩
    have C1 := C.fr I.2.2.1
    obtain ⟨h2, e1, i1, i2, i3, i4⟩ := c_sumUp_i k (by omega) (qX0_sumUp_2 g) C (bw β) 0 h1 qm_N (by omega) (by unfold qm_N; omega) I
    rw [sm_0] at e1
    obtain ⟨h3, e3, I3⟩ := ih (r + 1) h2 g (by omega) (by omega) ⟨fun i j hi hj => by
      by_cases q : i = r + 1
      · subst q
        exact i2 j hj
      · exact i1 i j (by omega) hj, fun j hj => by
      have : j = 0 := by omega
      subst this
      rw [rs_w0, Nat.add_zero]
      by_cases q : r + 1 + 1 ≤ 8
      · exact (i4 (r + 1 + 1) q).2
      · have q9 : r + 1 + 1 = 9 := by omega
        rw [q9]
        sorry, i3, i4⟩
    refine ⟨h3, ?_, I3⟩
    unfold qX0_sumUp_2
    simp (disch := omega) only [↓q_m1, ↓q_m2, k_o, k_0, k_1, k_2, k_3, k_4, k_5, k_6, k_7, k_8, k_9, k_10, k_11, k_16, k_17, k_19, k_20, k_24, k_26, k_27, k_30, k_32, k_33, k_35, k_40, k_43, k_48, k_50, k_57, k_60, k_64, k_81, k_86, k_34, k_66, k_322, k_97, k_99, k_100, k_122, k_128, k_160, k_161, k_255, k_256, k_512, k_580, k_600, k_1000, k_4096, k_far, k_o, nI_add, n_mul, n_sub, n_div, n_rem, n_lt, n_le, n_eq, n_cl, n_and, n_or, n_xor, m1_lt, lt_m1, m1_eq, eq_m1, le_m1, m1_le, m2_eq, up_eq, up_ne, n_shl, n_shr, b2_some, let_e, ob_some, bI_0, bI_a, bI_t, bI_f, if_true, if_false, ite_true, ite_false, true_and, and_true, false_and, and_false, true_or, or_true, false_or, or_false, not_true_eq_false, not_false_eq_true, ite_not, ne_eq, Bool.true_eq_false, Bool.false_eq_true, reduceCtorEq, decide_true, decide_false, Bool.and_true, Bool.and_false, Bool.true_and, Bool.false_and, Bool.or_true, Bool.or_false, Bool.not_true, Bool.not_false, Nat.add_zero, Nat.zero_add, eq_self, Nat.not_lt_zero, Nat.reduceAdd, Nat.reduceMul, Nat.reduceSub, Nat.reduceDiv, Nat.reduceMod, Nat.reduceAnd, Nat.reduceXor, Nat.reduceEqDiff, Nat.reducePow, lt_T, lt_F, le_T, le_F, eq_F, C1.2.1]
    rw [e1, e3]
end CB2
