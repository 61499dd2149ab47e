/-! THE CLASS'S BASKET: the softest place, the likeliest one. -/
theorem n_corner {a b c d R : Nat} (h : a + d = R + b + c) : nI a - nI b - nI c + nI d = nI R := by
  have e : nI a + nI d = nI R + nI b + nI c := by rw [nI_add, nI_add, nI_add, h]
  grind
section CB2
variable {β : qB} {h : qm_H} {b : Nat}
theorem c_sumTo {r c : Nat} (hi : 9 * r + c < 81) : qX0_sumTo b (nI r) (nI c) h = some (h.1 (b + 3) (9 * r + c), h) := by
  unfold qX0_sumTo
  simp (disch := omega) only [↓q_m1, ↓q_m2, k_o, k_0, k_1, k_2, k_3, k_4, k_5, k_6, k_7, k_8, k_9, k_10, k_11, k_16, k_17, k_19, k_20, k_24, k_26, k_27, k_30, k_32, k_33, k_35, k_40, k_43, k_48, k_50, k_57, k_60, k_64, k_81, k_86, k_34, k_66, k_322, k_97, k_99, k_100, k_122, k_128, k_160, k_161, k_255, k_256, k_512, k_580, k_600, k_1000, k_4096, k_far, k_o, nI_add, n_mul, n_sub, n_div, n_rem, n_lt, n_le, n_eq, n_cl, n_and, n_or, n_xor, m1_lt, lt_m1, m1_eq, eq_m1, le_m1, m1_le, m2_eq, up_eq, up_ne, n_shl, n_shr, b2_some, let_e, ob_some, bI_0, bI_a, bI_t, bI_f, if_true, if_false, ite_true, ite_false, true_and, and_true, false_and, and_false, true_or, or_true, false_or, or_false, not_true_eq_false, not_false_eq_true, ite_not, ne_eq, Bool.true_eq_false, Bool.false_eq_true, reduceCtorEq, decide_true, decide_false, Bool.and_true, Bool.and_false, Bool.true_and, Bool.false_and, Bool.or_true, Bool.or_false, Bool.not_true, Bool.not_false, Nat.add_zero, Nat.zero_add, eq_self, Nat.not_lt_zero, Nat.reduceAdd, Nat.reduceMul, Nat.reduceSub, Nat.reduceDiv, Nat.reduceMod, Nat.reduceAnd, Nat.reduceXor, Nat.reduceEqDiff, Nat.reducePow, lt_T, lt_F, le_T, le_F, eq_F]
theorem bC.fr {h' : qm_H} (C : bC b β h) (F : qFr (fun a _ => a = b + 3) h h') : bC b β h' := C.mv (fun a k h1 h2 => (F a k (by omega)).1) (F b 6 (by omega)).2
/-- sums up to row r, and in the row behind it up to column c -/
def sumI (β : qB) (b r c : Nat) (h h' : qm_H) : Prop := (∀ i j, i ≤ r → j ≤ bw β → h'.1 (b + 3) (9 * i + j) = nI (rs (hg β 0) 0 0 j i)) ∧ (r < bh β → ∀ j, j ≤ c → h'.1 (b + 3) (9 * (r + 1) + j) = nI (rs (hg β 0) 0 0 j (r + 1))) ∧ qFr (fun a _ => a = b + 3) h h' ∧ qZb (b + 3) h'
theorem rs_w0 {g : Nat → Nat → Nat} {r c hh : Nat} : rs g r c 0 hh = 0 := rs_zero.mpr (fun i j _ hj => absurd hj (Nat.not_lt_zero j))
theorem rs_h0 {g : Nat → Nat → Nat} {r c w : Nat} : rs g r c w 0 = 0 := rfl
theorem rs_add {g : Nat → Nat → Nat} {w r : Nat} : rs g 0 0 w (r + 1) = rs g 0 0 w r + fb_sm (fun j => g r j) w := by
  unfold rs
  rw [fb_sm_succ]
  simp only [Nat.zero_add]
theorem c_sumUp_i (k : bOK β) {r : Nat} (hr : r < bh β) (K : Nat → Int32 → qm_H → Option qm_H) (C : bC b β h) : ∀ d c h1 fuel, c + d = bw β → d < fuel → sumI β b r c h h1 → ∃ h2, qX0_sumUp_20 K fuel b (nI r) (nI (fb_sm (fun j => hg β 0 r j) c)) (nI c) h1 = K b (nI (r + 1)) h2 ∧ sumI β b r (bw β) h h2 := by
  have hW := k.W
  have hH := k.H
  intro d
  induction d with
  | zero =>
    intro c h1 fuel hc hf I
    obtain ⟨g, rfl⟩ : ∃ g, fuel = g + 1 := ⟨fuel - 1, by omega⟩
    have C1 := C.fr I.2.2.1
    refine ⟨h1, ?_, ?_⟩
    · unfold qX0_sumUp_20
      simp (disch := omega) only [↓q_m1, ↓q_m2, k_o, k_0, k_1, k_2, k_3, k_4, k_5, k_6, k_7, k_8, k_9, k_10, k_11, k_16, k_17, k_19, k_20, k_24, k_26, k_27, k_30, k_32, k_33, k_35, k_40, k_43, k_48, k_50, k_57, k_60, k_64, k_81, k_86, k_34, k_66, k_322, k_97, k_99, k_100, k_122, k_128, k_160, k_161, k_255, k_256, k_512, k_580, k_600, k_1000, k_4096, k_far, k_o, nI_add, n_mul, n_sub, n_div, n_rem, n_lt, n_le, n_eq, n_cl, n_and, n_or, n_xor, m1_lt, lt_m1, m1_eq, eq_m1, le_m1, m1_le, m2_eq, up_eq, up_ne, n_shl, n_shr, b2_some, let_e, ob_some, bI_0, bI_a, bI_t, bI_f, if_true, if_false, ite_true, ite_false, true_and, and_true, false_and, and_false, true_or, or_true, false_or, or_false, not_true_eq_false, not_false_eq_true, ite_not, ne_eq, Bool.true_eq_false, Bool.false_eq_true, reduceCtorEq, decide_true, decide_false, Bool.and_true, Bool.and_false, Bool.true_and, Bool.false_and, Bool.or_true, Bool.or_false, Bool.not_true, Bool.not_false, Nat.add_zero, Nat.zero_add, eq_self, Nat.not_lt_zero, Nat.reduceAdd, Nat.reduceMul, Nat.reduceSub, Nat.reduceDiv, Nat.reduceMod, Nat.reduceAnd, Nat.reduceXor, Nat.reduceEqDiff, Nat.reducePow, lt_T, lt_F, le_T, le_F, eq_F, C1.1]
    · have : c = bw β := by omega
      rw [← this]
      exact I
  | succ d ih =>
    intro c h1 fuel hc hf I
    obtain ⟨g, rfl⟩ : ∃ g, fuel = g + 1 := ⟨fuel - 1, by omega⟩
    have C1 := C.fr I.2.2.1
    have o1 := c_strengthIn k C1 (r := r) (c := c) (by omega) (by omega)
    have o2 := c_sumTo (b := b) (h := h1) (r := r) (c := c + 1) (by omega)
    rw [I.1 r (c + 1) (Nat.le_refl _) (by omega)] at o2
    have hb1 : rs (hg β 0) 0 0 (c + 1) r ≤ 1152 := by
      have : rs (hg β 0) 0 0 (c + 1) r ≤ r * ((c + 1) * 18) := fb_sm_bound (fun i hi => fb_sm_bound (fun j hj => hg_le k (by omega) (by omega)))
      have h2 : r * ((c + 1) * 18) ≤ 8 * (8 * 18) := Nat.mul_le_mul (by omega) (Nat.mul_le_mul (by omega) (Nat.le_refl _))
      omega
    obtain ⟨h2, e1, e2⟩ := ih (c + 1) (qm_seti h1 (b + 3) (9 * (r + 1) + c + 1) (nI (rs (hg β 0) 0 0 (c + 1) (r + 1)))) g (by omega) (by omega) (by
      obtain ⟨i1, i2, i3, i4⟩ := I
      refine ⟨fun i j hi hj => ?_, fun _ j hj => ?_, i3.trans (qFr.seti rfl), fun q hq => ⟨?_, ?_⟩⟩
      · rw [sI_ne (by omega)]
        exact i1 i j hi hj
      · by_cases q : j = c + 1
        · subst q
          rw [show 9 * (r + 1) + (c + 1) = 9 * (r + 1) + c + 1 by omega, sI_eq]
        · rw [sI_ne (by omega)]
          exact i2 hr j (by omega)
      · rw [sI_ne (by omega)]
        exact (i4 q hq).1
      · rw [sI_ne (by omega)]
        exact (i4 q hq).2)
    refine ⟨h2, ?_, e2⟩
    rw [fb_sm_succ] at e1
    unfold qX0_sumUp_20
    simp (disch := omega) only [↓q_m1, ↓q_m2, k_o, k_0, k_1, k_2, k_3, k_4, k_5, k_6, k_7, k_8, k_9, k_10, k_11, k_16, k_17, k_19, k_20, k_24, k_26, k_27, k_30, k_32, k_33, k_35, k_40, k_43, k_48, k_50, k_57, k_60, k_64, k_81, k_86, k_34, k_66, k_322, k_97, k_99, k_100, k_122, k_128, k_160, k_161, k_255, k_256, k_512, k_580, k_600, k_1000, k_4096, k_far, k_o, nI_add, n_mul, n_sub, n_div, n_rem, n_lt, n_le, n_eq, n_cl, n_and, n_or, n_xor, m1_lt, lt_m1, m1_eq, eq_m1, le_m1, m1_le, m2_eq, up_eq, up_ne, n_shl, n_shr, b2_some, let_e, ob_some, bI_0, bI_a, bI_t, bI_f, if_true, if_false, ite_true, ite_false, true_and, and_true, false_and, and_false, true_or, or_true, false_or, or_false, not_true_eq_false, not_false_eq_true, ite_not, ne_eq, Bool.true_eq_false, Bool.false_eq_true, reduceCtorEq, decide_true, decide_false, Bool.and_true, Bool.and_false, Bool.true_and, Bool.false_and, Bool.or_true, Bool.or_false, Bool.not_true, Bool.not_false, Nat.add_zero, Nat.zero_add, eq_self, Nat.not_lt_zero, Nat.reduceAdd, Nat.reduceMul, Nat.reduceSub, Nat.reduceDiv, Nat.reduceMod, Nat.reduceAnd, Nat.reduceXor, Nat.reduceEqDiff, Nat.reducePow, lt_T, lt_F, le_T, le_F, eq_F, C1.1, o1, o2]
    rw [rs_add, fb_sm_succ] at e1
    rw [← e1]
theorem c_sumUp_o (k : bOK β) (C : bC b β h) : ∀ d r h1 fuel, r + d = bh β → d < fuel → sumI β b r 0 h h1 → ∃ h2, qX0_sumUp_2 fuel b (nI r) h1 = some h2 ∧ sumI β b (bh β) 0 h h2 := by
  have hW := k.W
  have hH := k.H
  intro d
  induction d with
  | zero =>
    intro r h1 fuel hr hf I
    obtain ⟨g, rfl⟩ : ∃ g, fuel = g + 1 := ⟨fuel - 1, by omega⟩
    have C1 := C.fr I.2.2.1
    refine ⟨h1, ?_, ?_⟩
    · unfold qX0_sumUp_2
      simp (disch := omega) only [↓q_m1, ↓q_m2, k_o, k_0, k_1, k_2, k_3, k_4, k_5, k_6, k_7, k_8, k_9, k_10, k_11, k_16, k_17, k_19, k_20, k_24, k_26, k_27, k_30, k_32, k_33, k_35, k_40, k_43, k_48, k_50, k_57, k_60, k_64, k_81, k_86, k_34, k_66, k_322, k_97, k_99, k_100, k_122, k_128, k_160, k_161, k_255, k_256, k_512, k_580, k_600, k_1000, k_4096, k_far, k_o, nI_add, n_mul, n_sub, n_div, n_rem, n_lt, n_le, n_eq, n_cl, n_and, n_or, n_xor, m1_lt, lt_m1, m1_eq, eq_m1, le_m1, m1_le, m2_eq, up_eq, up_ne, n_shl, n_shr, b2_some, let_e, ob_some, bI_0, bI_a, bI_t, bI_f, if_true, if_false, ite_true, ite_false, true_and, and_true, false_and, and_false, true_or, or_true, false_or, or_false, not_true_eq_false, not_false_eq_true, ite_not, ne_eq, Bool.true_eq_false, Bool.false_eq_true, reduceCtorEq, decide_true, decide_false, Bool.and_true, Bool.and_false, Bool.true_and, Bool.false_and, Bool.or_true, Bool.or_false, Bool.not_true, Bool.not_false, Nat.add_zero, Nat.zero_add, eq_self, Nat.not_lt_zero, Nat.reduceAdd, Nat.reduceMul, Nat.reduceSub, Nat.reduceDiv, Nat.reduceMod, Nat.reduceAnd, Nat.reduceXor, Nat.reduceEqDiff, Nat.reducePow, lt_T, lt_F, le_T, le_F, eq_F, C1.2.1]
    · have : r = bh β := by omega
      rw [← this]
      exact I
  | succ d ih =>
    intro r h1 fuel hr hf I
    obtain ⟨g, rfl⟩ : ∃ g, fuel = g + 1 := ⟨fuel - 1, by omega⟩
    have C1 := C.fr I.2.2.1
    obtain ⟨h2, e1, i1, i2, i3, i4⟩ := c_sumUp_i k (by omega) (qX0_sumUp_2 g) C (bw β) 0 h1 qm_N (by omega) (by unfold qm_N; omega) I
    rw [sm_0] at e1
    obtain ⟨h3, e3, I3⟩ := ih (r + 1) h2 g (by omega) (by omega) ⟨fun i j hi hj => by
      by_cases q : i = r + 1
      · subst q
        exact i2 (by omega) j hj
      · exact i1 i j (by omega) hj, fun hr2 j hj => by
      have : j = 0 := by omega
      subst this
      rw [rs_w0, Nat.add_zero]
      exact (i4 (r + 1 + 1) (by omega)).2, i3, i4⟩
    refine ⟨h3, ?_, I3⟩
    unfold qX0_sumUp_2
    simp (disch := omega) only [↓q_m1, ↓q_m2, k_o, k_0, k_1, k_2, k_3, k_4, k_5, k_6, k_7, k_8, k_9, k_10, k_11, k_16, k_17, k_19, k_20, k_24, k_26, k_27, k_30, k_32, k_33, k_35, k_40, k_43, k_48, k_50, k_57, k_60, k_64, k_81, k_86, k_34, k_66, k_322, k_97, k_99, k_100, k_122, k_128, k_160, k_161, k_255, k_256, k_512, k_580, k_600, k_1000, k_4096, k_far, k_o, nI_add, n_mul, n_sub, n_div, n_rem, n_lt, n_le, n_eq, n_cl, n_and, n_or, n_xor, m1_lt, lt_m1, m1_eq, eq_m1, le_m1, m1_le, m2_eq, up_eq, up_ne, n_shl, n_shr, b2_some, let_e, ob_some, bI_0, bI_a, bI_t, bI_f, if_true, if_false, ite_true, ite_false, true_and, and_true, false_and, and_false, true_or, or_true, false_or, or_false, not_true_eq_false, not_false_eq_true, ite_not, ne_eq, Bool.true_eq_false, Bool.false_eq_true, reduceCtorEq, decide_true, decide_false, Bool.and_true, Bool.and_false, Bool.true_and, Bool.false_and, Bool.or_true, Bool.or_false, Bool.not_true, Bool.not_false, Nat.add_zero, Nat.zero_add, eq_self, Nat.not_lt_zero, Nat.reduceAdd, Nat.reduceMul, Nat.reduceSub, Nat.reduceDiv, Nat.reduceMod, Nat.reduceAnd, Nat.reduceXor, Nat.reduceEqDiff, Nat.reducePow, lt_T, lt_F, le_T, le_F, eq_F, C1.2.1]
    rw [e1, e3]
theorem c_sumUp (k : bOK β) (C : bC b β h) (Z : qZb (b + 3) h) : ∃ h2, qX0_sumUp b h = some h2 ∧ qFr (fun a _ => a = b + 3) h h2 ∧ qZb (b + 3) h2 ∧ ∀ i j, i ≤ bh β → j ≤ bw β → h2.1 (b + 3) (9 * i + j) = nI (rs (hg β 0) 0 0 j i) := by
  have hW := k.W
  have hH := k.H
  obtain ⟨h2, e, i1, _, i3, i4⟩ := c_sumUp_o k C (bh β) 0 h qm_N (by omega) (by unfold qm_N; omega) ⟨fun i j hi hj => by
    have : i = 0 := by omega
    subst this
    rw [rs_h0, Nat.mul_zero, Nat.zero_add]
    exact (Z j (by omega)).1, fun _ j hj => by
    have : j = 0 := by omega
    subst this
    rw [rs_w0, Nat.add_zero]
    exact (Z (0 + 1) (by omega)).2, qFr.refl _ _, Z⟩
  exact ⟨h2, e, i3, i4, i1⟩
theorem c_soft_l (k : bOK β) (C : bC b β h) (S : ∀ i j, i ≤ bh β → j ≤ bw β → h.1 (b + 3) (9 * i + j) = nI (rs (hg β 0) 0 0 j i)) {w hh : Nat} (hw : 1 ≤ w) (hw2 : w ≤ 8) (hh1 : 1 ≤ hh) (hh2 : hh ≤ 8) : ∀ e r bo n fuel, r + e = bh β → e < fuel → n ≤ 1152 → (∀ q, bo = some q → q < 100 ∧ n = rs (hg β 0) (q / bw β) (q % bw β) w hh) → qX0_softest_12 fuel b (nI w) (nI hh) (oI bo) (nI n) (nI r) h = some (oI (am (plP (bw β) (bh β) w hh) (fun c => rs (hg β 0) (c / bw β) (c % bw β) w hh) (bw β * e) (bw β * r) bo), h) := by
  have hW := k.W
  have hH := k.H
  intro e
  induction e with
  | zero =>
    intro r bo n fuel hr hf hn hb
    obtain ⟨g, rfl⟩ : ∃ g, fuel = g + 1 := ⟨fuel - 1, by omega⟩
    unfold qX0_softest_12
    simp (disch := omega) only [↓q_m1, ↓q_m2, k_o, k_0, k_1, k_2, k_3, k_4, k_5, k_6, k_7, k_8, k_9, k_10, k_11, k_16, k_17, k_19, k_20, k_24, k_26, k_27, k_30, k_32, k_33, k_35, k_40, k_43, k_48, k_50, k_57, k_60, k_64, k_81, k_86, k_34, k_66, k_322, k_97, k_99, k_100, k_122, k_128, k_160, k_161, k_255, k_256, k_512, k_580, k_600, k_1000, k_4096, k_far, k_o, nI_add, n_mul, n_sub, n_div, n_rem, n_lt, n_le, n_eq, n_cl, n_and, n_or, n_xor, m1_lt, lt_m1, m1_eq, eq_m1, le_m1, m1_le, m2_eq, up_eq, up_ne, n_shl, n_shr, b2_some, let_e, ob_some, bI_0, bI_a, bI_t, bI_f, if_true, if_false, ite_true, ite_false, true_and, and_true, false_and, and_false, true_or, or_true, false_or, or_false, not_true_eq_false, not_false_eq_true, ite_not, ne_eq, Bool.true_eq_false, Bool.false_eq_true, reduceCtorEq, decide_true, decide_false, Bool.and_true, Bool.and_false, Bool.true_and, Bool.false_and, Bool.or_true, Bool.or_false, Bool.not_true, Bool.not_false, Nat.add_zero, Nat.zero_add, eq_self, Nat.not_lt_zero, Nat.reduceAdd, Nat.reduceMul, Nat.reduceSub, Nat.reduceDiv, Nat.reduceMod, Nat.reduceAnd, Nat.reduceXor, Nat.reduceEqDiff, Nat.reducePow, lt_T, lt_F, le_T, le_F, eq_F, C.2.1]
    rfl
  | succ e ih =>
    intro r bo n fuel hr hf hn hb
    obtain ⟨g, rfl⟩ : ∃ g, fuel = g + 1 := ⟨fuel - 1, by omega⟩
    unfold qX0_softest_12
    by_cases q : bh β < r + hh
    · simp (disch := omega) only [↓q_m1, ↓q_m2, k_o, k_0, k_1, k_2, k_3, k_4, k_5, k_6, k_7, k_8, k_9, k_10, k_11, k_16, k_17, k_19, k_20, k_24, k_26, k_27, k_30, k_32, k_33, k_35, k_40, k_43, k_48, k_50, k_57, k_60, k_64, k_81, k_86, k_34, k_66, k_322, k_97, k_99, k_100, k_122, k_128, k_160, k_161, k_255, k_256, k_512, k_580, k_600, k_1000, k_4096, k_far, k_o, nI_add, n_mul, n_sub, n_div, n_rem, n_lt, n_le, n_eq, n_cl, n_and, n_or, n_xor, m1_lt, lt_m1, m1_eq, eq_m1, le_m1, m1_le, m2_eq, up_eq, up_ne, n_shl, n_shr, b2_some, let_e, ob_some, bI_0, bI_a, bI_t, bI_f, if_true, if_false, ite_true, ite_false, true_and, and_true, false_and, and_false, true_or, or_true, false_or, or_false, not_true_eq_false, not_false_eq_true, ite_not, ne_eq, Bool.true_eq_false, Bool.false_eq_true, reduceCtorEq, decide_true, decide_false, Bool.and_true, Bool.and_false, Bool.true_and, Bool.false_and, Bool.or_true, Bool.or_false, Bool.not_true, Bool.not_false, Nat.add_zero, Nat.zero_add, eq_self, Nat.not_lt_zero, Nat.reduceAdd, Nat.reduceMul, Nat.reduceSub, Nat.reduceDiv, Nat.reduceMod, Nat.reduceAnd, Nat.reduceXor, Nat.reduceEqDiff, Nat.reducePow, lt_T, lt_F, le_T, le_F, eq_F, C.2.1]
      rw [am_end]
      intro j h1 h2
      have : r ≤ j / bw β := (Nat.le_div_iff_mul_le (by omega)).mpr (by rw [Nat.mul_comm]; exact h1)
      exact decide_eq_false (by omega)
    · simp (disch := omega) only [↓q_m1, ↓q_m2, k_o, k_0, k_1, k_2, k_3, k_4, k_5, k_6, k_7, k_8, k_9, k_10, k_11, k_16, k_17, k_19, k_20, k_24, k_26, k_27, k_30, k_32, k_33, k_35, k_40, k_43, k_48, k_50, k_57, k_60, k_64, k_81, k_86, k_34, k_66, k_322, k_97, k_99, k_100, k_122, k_128, k_160, k_161, k_255, k_256, k_512, k_580, k_600, k_1000, k_4096, k_far, k_o, nI_add, n_mul, n_sub, n_div, n_rem, n_lt, n_le, n_eq, n_cl, n_and, n_or, n_xor, m1_lt, lt_m1, m1_eq, eq_m1, le_m1, m1_le, m2_eq, up_eq, up_ne, n_shl, n_shr, b2_some, let_e, ob_some, bI_0, bI_a, bI_t, bI_f, if_true, if_false, ite_true, ite_false, true_and, and_true, false_and, and_false, true_or, or_true, false_or, or_false, not_true_eq_false, not_false_eq_true, ite_not, ne_eq, Bool.true_eq_false, Bool.false_eq_true, reduceCtorEq, decide_true, decide_false, Bool.and_true, Bool.and_false, Bool.true_and, Bool.false_and, Bool.or_true, Bool.or_false, Bool.not_true, Bool.not_false, Nat.add_zero, Nat.zero_add, eq_self, Nat.not_lt_zero, Nat.reduceAdd, Nat.reduceMul, Nat.reduceSub, Nat.reduceDiv, Nat.reduceMod, Nat.reduceAnd, Nat.reduceXor, Nat.reduceEqDiff, Nat.reducePow, lt_T, lt_F, le_T, le_F, eq_F, C.2.1]
      have inner : ∀ d c bo n f2, c + d = bw β → d < f2 → n ≤ 1152 → (∀ q, bo = some q → q < 100 ∧ n = rs (hg β 0) (q / bw β) (q % bw β) w hh) → qX0_softest_26 (qX0_softest_12 g) f2 b (nI w) (nI hh) (oI bo) (nI n) (nI r) (nI c) h = some (oI (am (plP (bw β) (bh β) w hh) (fun c => rs (hg β 0) (c / bw β) (c % bw β) w hh) (d + bw β * e) (bw β * r + c) bo), h) := by
        intro d
        induction d with
        | zero =>
          intro c bo n f2 hc hf2 hn hb
          obtain ⟨g2, rfl⟩ : ∃ g, f2 = g + 1 := ⟨f2 - 1, by omega⟩
          unfold qX0_softest_26
          simp (disch := omega) only [↓q_m1, ↓q_m2, k_o, k_0, k_1, k_2, k_3, k_4, k_5, k_6, k_7, k_8, k_9, k_10, k_11, k_16, k_17, k_19, k_20, k_24, k_26, k_27, k_30, k_32, k_33, k_35, k_40, k_43, k_48, k_50, k_57, k_60, k_64, k_81, k_86, k_34, k_66, k_322, k_97, k_99, k_100, k_122, k_128, k_160, k_161, k_255, k_256, k_512, k_580, k_600, k_1000, k_4096, k_far, k_o, nI_add, n_mul, n_sub, n_div, n_rem, n_lt, n_le, n_eq, n_cl, n_and, n_or, n_xor, m1_lt, lt_m1, m1_eq, eq_m1, le_m1, m1_le, m2_eq, up_eq, up_ne, n_shl, n_shr, b2_some, let_e, ob_some, bI_0, bI_a, bI_t, bI_f, if_true, if_false, ite_true, ite_false, true_and, and_true, false_and, and_false, true_or, or_true, false_or, or_false, not_true_eq_false, not_false_eq_true, ite_not, ne_eq, Bool.true_eq_false, Bool.false_eq_true, reduceCtorEq, decide_true, decide_false, Bool.and_true, Bool.and_false, Bool.true_and, Bool.false_and, Bool.or_true, Bool.or_false, Bool.not_true, Bool.not_false, Nat.add_zero, Nat.zero_add, eq_self, Nat.not_lt_zero, Nat.reduceAdd, Nat.reduceMul, Nat.reduceSub, Nat.reduceDiv, Nat.reduceMod, Nat.reduceAnd, Nat.reduceXor, Nat.reduceEqDiff, Nat.reducePow, lt_T, lt_F, le_T, le_F, eq_F, C.1]
          rw [ih (r + 1) bo n g (by omega) (by omega) hn hb, show bw β * r + c = bw β * (r + 1) by rw [Nat.mul_succ]; omega]
        | succ d ih2 =>
          intro c bo n f2 hc hf2 hn hb
          obtain ⟨g2, rfl⟩ : ∃ g, f2 = g + 1 := ⟨f2 - 1, by omega⟩
          have hrb : bw β * r ≤ 8 * 8 := Nat.mul_le_mul (by omega) (by omega)
          unfold qX0_softest_26
          by_cases q2 : bw β < c + w
          · simp (disch := omega) only [↓q_m1, ↓q_m2, k_o, k_0, k_1, k_2, k_3, k_4, k_5, k_6, k_7, k_8, k_9, k_10, k_11, k_16, k_17, k_19, k_20, k_24, k_26, k_27, k_30, k_32, k_33, k_35, k_40, k_43, k_48, k_50, k_57, k_60, k_64, k_81, k_86, k_34, k_66, k_322, k_97, k_99, k_100, k_122, k_128, k_160, k_161, k_255, k_256, k_512, k_580, k_600, k_1000, k_4096, k_far, k_o, nI_add, n_mul, n_sub, n_div, n_rem, n_lt, n_le, n_eq, n_cl, n_and, n_or, n_xor, m1_lt, lt_m1, m1_eq, eq_m1, le_m1, m1_le, m2_eq, up_eq, up_ne, n_shl, n_shr, b2_some, let_e, ob_some, bI_0, bI_a, bI_t, bI_f, if_true, if_false, ite_true, ite_false, true_and, and_true, false_and, and_false, true_or, or_true, false_or, or_false, not_true_eq_false, not_false_eq_true, ite_not, ne_eq, Bool.true_eq_false, Bool.false_eq_true, reduceCtorEq, decide_true, decide_false, Bool.and_true, Bool.and_false, Bool.true_and, Bool.false_and, Bool.or_true, Bool.or_false, Bool.not_true, Bool.not_false, Nat.add_zero, Nat.zero_add, eq_self, Nat.not_lt_zero, Nat.reduceAdd, Nat.reduceMul, Nat.reduceSub, Nat.reduceDiv, Nat.reduceMod, Nat.reduceAnd, Nat.reduceXor, Nat.reduceEqDiff, Nat.reducePow, lt_T, lt_F, le_T, le_F, eq_F, C.1]
            rw [ih (r + 1) bo n g (by omega) (by omega) hn hb, am_skip (e := d + 1), show bw β * r + c + (d + 1) = bw β * (r + 1) by rw [Nat.mul_succ]; omega]
            intro j h1 h2
            obtain ⟨z1, z2⟩ := row_skip (W := bw β) (r := r) (c := c) (k := j) (by omega) h1 (by omega)
            exact decide_eq_false (by omega)
          · obtain ⟨z1, z2⟩ := wc_dm (W := bw β) (r := r) (c := c) (by omega)
            have o1 := c_sumTo (b := b) (h := h) (r := r + hh) (c := c + w) (by omega)
            have o2 := c_sumTo (b := b) (h := h) (r := r + hh) (c := c) (by omega)
            have o3 := c_sumTo (b := b) (h := h) (r := r) (c := c + w) (by omega)
            have o4 := c_sumTo (b := b) (h := h) (r := r) (c := c) (by omega)
            rw [S _ _ (by omega) (by omega)] at o1 o2 o3 o4
            have hp : plP (bw β) (bh β) w hh (bw β * r + c) = true := by
              unfold plP
              rw [z1, z2]
              exact decide_eq_true (by omega)
            have hbd := rs_le18 k (f := 0) hp
            rw [z1, z2] at hbd
            have hco := n_corner (rs_corners (g := hg β 0) (r := r) (c := c) (w := w) (h := hh))
            rw [show d + 1 + bw β * e = (d + bw β * e) + 1 by omega]
            show _ = some (oI (am _ _ (d + bw β * e) (bw β * r + c + 1) _), h)
            simp (disch := omega) only [C.1, nI_add, n_lt, q2, if_false, o1, o2, o3, o4, b2_some, let_e, hco, ↓q_m1, n_mul, k_1]
            cases bo with
            | none =>
              simp only [oI_n, eq_self, if_true, hp]
              have := ih2 (c + 1) (some (bw β * r + c)) (rs (hg β 0) r c w hh) g2 (by omega) (by omega) hbd (fun q hq => by cases hq; rw [z1, z2]; exact ⟨by omega, rfl⟩)
              rw [oI_s] at this
              rw [this]
              rfl
            | some bq =>
              obtain ⟨b1, b2⟩ := hb bq rfl
              simp (disch := omega) only [oI_s, m1_eq, if_false, n_lt, hp, Bool.true_and, decide_eq_true_eq, z1, z2, ← b2]
              by_cases q5 : rs (hg β 0) r c w hh < n
              · rw [if_pos q5, if_pos q5]
                have := ih2 (c + 1) (some (bw β * r + c)) (rs (hg β 0) r c w hh) g2 (by omega) (by omega) hbd (fun q hq => by cases hq; rw [z1, z2]; exact ⟨by omega, rfl⟩)
                rw [oI_s] at this
                rw [this]
                rfl
              · rw [if_neg q5, if_neg q5]
                have := ih2 (c + 1) (some bq) n g2 (by omega) (by omega) hn hb
                rw [oI_s] at this
                rw [this]
                rfl
      rw [inner (bw β) 0 bo n qm_N (by omega) (by unfold qm_N; omega) hn hb, Nat.add_zero, Nat.mul_succ, Nat.add_comm]
theorem c_softest (k : bOK β) (C : bC b β h) (Z : qZb (b + 3) h) {w hh : Nat} (hw : 1 ≤ w) (hw2 : w ≤ 8) (hh1 : 1 ≤ hh) (hh2 : hh ≤ 8) : ∃ h2, qX0_softest b (nI w) (nI hh) h = some (oI (weak β 0 w hh), h2) ∧ qFr (fun a _ => a = b + 3) h h2 ∧ qZb (b + 3) h2 := by
  have hH := k.H
  obtain ⟨h2, e1, e2, e3, e4⟩ := c_sumUp k C Z
  refine ⟨h2, ?_, e2, e3⟩
  unfold qX0_softest
  rw [e1, ob_some, k_0, q_m1, show m1 = oI none from rfl, c_soft_l k (C.fr e2) e4 hw hw2 hh1 hh2 (bh β) 0 none 0 qm_N (by omega) (by unfold qm_N; omega) (by omega) (fun q hq => by cases hq)]
  rfl
/-- HOLD of a size that has one -/
def holdV (β : qB) (w hh : Nat) : Option Nat := match gap (bw β) (bh β) (bO β) w hh with
  | some _ => none
  | none => match weak β 0 w hh with
    | none => none
    | some c => some (rs (hg β 0) (c / bw β) (c % bw β) w hh)
theorem holdV_le (k : bOK β) {w hh n : Nat} (e : holdV β w hh = some n) : n ≤ 1152 := by
  unfold holdV at e
  split at e
  · cases e
  · split at e
    · cases e
    · rename_i c hc
      cases e
      exact rs_le18 k (weak_some hc).2
theorem gap_lt {W H w hh c : Nat} {O : Nat → Nat → Bool} (e : gap W H O w hh = some c) : c < W * H ∧ gapP W H O w hh c = true := by
  have := fs_some e
  exact ⟨by omega, this.2.2⟩
theorem c_holdOf (k : bOK β) (C : bC b β h) (Z : qZb (b + 3) h) {w hh : Nat} (hw : 1 ≤ w) (hw2 : w ≤ 8) (hh1 : 1 ≤ hh) (hh2 : hh ≤ 8) : ∃ h2, qX0_holdOf b (nI w) (nI hh) h = some (oI (holdV β w hh), h2) ∧ qFr (fun a _ => a = b + 3) h h2 ∧ qZb (b + 3) h2 := by
  have hn := k.n
  unfold qX0_holdOf holdV
  rw [c_gapFor k C hw hw2 hh1 hh2, b2_some]
  cases q : gap (bw β) (bh β) (bO β) w hh with
  | some c =>
    have hc := (gap_lt q).1
    refine ⟨h, ?_, qFr.refl _ _, Z⟩
    simp (disch := omega) only [↓q_m1, ↓q_m2, k_o, k_0, k_1, k_2, k_3, k_4, k_5, k_6, k_7, k_8, k_9, k_10, k_11, k_16, k_17, k_19, k_20, k_24, k_26, k_27, k_30, k_32, k_33, k_35, k_40, k_43, k_48, k_50, k_57, k_60, k_64, k_81, k_86, k_34, k_66, k_322, k_97, k_99, k_100, k_122, k_128, k_160, k_161, k_255, k_256, k_512, k_580, k_600, k_1000, k_4096, k_far, k_o, nI_add, n_mul, n_sub, n_div, n_rem, n_lt, n_le, n_eq, n_cl, n_and, n_or, n_xor, m1_lt, lt_m1, m1_eq, eq_m1, le_m1, m1_le, m2_eq, up_eq, up_ne, n_shl, n_shr, b2_some, let_e, ob_some, bI_0, bI_a, bI_t, bI_f, if_true, if_false, ite_true, ite_false, true_and, and_true, false_and, and_false, true_or, or_true, false_or, or_false, not_true_eq_false, not_false_eq_true, ite_not, ne_eq, Bool.true_eq_false, Bool.false_eq_true, reduceCtorEq, decide_true, decide_false, Bool.and_true, Bool.and_false, Bool.true_and, Bool.false_and, Bool.or_true, Bool.or_false, Bool.not_true, Bool.not_false, Nat.add_zero, Nat.zero_add, eq_self, Nat.not_lt_zero, Nat.reduceAdd, Nat.reduceMul, Nat.reduceSub, Nat.reduceDiv, Nat.reduceMod, Nat.reduceAnd, Nat.reduceXor, Nat.reduceEqDiff, Nat.reducePow, lt_T, lt_F, le_T, le_F, eq_F, oI_s, oI_n]
  | none =>
    obtain ⟨h2, e1, e2, e3⟩ := c_softest k C Z hw hw2 hh1 hh2
    refine ⟨h2, ?_, e2, e3⟩
    simp (disch := omega) only [↓q_m1, ↓q_m2, k_o, k_0, k_1, k_2, k_3, k_4, k_5, k_6, k_7, k_8, k_9, k_10, k_11, k_16, k_17, k_19, k_20, k_24, k_26, k_27, k_30, k_32, k_33, k_35, k_40, k_43, k_48, k_50, k_57, k_60, k_64, k_81, k_86, k_34, k_66, k_322, k_97, k_99, k_100, k_122, k_128, k_160, k_161, k_255, k_256, k_512, k_580, k_600, k_1000, k_4096, k_far, k_o, nI_add, n_mul, n_sub, n_div, n_rem, n_lt, n_le, n_eq, n_cl, n_and, n_or, n_xor, m1_lt, lt_m1, m1_eq, eq_m1, le_m1, m1_le, m2_eq, up_eq, up_ne, n_shl, n_shr, b2_some, let_e, ob_some, bI_0, bI_a, bI_t, bI_f, if_true, if_false, ite_true, ite_false, true_and, and_true, false_and, and_false, true_or, or_true, false_or, or_false, not_true_eq_false, not_false_eq_true, ite_not, ne_eq, Bool.true_eq_false, Bool.false_eq_true, reduceCtorEq, decide_true, decide_false, Bool.and_true, Bool.and_false, Bool.true_and, Bool.false_and, Bool.or_true, Bool.or_false, Bool.not_true, Bool.not_false, Nat.add_zero, Nat.zero_add, eq_self, Nat.not_lt_zero, Nat.reduceAdd, Nat.reduceMul, Nat.reduceSub, Nat.reduceDiv, Nat.reduceMod, Nat.reduceAnd, Nat.reduceXor, Nat.reduceEqDiff, Nat.reducePow, lt_T, lt_F, le_T, le_F, eq_F, oI_n, e1]
    cases q2 : weak β 0 w hh with
    | none => simp (disch := omega) only [↓q_m1, ↓q_m2, k_o, k_0, k_1, k_2, k_3, k_4, k_5, k_6, k_7, k_8, k_9, k_10, k_11, k_16, k_17, k_19, k_20, k_24, k_26, k_27, k_30, k_32, k_33, k_35, k_40, k_43, k_48, k_50, k_57, k_60, k_64, k_81, k_86, k_34, k_66, k_322, k_97, k_99, k_100, k_122, k_128, k_160, k_161, k_255, k_256, k_512, k_580, k_600, k_1000, k_4096, k_far, k_o, nI_add, n_mul, n_sub, n_div, n_rem, n_lt, n_le, n_eq, n_cl, n_and, n_or, n_xor, m1_lt, lt_m1, m1_eq, eq_m1, le_m1, m1_le, m2_eq, up_eq, up_ne, n_shl, n_shr, b2_some, let_e, ob_some, bI_0, bI_a, bI_t, bI_f, if_true, if_false, ite_true, ite_false, true_and, and_true, false_and, and_false, true_or, or_true, false_or, or_false, not_true_eq_false, not_false_eq_true, ite_not, ne_eq, Bool.true_eq_false, Bool.false_eq_true, reduceCtorEq, decide_true, decide_false, Bool.and_true, Bool.and_false, Bool.true_and, Bool.false_and, Bool.or_true, Bool.or_false, Bool.not_true, Bool.not_false, Nat.add_zero, Nat.zero_add, eq_self, Nat.not_lt_zero, Nat.reduceAdd, Nat.reduceMul, Nat.reduceSub, Nat.reduceDiv, Nat.reduceMod, Nat.reduceAnd, Nat.reduceXor, Nat.reduceEqDiff, Nat.reducePow, lt_T, lt_F, le_T, le_F, eq_F, oI_n]
    | some c =>
      have hc := weak_some q2
      have o := c_sR k (C.fr e2) hc.1 hc.2
      simp (disch := omega) only [↓q_m1, ↓q_m2, k_o, k_0, k_1, k_2, k_3, k_4, k_5, k_6, k_7, k_8, k_9, k_10, k_11, k_16, k_17, k_19, k_20, k_24, k_26, k_27, k_30, k_32, k_33, k_35, k_40, k_43, k_48, k_50, k_57, k_60, k_64, k_81, k_86, k_34, k_66, k_322, k_97, k_99, k_100, k_122, k_128, k_160, k_161, k_255, k_256, k_512, k_580, k_600, k_1000, k_4096, k_far, k_o, nI_add, n_mul, n_sub, n_div, n_rem, n_lt, n_le, n_eq, n_cl, n_and, n_or, n_xor, m1_lt, lt_m1, m1_eq, eq_m1, le_m1, m1_le, m2_eq, up_eq, up_ne, n_shl, n_shr, b2_some, let_e, ob_some, bI_0, bI_a, bI_t, bI_f, if_true, if_false, ite_true, ite_false, true_and, and_true, false_and, and_false, true_or, or_true, false_or, or_false, not_true_eq_false, not_false_eq_true, ite_not, ne_eq, Bool.true_eq_false, Bool.false_eq_true, reduceCtorEq, decide_true, decide_false, Bool.and_true, Bool.and_false, Bool.true_and, Bool.false_and, Bool.or_true, Bool.or_false, Bool.not_true, Bool.not_false, Nat.add_zero, Nat.zero_add, eq_self, Nat.not_lt_zero, Nat.reduceAdd, Nat.reduceMul, Nat.reduceSub, Nat.reduceDiv, Nat.reduceMod, Nat.reduceAnd, Nat.reduceXor, Nat.reduceEqDiff, Nat.reducePow, lt_T, lt_F, le_T, le_F, eq_F, oI_s, o]
end CB2
