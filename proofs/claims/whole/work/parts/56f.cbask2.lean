/-! text: a line of a BASKET, the class's, word by word. -/
theorem c_lB0 {B : Nat → Nat} {n : Nat} {F : fl} {h : qm_H} {d : dB} (C : fC B n F h) (h1 : F.2.1 ≠ 1) (D : DcB d h) (w0 : tW B n F.1 = 1936292453) : ∃ h', qX3_readBasketLine 31 h = some h' ∧ fC B n (fNum B n 2 8 (fNum B n 2 8 (fAdv B n F)).2).2 h' ∧ DcB (((fNum B n 2 8 (fAdv B n F)).1, (fNum B n 2 8 (fNum B n 2 8 (fAdv B n F)).2).1, bx d.1, bT d.1, bR d.1, bO d.1), d.2.1, d.2.2) h' ∧ qFr cP h h' := by
  obtain ⟨ha, a1, a2, a3⟩ := c_word1 (k := 0) C (by omega) h1 w0
  obtain ⟨hb, b1, b2, b3⟩ := c_num (lo := 2) (hi := 8) a2 (by omega) (by omega)
  have C3 : fC B n (fNum B n 2 8 (fAdv B n F)).2 (qm_seti hb 32 3 (nI (fNum B n 2 8 (fAdv B n F)).1)) := b2.mv (fun k => sI_ne (by omega)) (fun k => sI_ne (by omega)) (sI_ne (by omega)) (sI_ne (by omega))
  obtain ⟨hc, d1, d2, d3⟩ := c_num (lo := 2) (hi := 8) C3 (by omega) (by omega)
  have r1 := fNum_r B n (lo := 2) (hi := 8) (fAdv B n F) (by omega)
  have r2 := fNum_r B n (lo := 2) (hi := 8) (fNum B n 2 8 (fAdv B n F)).2 (by omega)
  have D2 := (D.fp a3).fp b3
  clear a2 b2 C3
  generalize fNum B n 2 8 (fNum B n 2 8 (fAdv B n F)).2 = N2 at *
  generalize fNum B n 2 8 (fAdv B n F) = N1 at *
  have fr : ∀ a k, ¬ fP a k → ¬ (a = 32 ∧ k = 3) → hc.1 a k = hb.1 a k ∧ hc.2 a k = hb.2 a k := fun a k z1 z2 => ⟨by rw [(d3 a k z1).1, sI_ne z2], (d3 a k z1).2⟩
  obtain ⟨p1, p2, p3, p4, p5, p6, p7, p8, p9, q3, q4, q5, qT, qRr, qO, q7, q8⟩ := D2.un
  refine ⟨qm_seti hc 32 4 (nI N2.1), ?_, d2.mv (fun k => sI_ne (by omega)) (fun k => sI_ne (by omega)) (sI_ne (by omega)) (sI_ne (by omega)), DcB.mk (dBok.mk r1.1 r1.2 r2.1 r2.2 p5 p6 p7 p8 p9) ?_ ?_ ?_ (fun i hi => ?_) (fun i hi => ?_) ?_ ?_ ?_, ?_⟩
  · unfold qX3_readBasketLine
    simp (disch := omega) only [↓reduceIte, ↓q_m1, ↓q_m2, k_o, k_0, k_1, k_2, k_3, k_4, k_5, k_6, k_7, k_8, k_9, k_10, k_11, k_16, k_17, k_19, k_20, k_24, k_26, k_27, k_30, k_32, k_33, k_35, k_40, k_43, k_48, k_50, k_57, k_60, k_64, k_81, k_86, k_34, k_66, k_322, k_97, k_99, k_100, k_122, k_128, k_160, k_161, k_255, k_256, k_512, k_580, k_600, k_1000, k_4096, k_far, k_o, nI_add, n_mul, n_sub, n_div, n_rem, n_lt, n_le, n_eq, n_cl, n_and, n_or, n_xor, m1_lt, lt_m1, m1_eq, eq_m1, le_m1, m1_le, m2_eq, up_eq, up_ne, n_shl, n_shr, b2_some, let_e, ob_some, bI_0, bI_a, bI_t, bI_f, if_true, if_false, ite_true, ite_false, true_and, and_true, false_and, and_false, true_or, or_true, false_or, or_false, not_true_eq_false, not_false_eq_true, ite_not, ne_eq, Bool.true_eq_false, Bool.false_eq_true, reduceCtorEq, decide_true, decide_false, Bool.and_true, Bool.and_false, Bool.true_and, Bool.false_and, Bool.or_true, Bool.or_false, Bool.not_true, Bool.not_false, Nat.add_zero, Nat.zero_add, eq_self, Nat.not_lt_zero, Nat.reduceAdd, Nat.reduceMul, Nat.reduceSub, Nat.reduceDiv, Nat.reduceMod, Nat.reduceAnd, Nat.reduceXor, Nat.reduceEqDiff, Nat.reducePow, lt_T, lt_F, le_T, le_F, eq_F, a1, b1, d1]
  · rw [sI_ne (by omega), (d3 _ _ (by unfold fP; omega)).1]; exact sI_eq _ _ _ _
  · exact sI_eq _ _ _ _
  · rw [sI_ne (by omega), (fr _ _ (by unfold fP; omega) (by omega)).1]; exact q5
  · rw [sI_ne (by omega), (fr _ _ (by unfold fP; omega) (by omega)).1]; exact qT i hi
  · rw [sI_ne (by omega), (fr _ _ (by unfold fP; omega) (by omega)).1]; exact qRr i hi
  · intro r c hr hc'
    rw [sI_2, (fr 32 6 (by unfold fP; omega) (by omega)).2]
    exact qO r c hr hc'
  · rw [sI_ne (by omega), (fr _ _ (by unfold fP; omega) (by omega)).1]; exact q7
  · rw [sI_ne (by omega), (fr _ _ (by unfold fP; omega) (by omega)).1]; exact q8
  · exact ((((a3.mono (fun _ _ z => z.c)).trans (b3.mono (fun _ _ z => z.c))).trans (qFr.seti (by unfold cP; omega))).trans (d3.mono (fun _ _ z => z.c))).trans (qFr.seti (by unfold cP; omega))
theorem cP_or {a k m : Nat} (z : fP a k ∨ (a = 31 ∧ k = m)) : cP a k := by
  rcases z with z | z
  · exact z.c
  · unfold cP; omega
theorem c_lB1 {B : Nat → Nat} {n : Nat} {F : fl} {h : qm_H} {d : dB} (C : fC B n F h) (h1 : F.2.1 ≠ 1) (D : DcB d h) (w0 : tW B n F.1 ≠ 1936292453) (w1 : tW B n F.1 = 1869636974) : ∃ h', qX3_readBasketLine 31 h = some h' ∧ fC B n (fNum B n 0 7 (fNum B n 0 7 (fAdv B n F)).2).2 h' ∧ DcB ((bw d.1, bh d.1, bx d.1, bT d.1, bR d.1, fun r c => bO d.1 r c || decide (r = (fNum B n 0 7 (fNum B n 0 7 (fAdv B n F)).2).1 ∧ c = (fNum B n 0 7 (fAdv B n F)).1)), max d.2.1 (fNum B n 0 7 (fAdv B n F)).1, max d.2.2 (fNum B n 0 7 (fNum B n 0 7 (fAdv B n F)).2).1) h' ∧ qFr cP h h' := by
  have e0 := c_word0 (k := 0) C (by omega) (Or.inr w0)
  obtain ⟨ha, a1, a2, a3⟩ := c_word1 (k := 1) C (by omega) h1 w1
  have D1 := D.fp a3
  obtain ⟨p1, p2, p3, p4, p5, p6, p7, p8, p9, q3, q4, q5, qT, qRr, qO, q7, q8⟩ := D1.un
  obtain ⟨hb, b1, b2, b3, b4⟩ := c_col a2 q7 (by omega)
  obtain ⟨hc, d1, d2, d3, d4⟩ := c_row (x := d.2.2) b2 (by rw [(b4 _ _ (by unfold fP; omega)).1]; exact q8) (by omega)
  have r1 := fNum_r B n (lo := 0) (hi := 7) (fAdv B n F) (by omega)
  have r2 := fNum_r B n (lo := 0) (hi := 7) (fNum B n 0 7 (fAdv B n F)).2 (by omega)
  clear a2 b2
  generalize fNum B n 0 7 (fNum B n 0 7 (fAdv B n F)).2 = N2 at *
  generalize fNum B n 0 7 (fAdv B n F) = N1 at *
  have fr : ∀ a k, ¬ fP a k → ¬ (a = 31) → hc.1 a k = ha.1 a k ∧ hc.2 a k = ha.2 a k := fun a k z1 z2 => ⟨by rw [(d4 a k (fun z => z.elim z1 (fun z => z2 z.1))).1, (b4 a k (fun z => z.elim z1 (fun z => z2 z.1))).1], by rw [(d4 a k (fun z => z.elim z1 (fun z => z2 z.1))).2, (b4 a k (fun z => z.elim z1 (fun z => z2 z.1))).2]⟩
  refine ⟨qm_setl hc 32 6 (hc.2 32 6 ||| qm_lshl 1 (nI (8 * N2.1 + N1.1))), ?_, d2.mv (fun k => rfl) (fun k => rfl) rfl rfl, DcB.mk (dBok.mk p1 p2 p3 p4 p5 p6 (fun r c q => ?_) (by omega) (by omega)) ?_ ?_ ?_ (fun i hi => ?_) (fun i hi => ?_) (fun r c hr hc' => ?_) ?_ ?_, ?_⟩
  · unfold qX3_readBasketLine qX0_bit
    simp (disch := omega) only [↓reduceIte, ↓q_m1, ↓q_m2, k_o, k_0, k_1, k_2, k_3, k_4, k_5, k_6, k_7, k_8, k_9, k_10, k_11, k_16, k_17, k_19, k_20, k_24, k_26, k_27, k_30, k_32, k_33, k_35, k_40, k_43, k_48, k_50, k_57, k_60, k_64, k_81, k_86, k_34, k_66, k_322, k_97, k_99, k_100, k_122, k_128, k_160, k_161, k_255, k_256, k_512, k_580, k_600, k_1000, k_4096, k_far, k_o, nI_add, n_mul, n_sub, n_div, n_rem, n_lt, n_le, n_eq, n_cl, n_and, n_or, n_xor, m1_lt, lt_m1, m1_eq, eq_m1, le_m1, m1_le, m2_eq, up_eq, up_ne, n_shl, n_shr, b2_some, let_e, ob_some, bI_0, bI_a, bI_t, bI_f, if_true, if_false, ite_true, ite_false, true_and, and_true, false_and, and_false, true_or, or_true, false_or, or_false, not_true_eq_false, not_false_eq_true, ite_not, ne_eq, Bool.true_eq_false, Bool.false_eq_true, reduceCtorEq, decide_true, decide_false, Bool.and_true, Bool.and_false, Bool.true_and, Bool.false_and, Bool.or_true, Bool.or_false, Bool.not_true, Bool.not_false, Nat.add_zero, Nat.zero_add, eq_self, Nat.not_lt_zero, Nat.reduceAdd, Nat.reduceMul, Nat.reduceSub, Nat.reduceDiv, Nat.reduceMod, Nat.reduceAnd, Nat.reduceXor, Nat.reduceEqDiff, Nat.reducePow, lt_T, lt_F, le_T, le_F, eq_F, e0, a1, b1, d1]
  · rw [Bool.or_eq_true, decide_eq_true_iff] at q
    rcases q with q | q
    · have := p7 r c q
      omega
    · omega
  · rw [sL_1, (fr _ _ (by unfold fP; omega) (by omega)).1]; exact q3
  · rw [sL_1, (fr _ _ (by unfold fP; omega) (by omega)).1]; exact q4
  · rw [sL_1, (fr _ _ (by unfold fP; omega) (by omega)).1]; exact q5
  · rw [sL_1, (fr _ _ (by unfold fP; omega) (by omega)).1]; exact qT i hi
  · rw [sL_1, (fr _ _ (by unfold fP; omega) (by omega)).1]; exact qRr i hi
  · rw [sL_eq, lb_or, (fr 32 6 (by unfold fP; omega) (by omega)).2, qO r c hr hc', lb_one (by omega) (by omega)]
    congr 1
    rw [decide_eq_decide]
    omega
  · rw [sL_1, (d4 _ _ (by unfold fP; omega)).1]; exact b3
  · rw [sL_1]; exact d3
  · exact (((a3.mono (fun _ _ z => z.c)).trans (b4.mono (fun a k z => cP_or z))).trans (d4.mono (fun a k z => cP_or z))).trans (qFr.setl (by unfold cP; omega))
theorem c_lB2 {B : Nat → Nat} {n : Nat} {F : fl} {h : qm_H} {d : dB} (C : fC B n F h) (h1 : F.2.1 ≠ 1) (D : DcB d h) (w0 : tW B n F.1 ≠ 1936292453) (w1 : tW B n F.1 ≠ 1869636974) (w2 : tW B n F.1 = 7499620) : ∃ h', qX3_readBasketLine 31 h = some h' ∧ fC B n (fNum B n 0 9 (fNum B n 0 9 (fNum B n 0 7 (fAdv B n F)).2).2).2 h' ∧ DcB ((bw d.1, bh d.1, bx d.1, yup (bT d.1) (8 * 0 + (fNum B n 0 7 (fAdv B n F)).1) (fNum B n 0 9 (fNum B n 0 7 (fAdv B n F)).2).1, yup (bR d.1) (8 * 0 + (fNum B n 0 7 (fAdv B n F)).1) (fNum B n 0 9 (fNum B n 0 9 (fNum B n 0 7 (fAdv B n F)).2).2).1, bO d.1), d.2.1, max d.2.2 (fNum B n 0 7 (fAdv B n F)).1) h' ∧ qFr cP h h' := by
  have e0 := c_word0 (k := 0) C (by omega) (Or.inr w0)
  have e1 := c_word0 (k := 1) C (by omega) (Or.inr w1)
  obtain ⟨ha, a1, a2, a3⟩ := c_word1 (k := 2) C (by omega) h1 w2
  have D1 := D.fp a3
  obtain ⟨p1, p2, p3, p4, p5, p6, p7, p8, p9, q3, q4, q5, qT, qRr, qO, q7, q8⟩ := D1.un
  obtain ⟨hb, b1, b2, b3, b4⟩ := c_row a2 q8 (by omega)
  have r1 := fNum_r B n (lo := 0) (hi := 7) (fAdv B n F) (by omega)
  generalize fNum B n 0 7 (fAdv B n F) = N1 at *
  have D2 : DcB ((bw d.1, bh d.1, bx d.1, bT d.1, bR d.1, bO d.1), d.2.1, max d.2.2 N1.1) hb := DcB.mk (dBok.mk p1 p2 p3 p4 p5 p6 (fun r c q => by have := p7 r c q; omega) p8 (by omega)) (by rw [(b4 _ _ (by unfold fP; omega)).1]; exact q3) (by rw [(b4 _ _ (by unfold fP; omega)).1]; exact q4) (by rw [(b4 _ _ (by unfold fP; omega)).1]; exact q5) (fun i hi => by rw [(b4 _ _ (by unfold fP; omega)).1]; exact qT i hi) (fun i hi => by rw [(b4 _ _ (by unfold fP; omega)).1]; exact qRr i hi) (fun r c hr hc => by rw [(b4 _ _ (by unfold fP; omega)).2]; exact qO r c hr hc) (by rw [(b4 _ _ (by unfold fP; omega)).1]; exact q7) b3
  obtain ⟨hc, d1, d2, d3, d4⟩ := c_twig (s := 0) b2 D2 (by omega) r1.2
  refine ⟨hc, ?_, d2, d3, ((a3.mono (fun _ _ z => z.c)).trans (b4.mono (fun a k z => cP_or z))).trans d4⟩
  unfold qX3_readBasketLine
  simp (disch := omega) only [↓reduceIte, ↓q_m1, ↓q_m2, k_o, k_0, k_1, k_2, k_3, k_4, k_5, k_6, k_7, k_8, k_9, k_10, k_11, k_16, k_17, k_19, k_20, k_24, k_26, k_27, k_30, k_32, k_33, k_35, k_40, k_43, k_48, k_50, k_57, k_60, k_64, k_81, k_86, k_34, k_66, k_322, k_97, k_99, k_100, k_122, k_128, k_160, k_161, k_255, k_256, k_512, k_580, k_600, k_1000, k_4096, k_far, k_o, nI_add, n_mul, n_sub, n_div, n_rem, n_lt, n_le, n_eq, n_cl, n_and, n_or, n_xor, m1_lt, lt_m1, m1_eq, eq_m1, le_m1, m1_le, m2_eq, up_eq, up_ne, n_shl, n_shr, b2_some, let_e, ob_some, bI_0, bI_a, bI_t, bI_f, if_true, if_false, ite_true, ite_false, true_and, and_true, false_and, and_false, true_or, or_true, false_or, or_false, not_true_eq_false, not_false_eq_true, ite_not, ne_eq, Bool.true_eq_false, Bool.false_eq_true, reduceCtorEq, decide_true, decide_false, Bool.and_true, Bool.and_false, Bool.true_and, Bool.false_and, Bool.or_true, Bool.or_false, Bool.not_true, Bool.not_false, Nat.add_zero, Nat.zero_add, eq_self, Nat.not_lt_zero, Nat.reduceAdd, Nat.reduceMul, Nat.reduceSub, Nat.reduceDiv, Nat.reduceMod, Nat.reduceAnd, Nat.reduceXor, Nat.reduceEqDiff, Nat.reducePow, lt_T, lt_F, le_T, le_F, eq_F, e0, e1, a1, b1, d1]
theorem c_lB3 {B : Nat → Nat} {n : Nat} {F : fl} {h : qm_H} {d : dB} (C : fC B n F h) (h1 : F.2.1 ≠ 1) (D : DcB d h) (w0 : tW B n F.1 ≠ 1936292453) (w1 : tW B n F.1 ≠ 1869636974) (w2 : tW B n F.1 ≠ 7499620) (w3 : tW B n F.1 = 495873780581) : ∃ h', qX3_readBasketLine 31 h = some h' ∧ fC B n (fNum B n 0 9 (fNum B n 0 9 (fNum B n 0 7 (fAdv B n F)).2).2).2 h' ∧ DcB ((bw d.1, bh d.1, bx d.1, yup (bT d.1) (8 * 1 + (fNum B n 0 7 (fAdv B n F)).1) (fNum B n 0 9 (fNum B n 0 7 (fAdv B n F)).2).1, yup (bR d.1) (8 * 1 + (fNum B n 0 7 (fAdv B n F)).1) (fNum B n 0 9 (fNum B n 0 9 (fNum B n 0 7 (fAdv B n F)).2).2).1, bO d.1), max d.2.1 (fNum B n 0 7 (fAdv B n F)).1, d.2.2) h' ∧ qFr cP h h' := by
  have e0 := c_word0 (k := 0) C (by omega) (Or.inr w0)
  have e1 := c_word0 (k := 1) C (by omega) (Or.inr w1)
  have e2 := c_word0 (k := 2) C (by omega) (Or.inr w2)
  obtain ⟨ha, a1, a2, a3⟩ := c_word1 (k := 3) C (by omega) h1 w3
  have D1 := D.fp a3
  obtain ⟨p1, p2, p3, p4, p5, p6, p7, p8, p9, q3, q4, q5, qT, qRr, qO, q7, q8⟩ := D1.un
  obtain ⟨hb, b1, b2, b3, b4⟩ := c_col a2 q7 (by omega)
  have r1 := fNum_r B n (lo := 0) (hi := 7) (fAdv B n F) (by omega)
  generalize fNum B n 0 7 (fAdv B n F) = N1 at *
  have D2 : DcB ((bw d.1, bh d.1, bx d.1, bT d.1, bR d.1, bO d.1), max d.2.1 N1.1, d.2.2) hb := DcB.mk (dBok.mk p1 p2 p3 p4 p5 p6 (fun r c q => by have := p7 r c q; omega) (by omega) p9) (by rw [(b4 _ _ (by unfold fP; omega)).1]; exact q3) (by rw [(b4 _ _ (by unfold fP; omega)).1]; exact q4) (by rw [(b4 _ _ (by unfold fP; omega)).1]; exact q5) (fun i hi => by rw [(b4 _ _ (by unfold fP; omega)).1]; exact qT i hi) (fun i hi => by rw [(b4 _ _ (by unfold fP; omega)).1]; exact qRr i hi) (fun r c hr hc => by rw [(b4 _ _ (by unfold fP; omega)).2]; exact qO r c hr hc) b3 (by rw [(b4 _ _ (by unfold fP; omega)).1]; exact q8)
  obtain ⟨hc, d1, d2, d3, d4⟩ := c_twig (s := 1) b2 D2 (by omega) r1.2
  refine ⟨hc, ?_, d2, d3, ((a3.mono (fun _ _ z => z.c)).trans (b4.mono (fun a k z => cP_or z))).trans d4⟩
  unfold qX3_readBasketLine
  simp (disch := omega) only [↓reduceIte, ↓q_m1, ↓q_m2, k_o, k_0, k_1, k_2, k_3, k_4, k_5, k_6, k_7, k_8, k_9, k_10, k_11, k_16, k_17, k_19, k_20, k_24, k_26, k_27, k_30, k_32, k_33, k_35, k_40, k_43, k_48, k_50, k_57, k_60, k_64, k_81, k_86, k_34, k_66, k_322, k_97, k_99, k_100, k_122, k_128, k_160, k_161, k_255, k_256, k_512, k_580, k_600, k_1000, k_4096, k_far, k_o, nI_add, n_mul, n_sub, n_div, n_rem, n_lt, n_le, n_eq, n_cl, n_and, n_or, n_xor, m1_lt, lt_m1, m1_eq, eq_m1, le_m1, m1_le, m2_eq, up_eq, up_ne, n_shl, n_shr, b2_some, let_e, ob_some, bI_0, bI_a, bI_t, bI_f, if_true, if_false, ite_true, ite_false, true_and, and_true, false_and, and_false, true_or, or_true, false_or, or_false, not_true_eq_false, not_false_eq_true, ite_not, ne_eq, Bool.true_eq_false, Bool.false_eq_true, reduceCtorEq, decide_true, decide_false, Bool.and_true, Bool.and_false, Bool.true_and, Bool.false_and, Bool.or_true, Bool.or_false, Bool.not_true, Bool.not_false, Nat.add_zero, Nat.zero_add, eq_self, Nat.not_lt_zero, Nat.reduceAdd, Nat.reduceMul, Nat.reduceSub, Nat.reduceDiv, Nat.reduceMod, Nat.reduceAnd, Nat.reduceXor, Nat.reduceEqDiff, Nat.reducePow, lt_T, lt_F, le_T, le_F, eq_F, e0, e1, e2, a1, b1, d1]
theorem c_lB4 {B : Nat → Nat} {n : Nat} {F : fl} {h : qm_H} {d : dB} (C : fC B n F h) (h1 : F.2.1 ≠ 1) (D : DcB d h) (w0 : tW B n F.1 ≠ 1936292453) (w1 : tW B n F.1 ≠ 1869636974) (w2 : tW B n F.1 ≠ 7499620) (w3 : tW B n F.1 ≠ 495873780581) (w4 : tW B n F.1 = 7824756) : ∃ h', qX3_readBasketLine 31 h = some h' ∧ fC B n (fAdv B n F) h' ∧ DcB ((bw d.1, bh d.1, 1, bT d.1, bR d.1, bO d.1), d.2.1, d.2.2) h' ∧ qFr cP h h' := by
  have e0 := c_word0 (k := 0) C (by omega) (Or.inr w0)
  have e1 := c_word0 (k := 1) C (by omega) (Or.inr w1)
  have e2 := c_word0 (k := 2) C (by omega) (Or.inr w2)
  have e3 := c_word0 (k := 3) C (by omega) (Or.inr w3)
  obtain ⟨ha, a1, a2, a3⟩ := c_word1 (k := 4) C (by omega) h1 w4
  have D1 := D.fp a3
  obtain ⟨p1, p2, p3, p4, p5, p6, p7, p8, p9, q3, q4, q5, qT, qRr, qO, q7, q8⟩ := D1.un
  refine ⟨qm_seti ha 32 5 (nI 1), ?_, a2.mv (fun k => sI_ne (by omega)) (fun k => sI_ne (by omega)) (sI_ne (by omega)) (sI_ne (by omega)), DcB.mk (dBok.mk p1 p2 p3 p4 (by omega) p6 p7 p8 p9) ?_ ?_ (sI_eq _ _ _ _) (fun i hi => ?_) (fun i hi => ?_) qO ?_ ?_, (a3.mono (fun _ _ z => z.c)).trans (qFr.seti (by unfold cP; omega))⟩
  · unfold qX3_readBasketLine
    simp (disch := omega) only [↓reduceIte, ↓q_m1, ↓q_m2, k_o, k_0, k_1, k_2, k_3, k_4, k_5, k_6, k_7, k_8, k_9, k_10, k_11, k_16, k_17, k_19, k_20, k_24, k_26, k_27, k_30, k_32, k_33, k_35, k_40, k_43, k_48, k_50, k_57, k_60, k_64, k_81, k_86, k_34, k_66, k_322, k_97, k_99, k_100, k_122, k_128, k_160, k_161, k_255, k_256, k_512, k_580, k_600, k_1000, k_4096, k_far, k_o, nI_add, n_mul, n_sub, n_div, n_rem, n_lt, n_le, n_eq, n_cl, n_and, n_or, n_xor, m1_lt, lt_m1, m1_eq, eq_m1, le_m1, m1_le, m2_eq, up_eq, up_ne, n_shl, n_shr, b2_some, let_e, ob_some, bI_0, bI_a, bI_t, bI_f, if_true, if_false, ite_true, ite_false, true_and, and_true, false_and, and_false, true_or, or_true, false_or, or_false, not_true_eq_false, not_false_eq_true, ite_not, ne_eq, Bool.true_eq_false, Bool.false_eq_true, reduceCtorEq, decide_true, decide_false, Bool.and_true, Bool.and_false, Bool.true_and, Bool.false_and, Bool.or_true, Bool.or_false, Bool.not_true, Bool.not_false, Nat.add_zero, Nat.zero_add, eq_self, Nat.not_lt_zero, Nat.reduceAdd, Nat.reduceMul, Nat.reduceSub, Nat.reduceDiv, Nat.reduceMod, Nat.reduceAnd, Nat.reduceXor, Nat.reduceEqDiff, Nat.reducePow, lt_T, lt_F, le_T, le_F, eq_F, e0, e1, e2, e3, a1]
  · rw [sI_ne (by omega)]; exact q3
  · rw [sI_ne (by omega)]; exact q4
  · rw [sI_ne (by omega)]; exact qT i hi
  · rw [sI_ne (by omega)]; exact qRr i hi
  · rw [sI_ne (by omega)]; exact q7
  · rw [sI_ne (by omega)]; exact q8
theorem c_lineB {B : Nat → Nat} {n : Nat} {F : fl} {h : qm_H} {d : dB} (C : fC B n F h) (h1 : F.2.1 ≠ 1) (D : DcB d h) : ∃ F' d' h', qX3_readBasketLine 31 h = some h' ∧ LnB B n F d F' d' ∧ fC B n F' h' ∧ DcB d' h' ∧ qFr cP h h' := by
  by_cases w0 : tW B n F.1 = 1936292453
  · obtain ⟨h', a, b, c, e⟩ := c_lB0 C h1 D w0
    exact ⟨_, _, h', a, Or.inl ⟨w0, rfl, rfl⟩, b, c, e⟩
  · by_cases w1 : tW B n F.1 = 1869636974
    · obtain ⟨h', a, b, c, e⟩ := c_lB1 C h1 D w0 w1
      exact ⟨_, _, h', a, Or.inr (Or.inl ⟨w1, rfl, rfl⟩), b, c, e⟩
    · by_cases w2 : tW B n F.1 = 7499620
      · obtain ⟨h', a, b, c, e⟩ := c_lB2 C h1 D w0 w1 w2
        exact ⟨_, _, h', a, Or.inr (Or.inr (Or.inl ⟨w2, rfl, rfl⟩)), b, c, e⟩
      · by_cases w3 : tW B n F.1 = 495873780581
        · obtain ⟨h', a, b, c, e⟩ := c_lB3 C h1 D w0 w1 w2 w3
          exact ⟨_, _, h', a, Or.inr (Or.inr (Or.inr (Or.inl ⟨w3, rfl, rfl⟩))), b, c, e⟩
        · by_cases w4 : tW B n F.1 = 7824756
          · obtain ⟨h', a, b, c, e⟩ := c_lB4 C h1 D w0 w1 w2 w3 w4
            exact ⟨_, _, h', a, Or.inr (Or.inr (Or.inr (Or.inr (Or.inl ⟨w4, rfl, rfl⟩)))), b, c, e⟩
          · have e0 := c_word0 (k := 0) C (by omega) (Or.inr w0)
            have e1 := c_word0 (k := 1) C (by omega) (Or.inr w1)
            have e2 := c_word0 (k := 2) C (by omega) (Or.inr w2)
            have e3 := c_word0 (k := 3) C (by omega) (Or.inr w3)
            have e4 := c_word0 (k := 4) C (by omega) (Or.inr w4)
            obtain ⟨ha, a1, a2, a3⟩ := c_ref C
            refine ⟨_, _, ha, ?_, Or.inr (Or.inr (Or.inr (Or.inr (Or.inr ⟨w0, w1, w2, w3, w4, rfl, rfl⟩)))), a2, D.fp a3, a3.mono (fun _ _ z => z.c)⟩
            unfold qX3_readBasketLine
            simp (disch := omega) only [↓reduceIte, ↓q_m1, ↓q_m2, k_o, k_0, k_1, k_2, k_3, k_4, k_5, k_6, k_7, k_8, k_9, k_10, k_11, k_16, k_17, k_19, k_20, k_24, k_26, k_27, k_30, k_32, k_33, k_35, k_40, k_43, k_48, k_50, k_57, k_60, k_64, k_81, k_86, k_34, k_66, k_322, k_97, k_99, k_100, k_122, k_128, k_160, k_161, k_255, k_256, k_512, k_580, k_600, k_1000, k_4096, k_far, k_o, nI_add, n_mul, n_sub, n_div, n_rem, n_lt, n_le, n_eq, n_cl, n_and, n_or, n_xor, m1_lt, lt_m1, m1_eq, eq_m1, le_m1, m1_le, m2_eq, up_eq, up_ne, n_shl, n_shr, b2_some, let_e, ob_some, bI_0, bI_a, bI_t, bI_f, if_true, if_false, ite_true, ite_false, true_and, and_true, false_and, and_false, true_or, or_true, false_or, or_false, not_true_eq_false, not_false_eq_true, ite_not, ne_eq, Bool.true_eq_false, Bool.false_eq_true, reduceCtorEq, decide_true, decide_false, Bool.and_true, Bool.and_false, Bool.true_and, Bool.false_and, Bool.or_true, Bool.or_false, Bool.not_true, Bool.not_false, Nat.add_zero, Nat.zero_add, eq_self, Nat.not_lt_zero, Nat.reduceAdd, Nat.reduceMul, Nat.reduceSub, Nat.reduceDiv, Nat.reduceMod, Nat.reduceAnd, Nat.reduceXor, Nat.reduceEqDiff, Nat.reducePow, lt_T, lt_F, le_T, le_F, eq_F, e0, e1, e2, e3, e4, a1]
