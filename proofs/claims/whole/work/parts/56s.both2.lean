/-! text: both sides read alike: YEARS, PARISHES, CLUES. -/
theorem both1 : yBoth 1 := by
  intro B n h hn T
  obtain ⟨k, F, d, h1, a0, a1, a2, a3, a4, a5, a6, a7⟩ := c_read (s := 1) (Dc := DcY) (Ln := LnY B n) (ln := qX3_readYearLine 31) (d0 := dY0) (E := fun F _ => F) hn T (fun F d h C f1 D => c_lineY C f1 D) (fun F d F' d' => hpY F d F' d') (fun d h h' D e => D.fp e) (fun g i F h => heY g i F h) (fun h _ x _ _ => x) (fun F d h C D => by
    refine ⟨h, ?_, C, D, qFr.refl _ _⟩
    unfold qX3_read_147
    simp (disch := omega) only [↓reduceIte, ↓q_m1, ↓q_m2, k_o, k_0, k_1, k_2, k_3, k_4, k_5, k_6, k_7, k_8, k_9, k_10, k_11, k_16, k_17, k_19, k_20, k_24, k_26, k_27, k_30, k_32, k_33, k_35, k_40, k_43, k_48, k_50, k_57, k_60, k_64, k_81, k_86, k_34, k_66, k_322, k_97, k_99, k_100, k_122, k_128, k_160, k_161, k_255, k_256, k_512, k_580, k_600, k_1000, k_4096, k_far, k_o, nI_add, n_mul, n_sub, n_div, n_rem, n_lt, n_le, n_eq, n_cl, n_and, n_or, n_xor, m1_lt, lt_m1, m1_eq, eq_m1, le_m1, m1_le, m2_eq, up_eq, up_ne, n_shl, n_shr, b2_some, let_e, ob_some, bI_0, bI_a, bI_t, bI_f, if_true, if_false, ite_true, ite_false, true_and, and_true, false_and, and_false, true_or, or_true, false_or, or_false, not_true_eq_false, not_false_eq_true, ite_not, ne_eq, Bool.true_eq_false, Bool.false_eq_true, reduceCtorEq, decide_true, decide_false, Bool.and_true, Bool.and_false, Bool.true_and, Bool.false_and, Bool.or_true, Bool.or_false, Bool.not_true, Bool.not_false, Nat.add_zero, Nat.zero_add, eq_self, Nat.not_lt_zero, Nat.reduceAdd, Nat.reduceMul, Nat.reduceSub, Nat.reduceDiv, Nat.reduceMod, Nat.reduceAnd, Nat.reduceXor, Nat.reduceEqDiff, Nat.reducePow, lt_T, lt_F, le_T, le_F, eq_F])
  have hF : F.2.1 = 1 → F.2.2 ≤ 600 := fun _ => a5.2.2.2.2.1
  obtain ⟨p1, p2, p3, p4⟩ := a6
  refine ⟨F.2.1, F.2.2, h1, fun i g => g.1 (12 + 11 * i) 1 = nI d.1 ∧ ∀ k, k < d.1 → ∀ p, p < 4 → g.1 (12 + 11 * i + 1) (4 * k + p) = d.2 k p, fun g => g.1 72 0 = nI d.1 ∧ ∀ k, k < d.1 → ∀ p, p < 4 → g.1 72 (1 + 4 * k + p) = d.2 k p, a5.2.2.2.1, a5.2.2.2.2.1, a1, a5.2.2.2.2.2.1, a5.2.2.2.2.2.2, a7, fun z i hi => ?_, fun hm e11 T3 => ?_, fun i h2 h3 g hi o1 o2 e1 e2 => Or.inr (Or.inl ⟨rfl, d.1, p1, ?_, ?_, fun k hk => ⟨fun p hp => ?_, ?_⟩⟩)⟩
  · refine ⟨qm_seti (cpH 37 (12 + 11 * i + 1) 160 h1) (12 + 11 * i) 1 (h1.1 36 1), ?_, ⟨by rw [sI_eq]; exact p2, fun k hk p hp => ?_⟩, ?_⟩
    · unfold qX9_keep qX10_take
      simp (disch := omega) only [↓reduceIte, ↓q_m1, ↓q_m2, k_o, k_0, k_1, k_2, k_3, k_4, k_5, k_6, k_7, k_8, k_9, k_10, k_11, k_16, k_17, k_19, k_20, k_24, k_26, k_27, k_30, k_32, k_33, k_35, k_40, k_43, k_48, k_50, k_57, k_60, k_64, k_81, k_86, k_34, k_66, k_322, k_97, k_99, k_100, k_122, k_128, k_160, k_161, k_255, k_256, k_512, k_580, k_600, k_1000, k_4096, k_far, k_o, nI_add, n_mul, n_sub, n_div, n_rem, n_lt, n_le, n_eq, n_cl, n_and, n_or, n_xor, m1_lt, lt_m1, m1_eq, eq_m1, le_m1, m1_le, m2_eq, up_eq, up_ne, n_shl, n_shr, b2_some, let_e, ob_some, bI_0, bI_a, bI_t, bI_f, if_true, if_false, ite_true, ite_false, true_and, and_true, false_and, and_false, true_or, or_true, false_or, or_false, not_true_eq_false, not_false_eq_true, ite_not, ne_eq, Bool.true_eq_false, Bool.false_eq_true, reduceCtorEq, decide_true, decide_false, Bool.and_true, Bool.and_false, Bool.true_and, Bool.false_and, Bool.or_true, Bool.or_false, Bool.not_true, Bool.not_false, Nat.add_zero, Nat.zero_add, eq_self, Nat.not_lt_zero, Nat.reduceAdd, Nat.reduceMul, Nat.reduceSub, Nat.reduceDiv, Nat.reduceMod, Nat.reduceAnd, Nat.reduceXor, Nat.reduceEqDiff, Nat.reducePow, lt_T, lt_F, le_T, le_F, eq_F, cp_i, cpH_ne]
    · rw [sI_ne (by omega), cpH_in (by omega)]
      exact p3 k hk p hp
    · exact (cpH_f.mono (fun a k z => by unfold yOwn; omega)).trans (qFr.seti (by unfold yOwn; omega))
  · obtain ⟨h3, h7, b1, b2, b3, b4, b5, b6⟩ := m_read (s := 1) (Dm := DmY) (Ln := LnY B n) (E := fun F _ => F) (by omega) hn e11 T3 a0 a2 a3 hF (fun F d F' d' h M D gd L => m_lineY M D L) (fun F d h h' D e => D.mv (fun k => (e _ _ (by unfold mP; omega)).1)) (fun F d h D => D) (fun h e x y => ⟨by show (0 : Nat) ≤ 40; omega, e 0 (by omega), fun _ k hk => absurd hk (Nat.not_lt_zero k)⟩) (fun z => rfl) (fun h M D => m_fin0 M (Or.inl rfl))
    refine ⟨h3, b1, b2, b3, fun z => ?_, b6⟩
    have D7 := b4 (by omega)
    refine ⟨by rw [b5]; exact D7.2.1, fun k hk p hp => ?_⟩
    rw [b5]
    exact D7.2.2 z k hk p hp
  · rw [(e1 _ _ (by unfold yOwn; omega)).1]; exact o1.1
  · have e2 : ∀ k, k < 161 → g.1 69 (161 * i + k) = h3.1 72 k := e2
    have := e2 0 (by omega)
    rw [Nat.add_zero] at this
    rw [this]; exact o2.1
  · have e2 : ∀ k, k < 161 → g.1 69 (161 * i + k) = h3.1 72 k := e2
    rw [(e1 _ _ (by unfold yOwn; omega)).1, o1.2 k hk p hp, show 161 * i + 1 + 4 * k + p = 161 * i + (1 + 4 * k + p) by omega, e2 _ (by omega)]
    exact (o2.2 k hk p hp).symm
  · have e2 : ∀ k, k < 161 → g.1 69 (161 * i + k) = h3.1 72 k := e2
    have e3 : ∀ p, p < 4 → g.1 69 (161 * i + 1 + 4 * k + p) = d.2 k p := fun p hp => by
      rw [show 161 * i + 1 + 4 * k + p = 161 * i + (1 + 4 * k + p) by omega, e2 _ (by omega)]
      exact o2.2 k hk p hp
    rw [e3 0 (by omega), e3 1 (by omega), e3 2 (by omega), e3 3 (by omega)]
    exact p4 k hk
theorem both2 : yBoth 2 := by
  intro B n h hn T
  obtain ⟨k, F, d, h1, a0, a1, a2, a3, a4, a5, a6, a7⟩ := c_read (s := 2) (Dc := DcP) (Ln := LnP B n) (ln := qX3_readParishLine 31) (d0 := dP0) (E := fun F _ => F) hn T (fun F d h C f1 D => c_lineP C f1 D) (fun F d F' d' => hpP F d F' d') (fun d h h' D e => D.fp e) (fun g i F h => heP g i F h) (fun h _ _ x _ => x) (fun F d h C D => by
    refine ⟨h, ?_, C, D, qFr.refl _ _⟩
    unfold qX3_read_147
    simp (disch := omega) only [↓reduceIte, ↓q_m1, ↓q_m2, k_o, k_0, k_1, k_2, k_3, k_4, k_5, k_6, k_7, k_8, k_9, k_10, k_11, k_16, k_17, k_19, k_20, k_24, k_26, k_27, k_30, k_32, k_33, k_35, k_40, k_43, k_48, k_50, k_57, k_60, k_64, k_81, k_86, k_34, k_66, k_322, k_97, k_99, k_100, k_122, k_128, k_160, k_161, k_255, k_256, k_512, k_580, k_600, k_1000, k_4096, k_far, k_o, nI_add, n_mul, n_sub, n_div, n_rem, n_lt, n_le, n_eq, n_cl, n_and, n_or, n_xor, m1_lt, lt_m1, m1_eq, eq_m1, le_m1, m1_le, m2_eq, up_eq, up_ne, n_shl, n_shr, b2_some, let_e, ob_some, bI_0, bI_a, bI_t, bI_f, if_true, if_false, ite_true, ite_false, true_and, and_true, false_and, and_false, true_or, or_true, false_or, or_false, not_true_eq_false, not_false_eq_true, ite_not, ne_eq, Bool.true_eq_false, Bool.false_eq_true, reduceCtorEq, decide_true, decide_false, Bool.and_true, Bool.and_false, Bool.true_and, Bool.false_and, Bool.or_true, Bool.or_false, Bool.not_true, Bool.not_false, Nat.add_zero, Nat.zero_add, eq_self, Nat.not_lt_zero, Nat.reduceAdd, Nat.reduceMul, Nat.reduceSub, Nat.reduceDiv, Nat.reduceMod, Nat.reduceAnd, Nat.reduceXor, Nat.reduceEqDiff, Nat.reducePow, lt_T, lt_F, le_T, le_F, eq_F])
  have hF : F.2.1 = 1 → F.2.2 ≤ 600 := fun _ => a5.2.2.2.2.1
  obtain ⟨p1, p2, p3, p4, p5, p6, p7, p8, p9⟩ := a6
  refine ⟨F.2.1, F.2.2, h1, fun i g => g.1 (14 + 11 * i) 2 = nI d.1 ∧ g.1 (14 + 11 * i) 3 = nI d.2.1 ∧ g.1 (14 + 11 * i) 4 = nI d.2.2.1 ∧ (∀ k, k < d.1 → g.1 (14 + 11 * i + 1) k = nI (d.2.2.2.1 k)) ∧ ∀ k, k < d.2.1 → g.1 (14 + 11 * i + 2) k = nI (d.2.2.2.2 k), fun g => g.1 72 0 = nI d.1 ∧ g.1 72 1 = nI d.2.1 ∧ g.1 72 2 = nI d.2.2.1 ∧ (∀ k, k < d.1 → g.1 72 (3 + k) = nI (d.2.2.2.1 k)) ∧ ∀ k, k < d.2.1 → g.1 72 (9 + k) = nI (d.2.2.2.2 k), a5.2.2.2.1, a5.2.2.2.2.1, a1, a5.2.2.2.2.2.1, a5.2.2.2.2.2.2, a7, fun z i hi => ?_, fun hm e11 T3 => ?_, fun i h2 h3 g hi o1 o2 e1 e2 => Or.inr (Or.inr (Or.inl ⟨rfl, ?_⟩))⟩
  · refine ⟨qm_seti (qm_seti (qm_seti (cpH 40 (14 + 11 * i + 2) 8 (cpH 39 (14 + 11 * i + 1) 6 h1)) (14 + 11 * i) 2 (h1.1 38 2)) (14 + 11 * i) 3 (h1.1 38 3)) (14 + 11 * i) 4 (h1.1 38 4), ?_, ⟨?_, ?_, ?_, fun k hk => ?_, fun k hk => ?_⟩, ?_⟩
    · unfold qX9_keep qX2_take
      simp (disch := omega) only [↓reduceIte, ↓q_m1, ↓q_m2, k_o, k_0, k_1, k_2, k_3, k_4, k_5, k_6, k_7, k_8, k_9, k_10, k_11, k_16, k_17, k_19, k_20, k_24, k_26, k_27, k_30, k_32, k_33, k_35, k_40, k_43, k_48, k_50, k_57, k_60, k_64, k_81, k_86, k_34, k_66, k_322, k_97, k_99, k_100, k_122, k_128, k_160, k_161, k_255, k_256, k_512, k_580, k_600, k_1000, k_4096, k_far, k_o, nI_add, n_mul, n_sub, n_div, n_rem, n_lt, n_le, n_eq, n_cl, n_and, n_or, n_xor, m1_lt, lt_m1, m1_eq, eq_m1, le_m1, m1_le, m2_eq, up_eq, up_ne, n_shl, n_shr, b2_some, let_e, ob_some, bI_0, bI_a, bI_t, bI_f, if_true, if_false, ite_true, ite_false, true_and, and_true, false_and, and_false, true_or, or_true, false_or, or_false, not_true_eq_false, not_false_eq_true, ite_not, ne_eq, Bool.true_eq_false, Bool.false_eq_true, reduceCtorEq, decide_true, decide_false, Bool.and_true, Bool.and_false, Bool.true_and, Bool.false_and, Bool.or_true, Bool.or_false, Bool.not_true, Bool.not_false, Nat.add_zero, Nat.zero_add, eq_self, Nat.not_lt_zero, Nat.reduceAdd, Nat.reduceMul, Nat.reduceSub, Nat.reduceDiv, Nat.reduceMod, Nat.reduceAnd, Nat.reduceXor, Nat.reduceEqDiff, Nat.reducePow, lt_T, lt_F, le_T, le_F, eq_F, cp_i, cpH_ne]
    · rw [sI_ne (by omega), sI_ne (by omega), sI_eq]; exact p5
    · rw [sI_ne (by omega), sI_eq]; exact p6
    · rw [sI_eq]; exact p7
    · rw [sI_ne (by omega), sI_ne (by omega), sI_ne (by omega), cpH_ne (by omega), cpH_in (by omega)]; exact (p8 k hk).2.2
    · rw [sI_ne (by omega), sI_ne (by omega), sI_ne (by omega), cpH_in (by omega), cpH_ne (by omega)]; exact (p9 k hk).2.2
    · exact ((((cpH_f.mono (fun a k z => by unfold yOwn; omega)).trans (cpH_f.mono (fun a k z => by unfold yOwn; omega))).trans (qFr.seti (by unfold yOwn; omega))).trans (qFr.seti (by unfold yOwn; omega))).trans (qFr.seti (by unfold yOwn; omega))
  · obtain ⟨h3, h7, b1, b2, b3, b4, b5, b6⟩ := m_read (s := 2) (Dm := DmP) (Ln := LnP B n) (E := fun F _ => F) (by omega) hn e11 T3 a0 a2 a3 hF (fun F d F' d' h M D gd L => m_lineP M D L) (fun F d h h' D e => D.mv (fun k => (e _ _ (by unfold mP; omega)).1) (fun z => z)) (fun F d h D => D) (fun h e x y => DmP.mk (by omega) (by omega) (e 0 (by omega)) (e 1 (by omega)) (fun _ => ⟨e 2 (by omega), fun k hk => absurd hk (Nat.not_lt_zero k), fun k hk => absurd hk (Nat.not_lt_zero k)⟩)) (fun z => rfl) (fun h M D => m_fin0 M (Or.inr rfl))
    refine ⟨h3, b1, b2, b3, fun z => ?_, b6⟩
    obtain ⟨_, _, x3, x4, x5⟩ := b4 (by omega)
    obtain ⟨y1, y2, y3⟩ := x5 z
    simp only [b5]
    exact ⟨x3, x4, y1, y2, y3⟩
  · have e2 : ∀ k, k < 17 → g.1 70 (17 * i + k) = h3.1 72 k := e2
    obtain ⟨o1, o3, o4, o5, o6⟩ := o1
    obtain ⟨x1, x2, x3, x4, x5⟩ := o2
    have e0 := e2 0 (by omega)
    rw [Nat.add_zero] at e0
    refine ⟨d.1, d.2.1, d.2.2.1, d.2.2.2.1, d.2.2.2.2, p1, p2, p3, p4, by rw [(e1 _ _ (by unfold yOwn; omega)).1]; exact o1, by rw [(e1 _ _ (by unfold yOwn; omega)).1]; exact o3, by rw [(e1 _ _ (by unfold yOwn; omega)).1]; exact o4, by rw [e0]; exact x1, by rw [e2 1 (by omega)]; exact x2, by rw [e2 2 (by omega)]; exact x3, fun k hk => ⟨(p8 k hk).1, (p8 k hk).2.1, by rw [(e1 _ _ (by unfold yOwn; omega)).1]; exact o5 k hk, by rw [e2 _ (by omega)]; exact x4 k hk⟩, fun k hk => ⟨(p9 k hk).1, (p9 k hk).2.1, by rw [(e1 _ _ (by unfold yOwn; omega)).1]; exact o6 k hk, by rw [e2 _ (by omega)]; exact x5 k hk⟩⟩
theorem both3 : yBoth 3 := by
  intro B n h hn T
  obtain ⟨k, F, d, h1, a0, a1, a2, a3, a4, a5, a6, a7⟩ := c_read (s := 3) (Dc := DcK) (Ln := LnK B n) (ln := qX3_readCluesLine 31) (d0 := dK0) (E := fun F d => fEnd n d.1.1 d.1.2.1 d.2.1 d.2.2 F) hn T (fun F d h C f1 D => c_lineK C f1 D) (fun F d F' d' => hpK F d F' d') (fun d h h' D e => D.fp e) (fun g i F h => heK g i F h) (fun h _ _ _ x => x) (fun F d h C D => by
    obtain ⟨⟨p1, p2, p3, p4, p5⟩, ⟨q1, q2, q3⟩, c, f1, f2, f3, f4⟩ := D
    obtain ⟨h', b1, b2, b3⟩ := yc_look C f3 f4 ⟨show d.1.1 < 100 by omega, show d.1.2.1 < 100 by omega, by omega, by omega⟩
    refine ⟨h', ?_, b2, DcK.fp ⟨⟨p1, p2, p3, p4, p5⟩, ⟨q1, q2, q3⟩, c, f1, f2, f3, f4⟩ b3, b3.mono (fun _ _ z => z.c)⟩
    unfold qX3_read_147
    simp (disch := omega) only [↓reduceIte, ↓q_m1, ↓q_m2, k_o, k_0, k_1, k_2, k_3, k_4, k_5, k_6, k_7, k_8, k_9, k_10, k_11, k_16, k_17, k_19, k_20, k_24, k_26, k_27, k_30, k_32, k_33, k_35, k_40, k_43, k_48, k_50, k_57, k_60, k_64, k_81, k_86, k_34, k_66, k_322, k_97, k_99, k_100, k_122, k_128, k_160, k_161, k_255, k_256, k_512, k_580, k_600, k_1000, k_4096, k_far, k_o, nI_add, n_mul, n_sub, n_div, n_rem, n_lt, n_le, n_eq, n_cl, n_and, n_or, n_xor, m1_lt, lt_m1, m1_eq, eq_m1, le_m1, m1_le, m2_eq, up_eq, up_ne, n_shl, n_shr, b2_some, let_e, ob_some, bI_0, bI_a, bI_t, bI_f, if_true, if_false, ite_true, ite_false, true_and, and_true, false_and, and_false, true_or, or_true, false_or, or_false, not_true_eq_false, not_false_eq_true, ite_not, ne_eq, Bool.true_eq_false, Bool.false_eq_true, reduceCtorEq, decide_true, decide_false, Bool.and_true, Bool.and_false, Bool.true_and, Bool.false_and, Bool.or_true, Bool.or_false, Bool.not_true, Bool.not_false, Nat.add_zero, Nat.zero_add, eq_self, Nat.not_lt_zero, Nat.reduceAdd, Nat.reduceMul, Nat.reduceSub, Nat.reduceDiv, Nat.reduceMod, Nat.reduceAnd, Nat.reduceXor, Nat.reduceEqDiff, Nat.reducePow, lt_T, lt_F, le_T, le_F, eq_F, q1, q2, b1])
  have hF : F.2.1 = 1 → F.2.2 ≤ 600 := fun z => by
    have := a5.2.2.2.2.1
    rw [fEnd_1 z] at this
    exact this
  obtain ⟨⟨p1, p2, p3, p4, p5⟩, ⟨q1, q2, q3⟩, c, f1, f2, f3, f4⟩ := a6
  refine ⟨(fEnd n d.1.1 d.1.2.1 d.2.1 d.2.2 F).2.1, (fEnd n d.1.1 d.1.2.1 d.2.1 d.2.2 F).2.2, h1, fun i g => (g.1 (17 + 11 * i) 1 = nI d.1.1 ∧ g.1 (17 + 11 * i) 2 = nI d.1.2.1 ∧ g.1 (17 + 11 * i) 3 = nI d.1.2.2.1) ∧ ∀ k, k < d.1.2.2.1 → g.1 (17 + 11 * i + 1) (3 * k) = nI (d.1.2.2.2.1 k) ∧ g.1 (17 + 11 * i + 1) (3 * k + 1) = nI (d.1.2.2.2.2.1 k) ∧ g.1 (17 + 11 * i + 1) (3 * k + 2) = nI (d.1.2.2.2.2.2 k), fun g => (g.1 72 0 = nI d.1.1 ∧ g.1 72 1 = nI d.1.2.1 ∧ g.1 72 2 = nI d.1.2.2.1) ∧ ∀ k, k < d.1.2.2.1 → g.1 72 (3 + 3 * k) = nI (d.1.2.2.2.1 k) ∧ g.1 72 (4 + 3 * k) = nI (d.1.2.2.2.2.1 k) ∧ g.1 72 (5 + 3 * k) = nI (d.1.2.2.2.2.2 k), a5.2.2.2.1, a5.2.2.2.2.1, a1, a5.2.2.2.2.2.1, a5.2.2.2.2.2.2, a7, fun z i hi => ?_, fun hm e11 T3 => ?_, fun i h2 h3 g hi o1 o2 e1 e2 => Or.inr (Or.inr (Or.inr ⟨rfl, ?_⟩))⟩
  · refine ⟨qm_seti (qm_seti (qm_seti (cpH 42 (17 + 11 * i + 1) 30 h1) (17 + 11 * i) 1 (h1.1 41 1)) (17 + 11 * i) 2 (h1.1 41 2)) (17 + 11 * i) 3 (h1.1 41 3), ?_, ⟨⟨?_, ?_, ?_⟩, fun k hk => ?_⟩, ?_⟩
    · unfold qX9_keep qX1_take
      simp (disch := omega) only [↓reduceIte, ↓q_m1, ↓q_m2, k_o, k_0, k_1, k_2, k_3, k_4, k_5, k_6, k_7, k_8, k_9, k_10, k_11, k_16, k_17, k_19, k_20, k_24, k_26, k_27, k_30, k_32, k_33, k_35, k_40, k_43, k_48, k_50, k_57, k_60, k_64, k_81, k_86, k_34, k_66, k_322, k_97, k_99, k_100, k_122, k_128, k_160, k_161, k_255, k_256, k_512, k_580, k_600, k_1000, k_4096, k_far, k_o, nI_add, n_mul, n_sub, n_div, n_rem, n_lt, n_le, n_eq, n_cl, n_and, n_or, n_xor, m1_lt, lt_m1, m1_eq, eq_m1, le_m1, m1_le, m2_eq, up_eq, up_ne, n_shl, n_shr, b2_some, let_e, ob_some, bI_0, bI_a, bI_t, bI_f, if_true, if_false, ite_true, ite_false, true_and, and_true, false_and, and_false, true_or, or_true, false_or, or_false, not_true_eq_false, not_false_eq_true, ite_not, ne_eq, Bool.true_eq_false, Bool.false_eq_true, reduceCtorEq, decide_true, decide_false, Bool.and_true, Bool.and_false, Bool.true_and, Bool.false_and, Bool.or_true, Bool.or_false, Bool.not_true, Bool.not_false, Nat.add_zero, Nat.zero_add, eq_self, Nat.not_lt_zero, Nat.reduceAdd, Nat.reduceMul, Nat.reduceSub, Nat.reduceDiv, Nat.reduceMod, Nat.reduceAnd, Nat.reduceXor, Nat.reduceEqDiff, Nat.reducePow, lt_T, lt_F, le_T, le_F, eq_F, cp_i, cpH_ne]
    · rw [sI_ne (by omega), sI_ne (by omega), sI_eq]; exact q1
    · rw [sI_ne (by omega), sI_eq]; exact q2
    · rw [sI_eq]; exact q3
    · have g1 : ∀ j, j < 30 → (qm_seti (qm_seti (qm_seti (cpH 42 (17 + 11 * i + 1) 30 h1) (17 + 11 * i) 1 (h1.1 41 1)) (17 + 11 * i) 2 (h1.1 41 2)) (17 + 11 * i) 3 (h1.1 41 3)).1 (17 + 11 * i + 1) j = h1.1 42 j := fun j hj => by rw [sI_ne (by omega), sI_ne (by omega), sI_ne (by omega), cpH_in hj]
      rw [g1 _ (by omega), g1 _ (by omega), g1 _ (by omega)]
      exact (c k hk).2
    · exact (((cpH_f.mono (fun a k z => by unfold yOwn; omega)).trans (qFr.seti (by unfold yOwn; omega))).trans (qFr.seti (by unfold yOwn; omega))).trans (qFr.seti (by unfold yOwn; omega))
  · obtain ⟨h3, h7, b1, b2, b3, b4, b5, b6⟩ := m_read (s := 3) (Dm := DmK) (Ln := LnK B n) (E := fun F d => fEnd n d.1.1 d.1.2.1 d.2.1 d.2.2 F) (by omega) hn e11 T3 a0 a2 a3 hF (fun F d F' d' h M D gd L => m_lineK M D L) (fun F d h h' D e => D.mv (fun k => (e _ _ (by unfold mP; omega)).1) (e _ _ (by unfold mP; omega)).1 (e _ _ (by unfold mP; omega)).1 (fun z => z)) (fun F d h D => D) (fun h e x y => DmK.mk (by omega) (e 2 (by omega)) (fun _ => ⟨⟨e 0 (by omega), e 1 (by omega)⟩, fun k hk => absurd hk (Nat.not_lt_zero k), ⟨by show (0 : Nat) < 100; omega, Or.inr ⟨x, rfl⟩⟩, ⟨by show (0 : Nat) < 100; omega, Or.inr ⟨y, rfl⟩⟩⟩)) (fun z => fEnd_1 z) (fun h M D => m_fin1 M (Or.inr rfl) (by have := M.2.2.1; omega) ⟨by omega, by omega, by omega, by omega⟩ (fun z0 => ⟨(D.2.2 z0).1.1, (D.2.2 z0).1.2, (D.2.2 z0).2.2.1, (D.2.2 z0).2.2.2⟩))
    refine ⟨h3, b1, b2, b3, fun z => ?_, b6⟩
    have f0 := (fEnd_f z).1
    obtain ⟨_, x3, x5⟩ := b4 (by omega)
    obtain ⟨y1, y2, _⟩ := x5 f0
    simp only [b5]
    exact ⟨⟨y1.1, y1.2, x3⟩, y2⟩
  · have e2 : ∀ k, k < 33 → g.1 71 (33 * i + k) = h3.1 72 k := e2
    obtain ⟨⟨o1, o3, o4⟩, o5⟩ := o1
    obtain ⟨⟨x1, x2, x3⟩, x4⟩ := o2
    have e0 := e2 0 (by omega)
    rw [Nat.add_zero] at e0
    refine ⟨d.1.1, d.1.2.1, d.1.2.2.1, d.1.2.2.2.1, d.1.2.2.2.2.1, d.1.2.2.2.2.2, p1, p2, p3, p4, p5, by rw [(e1 _ _ (by unfold yOwn; omega)).1]; exact o1, by rw [(e1 _ _ (by unfold yOwn; omega)).1]; exact o3, by rw [(e1 _ _ (by unfold yOwn; omega)).1]; exact o4, by rw [e0]; exact x1, by rw [e2 1 (by omega)]; exact x2, by rw [e2 2 (by omega)]; exact x3, fun k hk => ⟨(c k hk).1.1, (c k hk).1.2.1, (c k hk).1.2.2, ?_, ?_⟩⟩
    · rw [(e1 _ _ (by unfold yOwn; omega)).1, (e1 _ _ (by unfold yOwn; omega)).1, (e1 _ _ (by unfold yOwn; omega)).1]; exact o5 k hk
    · rw [e2 _ (by omega), e2 _ (by omega), e2 _ (by omega)]; exact x4 k hk
