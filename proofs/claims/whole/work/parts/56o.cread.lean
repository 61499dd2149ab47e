/-! text: the class's whole reading. -/
theorem c_b24 : ∀ d i h fuel, i + d = 16 → d < fuel → ∃ h', qX0_begin_24 fuel 32 (nI i) h = some h' ∧ (∀ j, i ≤ j → j < 16 → h'.1 33 j = nI 2 ∧ h'.1 34 j = nI 0) ∧ (∀ j, j < i → h'.1 33 j = h.1 33 j ∧ h'.1 34 j = h.1 34 j) ∧ qFr (fun a _ => a = 33 ∨ a = 34) h h' := by
  intro d
  induction d with
  | zero =>
    intro i h fuel hi hf
    obtain ⟨g, rfl⟩ : ∃ g, fuel = g + 1 := ⟨fuel - 1, by omega⟩
    refine ⟨h, ?_, fun j h1 h2 => by omega, fun _ _ => ⟨rfl, rfl⟩, qFr.refl _ _⟩
    unfold qX0_begin_24
    simp (disch := omega) only [↓reduceIte, ↓q_m1, ↓q_m2, k_o, k_0, k_1, k_2, k_3, k_4, k_5, k_6, k_7, k_8, k_9, k_10, k_11, k_16, k_17, k_19, k_20, k_24, k_26, k_27, k_30, k_32, k_33, k_35, k_40, k_43, k_48, k_50, k_57, k_60, k_64, k_81, k_86, k_34, k_66, k_322, k_97, k_99, k_100, k_122, k_128, k_160, k_161, k_255, k_256, k_512, k_580, k_600, k_1000, k_4096, k_far, k_o, nI_add, n_mul, n_sub, n_div, n_rem, n_lt, n_le, n_eq, n_cl, n_and, n_or, n_xor, m1_lt, lt_m1, m1_eq, eq_m1, le_m1, m1_le, m2_eq, up_eq, up_ne, n_shl, n_shr, b2_some, let_e, ob_some, bI_0, bI_a, bI_t, bI_f, if_true, if_false, ite_true, ite_false, true_and, and_true, false_and, and_false, true_or, or_true, false_or, or_false, not_true_eq_false, not_false_eq_true, ite_not, ne_eq, Bool.true_eq_false, Bool.false_eq_true, reduceCtorEq, decide_true, decide_false, Bool.and_true, Bool.and_false, Bool.true_and, Bool.false_and, Bool.or_true, Bool.or_false, Bool.not_true, Bool.not_false, Nat.add_zero, Nat.zero_add, eq_self, Nat.not_lt_zero, Nat.reduceAdd, Nat.reduceMul, Nat.reduceSub, Nat.reduceDiv, Nat.reduceMod, Nat.reduceAnd, Nat.reduceXor, Nat.reduceEqDiff, Nat.reducePow, lt_T, lt_F, le_T, le_F, eq_F]
  | succ d ih =>
    intro i h fuel hi hf
    obtain ⟨g, rfl⟩ : ∃ g, fuel = g + 1 := ⟨fuel - 1, by omega⟩
    obtain ⟨h', a1, a2, a3, a4⟩ := ih (i + 1) (qm_seti (qm_seti h 33 i (nI 2)) 34 i (nI 0)) g (by omega) (by omega)
    refine ⟨h', ?_, fun j h1 h2 => ?_, fun j hj => ?_, ((qFr.seti (Or.inl rfl)).trans (qFr.seti (Or.inr rfl))).trans a4⟩
    · unfold qX0_begin_24
      simp (disch := omega) only [↓reduceIte, ↓q_m1, ↓q_m2, k_o, k_0, k_1, k_2, k_3, k_4, k_5, k_6, k_7, k_8, k_9, k_10, k_11, k_16, k_17, k_19, k_20, k_24, k_26, k_27, k_30, k_32, k_33, k_35, k_40, k_43, k_48, k_50, k_57, k_60, k_64, k_81, k_86, k_34, k_66, k_322, k_97, k_99, k_100, k_122, k_128, k_160, k_161, k_255, k_256, k_512, k_580, k_600, k_1000, k_4096, k_far, k_o, nI_add, n_mul, n_sub, n_div, n_rem, n_lt, n_le, n_eq, n_cl, n_and, n_or, n_xor, m1_lt, lt_m1, m1_eq, eq_m1, le_m1, m1_le, m2_eq, up_eq, up_ne, n_shl, n_shr, b2_some, let_e, ob_some, bI_0, bI_a, bI_t, bI_f, if_true, if_false, ite_true, ite_false, true_and, and_true, false_and, and_false, true_or, or_true, false_or, or_false, not_true_eq_false, not_false_eq_true, ite_not, ne_eq, Bool.true_eq_false, Bool.false_eq_true, reduceCtorEq, decide_true, decide_false, Bool.and_true, Bool.and_false, Bool.true_and, Bool.false_and, Bool.or_true, Bool.or_false, Bool.not_true, Bool.not_false, Nat.add_zero, Nat.zero_add, eq_self, Nat.not_lt_zero, Nat.reduceAdd, Nat.reduceMul, Nat.reduceSub, Nat.reduceDiv, Nat.reduceMod, Nat.reduceAnd, Nat.reduceXor, Nat.reduceEqDiff, Nat.reducePow, lt_T, lt_F, le_T, le_F, eq_F]
      exact a1
    · by_cases z : j = i
      · rw [z, (a3 i (by omega)).1, (a3 i (by omega)).2, sI_ne (by omega), sI_eq, sI_eq]
        exact ⟨rfl, rfl⟩
      · exact a2 j (by omega) h2
    · rw [(a3 j (by omega)).1, (a3 j (by omega)).2, sI_ne (by omega), sI_ne (by omega), sI_ne (by omega), sI_ne (by omega)]
      exact ⟨rfl, rfl⟩
def dB0 : dB := ((6, 6, 0, fun _ => 2, fun _ => 0, fun _ _ => false), 0, 0)
def dY0 : dY := (0, fun _ _ => 0)
def dP0 : dP := (0, 0, 3, fun _ => 0, fun _ => 0)
def dK0 : dK := ((6, 6, 0, fun _ => 0, fun _ => 0, fun _ => 0), 0, 0)
def hb1 (h : qm_H) : qm_H := qm_seti (qm_seti (qm_seti (qm_seti h 31 5 (nI 0)) 31 6 m1) 31 7 (nI 0)) 31 8 (nI 0)
def hb2 (h : qm_H) : qm_H := qm_setl (qm_seti (qm_seti (qm_seti h 32 3 (nI 6)) 32 4 (nI 6)) 32 5 (nI 0)) 32 6 0
def hb3 (h : qm_H) : qm_H := qm_seti (qm_seti (qm_seti (qm_seti (qm_seti (qm_seti (qm_seti h 36 1 (nI 0)) 38 2 (nI 0)) 38 3 (nI 0)) 38 4 (nI 3)) 41 1 (nI 6)) 41 2 (nI 6)) 41 3 (nI 0)
theorem c_start {B : Nat → Nat} {n s : Nat} {h : qm_H} (hn : n ≤ 600) (T : ∀ j, j < n → ytB (h.1 2 j) (B j)) : ∃ h', qX3_read 31 (nI s) (nI n) h = qX3_read_59 qm_N 31 (nI s) (nI 0) h' ∧ fC B n (0, 0, 0) h' ∧ DcB dB0 h' ∧ DcY dY0 h' ∧ DcP dP0 h' ∧ DcK dK0 h' ∧ qFr cP h h' := by
  obtain ⟨h2, a1, a2, a3, a4⟩ := c_b24 16 0 (hb2 (hb1 h)) qm_N (by omega) (by unfold qm_N; omega)
  have b0 : qX0_begin 32 (hb1 h) = some h2 := by
    unfold qX0_begin
    simp (disch := omega) only [↓reduceIte, ↓q_m1, ↓q_m2, k_o, k_0, k_1, k_2, k_3, k_4, k_5, k_6, k_7, k_8, k_9, k_10, k_11, k_16, k_17, k_19, k_20, k_24, k_26, k_27, k_30, k_32, k_33, k_35, k_40, k_43, k_48, k_50, k_57, k_60, k_64, k_81, k_86, k_34, k_66, k_322, k_97, k_99, k_100, k_122, k_128, k_160, k_161, k_255, k_256, k_512, k_580, k_600, k_1000, k_4096, k_far, k_o, nI_add, n_mul, n_sub, n_div, n_rem, n_lt, n_le, n_eq, n_cl, n_and, n_or, n_xor, m1_lt, lt_m1, m1_eq, eq_m1, le_m1, m1_le, m2_eq, up_eq, up_ne, n_shl, n_shr, b2_some, let_e, ob_some, bI_0, bI_a, bI_t, bI_f, if_true, if_false, ite_true, ite_false, true_and, and_true, false_and, and_false, true_or, or_true, false_or, or_false, not_true_eq_false, not_false_eq_true, ite_not, ne_eq, Bool.true_eq_false, Bool.false_eq_true, reduceCtorEq, decide_true, decide_false, Bool.and_true, Bool.and_false, Bool.true_and, Bool.false_and, Bool.or_true, Bool.or_false, Bool.not_true, Bool.not_false, Nat.add_zero, Nat.zero_add, eq_self, Nat.not_lt_zero, Nat.reduceAdd, Nat.reduceMul, Nat.reduceSub, Nat.reduceDiv, Nat.reduceMod, Nat.reduceAnd, Nat.reduceXor, Nat.reduceEqDiff, Nat.reducePow, lt_T, lt_F, le_T, le_F, eq_F]
    exact a1
  have f1 : qFr cP h (hb1 h) := (((qFr.seti (by unfold cP; omega)).trans (qFr.seti (by unfold cP; omega))).trans (qFr.seti (by unfold cP; omega))).trans (qFr.seti (by unfold cP; omega))
  have f2 : qFr cP (hb1 h) (hb2 (hb1 h)) := (((qFr.seti (by unfold cP; omega)).trans (qFr.seti (by unfold cP; omega))).trans (qFr.seti (by unfold cP; omega))).trans (qFr.setl (by unfold cP; omega))
  have f3 : qFr (fun a _ => a = 36 ∨ a = 38 ∨ a = 41) h2 (hb3 h2) := ((((((qFr.seti (by omega)).trans (qFr.seti (by omega))).trans (qFr.seti (by omega))).trans (qFr.seti (by omega))).trans (qFr.seti (by omega))).trans (qFr.seti (by omega))).trans (qFr.seti (by omega))
  have f4 : qFr cP (hb3 h2) (qm_seti (qm_seti (hb3 h2) 43 1 (nI n)) 43 4 (nI 0)) := (qFr.seti (by unfold cP; omega)).trans (qFr.seti (by unfold cP; omega))
  have F : qFr cP h (qm_seti (qm_seti (hb3 h2) 43 1 (nI n)) 43 4 (nI 0)) := (((f1.trans f2).trans (a4.mono (fun a k z => by unfold cP; omega))).trans (f3.mono (fun a k z => by unfold cP; omega))).trans f4
  have T1 : tpC B n (qm_seti (qm_seti (hb3 h2) 43 1 (nI n)) 43 4 (nI 0)) := ⟨hn, by rw [sI_ne (by omega)]; exact sI_eq _ _ _ _, fun j hj => by rw [(F _ _ (by unfold cP; omega)).1]; exact T j hj⟩
  obtain ⟨h', d1, d2, d3⟩ := c_adv (p := 0) T1 (by omega) (sI_eq _ _ _ _)
  have g31 : ∀ a k, a ≠ 43 → a ≠ 36 → a ≠ 38 → a ≠ 41 → a ≠ 33 → a ≠ 34 → h'.1 a k = (hb2 (hb1 h)).1 a k ∧ h'.2 a k = (hb2 (hb1 h)).2 a k := fun a k z1 z2 z3 z4 z5 z6 => by
    refine ⟨?_, ?_⟩
    · rw [(d3 _ _ (by omega)).1, sI_ne (by omega), sI_ne (by omega), (f3 _ _ (by omega)).1, (a4 _ _ (by omega)).1]
    · rw [(d3 _ _ (by omega)).2, sI_2, sI_2, (f3 _ _ (by omega)).2, (a4 _ _ (by omega)).2]
  have g3 : ∀ a k, a = 36 ∨ a = 38 ∨ a = 41 → h'.1 a k = (hb3 h2).1 a k := fun a k z => by rw [(d3 _ _ (by omega)).1, sI_ne (by omega), sI_ne (by omega)]
  have g33 : ∀ j, j < 16 → h'.1 33 j = nI 2 ∧ h'.1 34 j = nI 0 := fun j hj => by
    rw [(d3 _ _ (by omega)).1, (d3 _ _ (by omega)).1, sI_ne (by omega), sI_ne (by omega), sI_ne (by omega), sI_ne (by omega), (f3 _ _ (by omega)).1, (f3 _ _ (by omega)).1]
    exact a2 j (by omega) hj
  refine ⟨h', ?_, ⟨T1.mv (d3 _ _ (by omega)).1 (fun j => (d3 _ _ (by omega)).1), Nat.zero_le _, d2, (show (0 : Nat) ≤ 4 by omega), (show (0 : Nat) ≤ 600 by omega), ?_, ?_⟩, ?_, ⟨(show (0 : Nat) ≤ 40 by omega), ?_, fun k hk => absurd hk (Nat.not_lt_zero k), fun k hk => absurd hk (Nat.not_lt_zero k)⟩, ?_, ?_, F.trans (d3.mono (fun a k z => by unfold cP; omega))⟩
  · unfold qX3_read qX8_begin
    have b0' := b0
    unfold hb1 at b0'
    unfold qX2_begin qX1_begin
    have d1' := d1
    unfold hb3 at d1'
    rw [show (3 : Int32) = nI 3 from rfl] at *
    simp (disch := omega) only [↓reduceIte, ↓q_m1, ↓q_m2, k_o, k_0, k_1, k_2, k_3, k_4, k_5, k_6, k_7, k_8, k_9, k_10, k_11, k_16, k_17, k_19, k_20, k_24, k_26, k_27, k_30, k_32, k_33, k_35, k_40, k_43, k_48, k_50, k_57, k_60, k_64, k_81, k_86, k_34, k_66, k_322, k_97, k_99, k_100, k_122, k_128, k_160, k_161, k_255, k_256, k_512, k_580, k_600, k_1000, k_4096, k_far, k_o, nI_add, n_mul, n_sub, n_div, n_rem, n_lt, n_le, n_eq, n_cl, n_and, n_or, n_xor, m1_lt, lt_m1, m1_eq, eq_m1, le_m1, m1_le, m2_eq, up_eq, up_ne, n_shl, n_shr, b2_some, let_e, ob_some, bI_0, bI_a, bI_t, bI_f, if_true, if_false, ite_true, ite_false, true_and, and_true, false_and, and_false, true_or, or_true, false_or, or_false, not_true_eq_false, not_false_eq_true, ite_not, ne_eq, Bool.true_eq_false, Bool.false_eq_true, reduceCtorEq, decide_true, decide_false, Bool.and_true, Bool.and_false, Bool.true_and, Bool.false_and, Bool.or_true, Bool.or_false, Bool.not_true, Bool.not_false, Nat.add_zero, Nat.zero_add, eq_self, Nat.not_lt_zero, Nat.reduceAdd, Nat.reduceMul, Nat.reduceSub, Nat.reduceDiv, Nat.reduceMod, Nat.reduceAnd, Nat.reduceXor, Nat.reduceEqDiff, Nat.reducePow, lt_T, lt_F, le_T, le_F, eq_F, b0', j_minn, Nat.min_eq_left hn, d1']
  · rw [(g31 31 5 (by omega) (by omega) (by omega) (by omega) (by omega) (by omega)).1]
    unfold hb2 hb1
    rw [sL_1, sI_ne (by omega), sI_ne (by omega), sI_ne (by omega), sI_ne (by omega), sI_ne (by omega), sI_ne (by omega)]
    exact sI_eq _ _ _ _
  · rw [(g31 31 6 (by omega) (by omega) (by omega) (by omega) (by omega) (by omega)).1]
    unfold hb2 hb1
    rw [sL_1, sI_ne (by omega), sI_ne (by omega), sI_ne (by omega), sI_ne (by omega), sI_ne (by omega)]
    exact sI_eq _ _ _ _
  · refine DcB.mk (dBok.mk (by omega) (by omega) (by omega) (by omega) (by omega) (fun i hi => ⟨by omega, by omega⟩) (fun r c z => absurd z (by decide)) (by omega) (by omega)) ?_ ?_ ?_ (fun i hi => (g33 i hi).1) (fun i hi => (g33 i hi).2) (fun r c hr hc => ?_) ?_ ?_
    · rw [(g31 32 3 (by omega) (by omega) (by omega) (by omega) (by omega) (by omega)).1]
      unfold hb2
      rw [sL_1, sI_ne (by omega), sI_ne (by omega)]
      exact sI_eq _ _ _ _
    · rw [(g31 32 4 (by omega) (by omega) (by omega) (by omega) (by omega) (by omega)).1]
      unfold hb2
      rw [sL_1, sI_ne (by omega)]
      exact sI_eq _ _ _ _
    · rw [(g31 32 5 (by omega) (by omega) (by omega) (by omega) (by omega) (by omega)).1]
      unfold hb2
      rw [sL_1]
      exact sI_eq _ _ _ _
    · rw [(g31 32 6 (by omega) (by omega) (by omega) (by omega) (by omega) (by omega)).2]
      unfold hb2
      rw [sL_eq]
      exact lb_0 _
    · rw [(g31 31 7 (by omega) (by omega) (by omega) (by omega) (by omega) (by omega)).1]
      unfold hb2 hb1
      rw [sL_1, sI_ne (by omega), sI_ne (by omega), sI_ne (by omega), sI_ne (by omega)]
      exact sI_eq _ _ _ _
    · rw [(g31 31 8 (by omega) (by omega) (by omega) (by omega) (by omega) (by omega)).1]
      unfold hb2 hb1
      rw [sL_1, sI_ne (by omega), sI_ne (by omega), sI_ne (by omega)]
      exact sI_eq _ _ _ _
  · rw [g3 36 1 (by omega)]
    unfold hb3
    rw [sI_ne (by omega), sI_ne (by omega), sI_ne (by omega), sI_ne (by omega), sI_ne (by omega), sI_ne (by omega)]
    exact sI_eq _ _ _ _
  · refine DcP.mk (by omega) (by omega) (by omega) (by omega) ?_ ?_ ?_ (fun k hk => absurd hk (Nat.not_lt_zero k)) (fun k hk => absurd hk (Nat.not_lt_zero k))
    · rw [g3 38 2 (by omega)]
      unfold hb3
      rw [sI_ne (by omega), sI_ne (by omega), sI_ne (by omega), sI_ne (by omega), sI_ne (by omega)]
      exact sI_eq _ _ _ _
    · rw [g3 38 3 (by omega)]
      unfold hb3
      rw [sI_ne (by omega), sI_ne (by omega), sI_ne (by omega), sI_ne (by omega)]
      exact sI_eq _ _ _ _
    · rw [g3 38 4 (by omega)]
      unfold hb3
      rw [sI_ne (by omega), sI_ne (by omega), sI_ne (by omega)]
      exact sI_eq _ _ _ _
  · refine DcK.mk ⟨by omega, by omega, by omega, by omega, by omega⟩ ⟨?_, ?_, ?_⟩ (fun k hk => absurd hk (Nat.not_lt_zero k)) ⟨by omega, by omega, ?_, ?_⟩
    · rw [g3 41 1 (by omega)]
      unfold hb3
      rw [sI_ne (by omega), sI_ne (by omega)]
      exact sI_eq _ _ _ _
    · rw [g3 41 2 (by omega)]
      unfold hb3
      rw [sI_ne (by omega)]
      exact sI_eq _ _ _ _
    · rw [g3 41 3 (by omega)]
      unfold hb3
      exact sI_eq _ _ _ _
    · rw [(g31 31 7 (by omega) (by omega) (by omega) (by omega) (by omega) (by omega)).1]
      unfold hb2 hb1
      rw [sL_1, sI_ne (by omega), sI_ne (by omega), sI_ne (by omega), sI_ne (by omega)]
      exact sI_eq _ _ _ _
    · rw [(g31 31 8 (by omega) (by omega) (by omega) (by omega) (by omega) (by omega)).1]
      unfold hb2 hb1
      rw [sL_1, sI_ne (by omega), sI_ne (by omega), sI_ne (by omega)]
      exact sI_eq _ _ _ _
/-- all STROKES told of are there; else FAULT 4 -/
def fEnd (n w g fx fy : Nat) (F : fl) : fl := if fx < w ∧ fy < g then F else fNote 4 n F
theorem yc_look {B : Nat → Nat} {n w g fx fy : Nat} {F : fl} {h : qm_H} (C : fC B n F h) (e7 : h.1 31 7 = nI fx) (e8 : h.1 31 8 = nI fy) (b : w < 100 ∧ g < 100 ∧ fx < 100 ∧ fy < 100) : ∃ h', qX3_lookForAll 31 (nI w) (nI g) h = some h' ∧ fC B n (fEnd n w g fx fy F) h' ∧ qFr fP h h' := by
  have hn := C.1.1
  have e1 := C.1.2.1
  unfold fEnd
  by_cases q : fx < w ∧ fy < g
  · rw [if_pos q]
    refine ⟨h, ?_, C, qFr.refl _ _⟩
    unfold qX3_lookForAll
    simp (disch := omega) only [↓reduceIte, ↓q_m1, ↓q_m2, k_o, k_0, k_1, k_2, k_3, k_4, k_5, k_6, k_7, k_8, k_9, k_10, k_11, k_16, k_17, k_19, k_20, k_24, k_26, k_27, k_30, k_32, k_33, k_35, k_40, k_43, k_48, k_50, k_57, k_60, k_64, k_81, k_86, k_34, k_66, k_322, k_97, k_99, k_100, k_122, k_128, k_160, k_161, k_255, k_256, k_512, k_580, k_600, k_1000, k_4096, k_far, k_o, nI_add, n_mul, n_sub, n_div, n_rem, n_lt, n_le, n_eq, n_cl, n_and, n_or, n_xor, m1_lt, lt_m1, m1_eq, eq_m1, le_m1, m1_le, m2_eq, up_eq, up_ne, n_shl, n_shr, b2_some, let_e, ob_some, bI_0, bI_a, bI_t, bI_f, if_true, if_false, ite_true, ite_false, true_and, and_true, false_and, and_false, true_or, or_true, false_or, or_false, not_true_eq_false, not_false_eq_true, ite_not, ne_eq, Bool.true_eq_false, Bool.false_eq_true, reduceCtorEq, decide_true, decide_false, Bool.and_true, Bool.and_false, Bool.true_and, Bool.false_and, Bool.or_true, Bool.or_false, Bool.not_true, Bool.not_false, Nat.add_zero, Nat.zero_add, eq_self, Nat.not_lt_zero, Nat.reduceAdd, Nat.reduceMul, Nat.reduceSub, Nat.reduceDiv, Nat.reduceMod, Nat.reduceAnd, Nat.reduceXor, Nat.reduceEqDiff, Nat.reducePow, lt_T, lt_F, le_T, le_F, eq_F, e7, e8]
  · rw [if_neg q]
    obtain ⟨h', b1, b2, b3⟩ := c_note (c := 4) (q := n) C (by omega) (by omega) (by omega)
    refine ⟨h', ?_, b2, b3⟩
    unfold qX3_lookForAll qX3_lookForAll_16
    by_cases q1 : fx < w
    · have q2 : g ≤ fy := by omega
      simp (disch := omega) only [↓reduceIte, ↓q_m1, ↓q_m2, k_o, k_0, k_1, k_2, k_3, k_4, k_5, k_6, k_7, k_8, k_9, k_10, k_11, k_16, k_17, k_19, k_20, k_24, k_26, k_27, k_30, k_32, k_33, k_35, k_40, k_43, k_48, k_50, k_57, k_60, k_64, k_81, k_86, k_34, k_66, k_322, k_97, k_99, k_100, k_122, k_128, k_160, k_161, k_255, k_256, k_512, k_580, k_600, k_1000, k_4096, k_far, k_o, nI_add, n_mul, n_sub, n_div, n_rem, n_lt, n_le, n_eq, n_cl, n_and, n_or, n_xor, m1_lt, lt_m1, m1_eq, eq_m1, le_m1, m1_le, m2_eq, up_eq, up_ne, n_shl, n_shr, b2_some, let_e, ob_some, bI_0, bI_a, bI_t, bI_f, if_true, if_false, ite_true, ite_false, true_and, and_true, false_and, and_false, true_or, or_true, false_or, or_false, not_true_eq_false, not_false_eq_true, ite_not, ne_eq, Bool.true_eq_false, Bool.false_eq_true, reduceCtorEq, decide_true, decide_false, Bool.and_true, Bool.and_false, Bool.true_and, Bool.false_and, Bool.or_true, Bool.or_false, Bool.not_true, Bool.not_false, Nat.add_zero, Nat.zero_add, eq_self, Nat.not_lt_zero, Nat.reduceAdd, Nat.reduceMul, Nat.reduceSub, Nat.reduceDiv, Nat.reduceMod, Nat.reduceAnd, Nat.reduceXor, Nat.reduceEqDiff, Nat.reducePow, lt_T, lt_F, le_T, le_F, eq_F, e7, e8, e1, b1]
    · simp (disch := omega) only [↓reduceIte, ↓q_m1, ↓q_m2, k_o, k_0, k_1, k_2, k_3, k_4, k_5, k_6, k_7, k_8, k_9, k_10, k_11, k_16, k_17, k_19, k_20, k_24, k_26, k_27, k_30, k_32, k_33, k_35, k_40, k_43, k_48, k_50, k_57, k_60, k_64, k_81, k_86, k_34, k_66, k_322, k_97, k_99, k_100, k_122, k_128, k_160, k_161, k_255, k_256, k_512, k_580, k_600, k_1000, k_4096, k_far, k_o, nI_add, n_mul, n_sub, n_div, n_rem, n_lt, n_le, n_eq, n_cl, n_and, n_or, n_xor, m1_lt, lt_m1, m1_eq, eq_m1, le_m1, m1_le, m2_eq, up_eq, up_ne, n_shl, n_shr, b2_some, let_e, ob_some, bI_0, bI_a, bI_t, bI_f, if_true, if_false, ite_true, ite_false, true_and, and_true, false_and, and_false, true_or, or_true, false_or, or_false, not_true_eq_false, not_false_eq_true, ite_not, ne_eq, Bool.true_eq_false, Bool.false_eq_true, reduceCtorEq, decide_true, decide_false, Bool.and_true, Bool.and_false, Bool.true_and, Bool.false_and, Bool.or_true, Bool.or_false, Bool.not_true, Bool.not_false, Nat.add_zero, Nat.zero_add, eq_self, Nat.not_lt_zero, Nat.reduceAdd, Nat.reduceMul, Nat.reduceSub, Nat.reduceDiv, Nat.reduceMod, Nat.reduceAnd, Nat.reduceXor, Nat.reduceEqDiff, Nat.reducePow, lt_T, lt_F, le_T, le_F, eq_F, e7, e8, e1, b1]
/-- the class's reading, any sort -/
theorem c_read {δ : Type} {B : Nat → Nat} {n s : Nat} {Dc : δ → qm_H → Prop} {Ln : fl → δ → fl → δ → Prop} {ln : qm_H → Option qm_H} {d0 : δ} {E : fl → δ → fl} {h : qm_H} (hn : n ≤ 600) (T : ∀ j, j < n → ytB (h.1 2 j) (B j))
    (HL : ∀ F d h, fC B n F h → F.2.1 ≠ 1 → Dc d h → ∃ F' d' h', ln h = some h' ∧ Ln F d F' d' ∧ fC B n F' h' ∧ Dc d' h' ∧ qFr cP h h')
    (HP : ∀ F d F' d', F.1 ≤ n → Ln F d F' d' → F'.2.1 ≠ 1 → tE B n F.1 ≤ F'.1)
    (HF : ∀ d h h', Dc d h → qFr fP h h' → Dc d h')
    (HE : ∀ g i F h, fC B n F h → F.2.1 ≠ 1 → tK B n F.1 ≠ 0 → i < 600 → qX3_read_59 (g + 1) 31 (nI s) (nI i) h = (ln h).bind fun h3 => (qX3_readStop 31 h3).bind fun h1 => qX3_read_59 g 31 (nI s) (nI (i + 1)) h1)
    (H0 : ∀ h, DcB dB0 h → DcY dY0 h → DcP dP0 h → DcK dK0 h → Dc d0 h)
    (HZ : ∀ F d h, fC B n F h → Dc d h → ∃ h', qX3_read_147 31 (nI s) h = some h' ∧ fC B n (E F d) h' ∧ Dc d h' ∧ qFr cP h h') :
    ∃ k F d h', k ≤ 601 ∧ qX3_read 31 (nI s) (nI n) h = some h' ∧ chn (lSt B n Ln) k ((0, 0, 0), d0) (F, d) ∧ (F.2.1 = 1 ∨ tK B n F.1 = 0) ∧ F.1 ≤ n ∧ fC B n (E F d) h' ∧ Dc d h' ∧ qFr cP h h' := by
  obtain ⟨h1, a1, a2, a3, a4, a5, a6, a7⟩ := c_start (s := s) hn T
  obtain ⟨k, F, d, h2, b0, b1, b2, b3, b4, b5, b6⟩ := c_loop hn HL HP HF HE n 0 (0, 0, 0) d0 h1 qm_N (by omega) (by unfold qm_N; omega) (Nat.zero_le _) a2 (H0 h1 a3 a4 a5 a6)
  obtain ⟨h3, c1, c2, c3, c4⟩ := HZ F d h2 b4 b5
  exact ⟨k, F, d, h3, by omega, by rw [a1, b1, c1], b2, b3, b4.2.1, c2, c3, (a7.trans b6).trans c4⟩
