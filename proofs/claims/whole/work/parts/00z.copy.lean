/-! image, again: the reference's copies, the pairs. -/
theorem k_0' : (0 : Int32) = nI 0 := rfl
theorem m_cr_l {n0 a n f t : Nat} {h : qm_H} (hd : n * f + n ≤ n * t ∨ n * t + n ≤ n * f) (hf : n * f + n ≤ n0) (ht : n * t + n ≤ n0) (hn0 : n0 ≤ 3000) : ∀ d i h1 fuel, i + d = n → d < fuel → (∀ k, k < i → h1.1 a (n * t + k) = h.1 a (n * f + k)) → qFr (fun b j => b = a ∧ n * t ≤ j ∧ j < n * t + n) h h1 → ∃ h', qX12_copyRow_3 fuel n0 a (nI n) (nI f) (nI t) (nI i) h1 = some h' ∧ (∀ k, k < n → h'.1 a (n * t + k) = h.1 a (n * f + k)) ∧ qFr (fun b j => b = a ∧ n * t ≤ j ∧ j < n * t + n) h h' := by
  intro d
  induction d with
  | zero =>
    intro i h1 fuel hi hfu I F
    obtain ⟨g, rfl⟩ : ∃ g, fuel = g + 1 := ⟨fuel - 1, by omega⟩
    refine ⟨h1, ?_, fun k hk => I k (by omega), F⟩
    unfold qX12_copyRow_3
    simp (disch := omega) only [↓reduceIte, ↓q_m1, ↓q_m2, k_o, k_0, k_1, k_2, k_3, k_4, k_5, k_6, k_7, k_8, k_9, k_10, k_11, k_16, k_17, k_19, k_20, k_24, k_26, k_27, k_30, k_32, k_33, k_35, k_40, k_43, k_48, k_50, k_57, k_60, k_64, k_81, k_86, k_34, k_66, k_322, k_97, k_99, k_100, k_122, k_128, k_160, k_161, k_255, k_256, k_512, k_580, k_600, k_1000, k_4096, k_far, k_o, nI_add, n_mul, n_sub, n_div, n_rem, n_lt, n_le, n_eq, n_cl, n_and, n_or, n_xor, m1_lt, lt_m1, m1_eq, eq_m1, le_m1, m1_le, m2_eq, up_eq, up_ne, n_shl, n_shr, b2_some, let_e, ob_some, bI_0, bI_a, bI_t, bI_f, if_true, if_false, ite_true, ite_false, true_and, and_true, false_and, and_false, true_or, or_true, false_or, or_false, not_true_eq_false, not_false_eq_true, ite_not, ne_eq, Bool.true_eq_false, Bool.false_eq_true, reduceCtorEq, decide_true, decide_false, Bool.and_true, Bool.and_false, Bool.true_and, Bool.false_and, Bool.or_true, Bool.or_false, Bool.not_true, Bool.not_false, Nat.add_zero, Nat.zero_add, eq_self, Nat.not_lt_zero, Nat.reduceAdd, Nat.reduceMul, Nat.reduceSub, Nat.reduceDiv, Nat.reduceMod, Nat.reduceAnd, Nat.reduceXor, Nat.reduceEqDiff, Nat.reducePow, lt_T, lt_F, le_T, le_F, eq_F]
  | succ d ih =>
    intro i h1 fuel hi hfu I F
    obtain ⟨g, rfl⟩ : ∃ g, fuel = g + 1 := ⟨fuel - 1, by omega⟩
    obtain ⟨h', e1, e2, e3⟩ := ih (i + 1) (qm_seti h1 a (n * t + i) (h1.1 a (n * f + i))) g (by omega) (by omega) (fun k hk => by
      by_cases z : k = i
      · subst z
        rw [sI_eq, (F a (n * f + k) (by omega)).1]
      · rw [sI_ne (by omega)]
        exact I k (by omega)) (F.trans (qFr.seti ⟨rfl, by omega, by omega⟩))
    refine ⟨h', ?_, e2, e3⟩
    unfold qX12_copyRow_3
    simp (disch := omega) only [↓reduceIte, ↓q_m1, ↓q_m2, k_o, k_0, k_1, k_2, k_3, k_4, k_5, k_6, k_7, k_8, k_9, k_10, k_11, k_16, k_17, k_19, k_20, k_24, k_26, k_27, k_30, k_32, k_33, k_35, k_40, k_43, k_48, k_50, k_57, k_60, k_64, k_81, k_86, k_34, k_66, k_322, k_97, k_99, k_100, k_122, k_128, k_160, k_161, k_255, k_256, k_512, k_580, k_600, k_1000, k_4096, k_far, k_o, nI_add, n_mul, n_sub, n_div, n_rem, n_lt, n_le, n_eq, n_cl, n_and, n_or, n_xor, m1_lt, lt_m1, m1_eq, eq_m1, le_m1, m1_le, m2_eq, up_eq, up_ne, n_shl, n_shr, b2_some, let_e, ob_some, bI_0, bI_a, bI_t, bI_f, if_true, if_false, ite_true, ite_false, true_and, and_true, false_and, and_false, true_or, or_true, false_or, or_false, not_true_eq_false, not_false_eq_true, ite_not, ne_eq, Bool.true_eq_false, Bool.false_eq_true, reduceCtorEq, decide_true, decide_false, Bool.and_true, Bool.and_false, Bool.true_and, Bool.false_and, Bool.or_true, Bool.or_false, Bool.not_true, Bool.not_false, Nat.add_zero, Nat.zero_add, eq_self, Nat.not_lt_zero, Nat.reduceAdd, Nat.reduceMul, Nat.reduceSub, Nat.reduceDiv, Nat.reduceMod, Nat.reduceAnd, Nat.reduceXor, Nat.reduceEqDiff, Nat.reducePow, lt_T, lt_F, le_T, le_F, eq_F]
    exact e1
theorem m_cr {n0 a n f t : Nat} (h : qm_H) (hd : n * f + n ≤ n * t ∨ n * t + n ≤ n * f) (hf : n * f + n ≤ n0) (ht : n * t + n ≤ n0) (hn0 : n0 ≤ 3000) (hn : n < 3000) : ∃ h', qX12_copyRow n0 a (nI n) (nI f) (nI t) h = some h' ∧ (∀ k, k < n → h'.1 a (n * t + k) = h.1 a (n * f + k)) ∧ qFr (fun b j => b = a ∧ n * t ≤ j ∧ j < n * t + n) h h' := by
  unfold qX12_copyRow
  exact m_cr_l hd hf ht hn0 n 0 h qm_N (by omega) (by unfold qm_N; omega) (fun k hk => absurd hk (Nat.not_lt_zero k)) (qFr.refl _ _)
theorem byte_id {x : Int32} (h : fits .byte (.int x) = true) : vp_nar .byte x = x := by
  have h' : (decide ((-128 : Int32) ≤ x) && decide (x ≤ 127)) = true := h
  rw [Bool.and_eq_true] at h'
  have h1 := Int32.le_iff_toInt_le.mp (of_decide_eq_true h'.1)
  have h2 := Int32.le_iff_toInt_le.mp (of_decide_eq_true h'.2)
  rw [vp_nar_byte]
  have e1 : (-128 : Int32).toInt = -128 := rfl
  have e2 : (127 : Int32).toInt = 127 := rfl
  exact fb_byte (by omega) (by omega)
/-- the reference's slot s -/
def slM (s b j : Nat) : Prop := (b = 63 ∧ 600 * s ≤ j ∧ j < 600 * s + 600) ∨ ((b = 64 ∨ b = 65 ∨ b = 66) ∧ j = s) ∨ (b = 67 ∧ 4 * s ≤ j ∧ j < 4 * s + 4) ∨ (b = 68 ∧ 86 * s ≤ j ∧ j < 86 * s + 86) ∨ (b = 69 ∧ 322 * s ≤ j ∧ j < 322 * s + 322) ∨ (b = 70 ∧ 34 * s ≤ j ∧ j < 34 * s + 34) ∨ (b = 71 ∧ 66 * s ≤ j ∧ j < 66 * s + 66)
theorem m_ca_l {f t : Nat} {h : qm_H} (hd : f < t ∨ t < f) (hf : f < 4) (ht : t < 4) (hb : ∀ j, j < 600 → fits .byte (.int (h.1 63 (600 * f + j))) = true) : ∀ d i h1 fuel, i + d = 600 → d < fuel → (∀ k, k < i → h1.1 63 (600 * t + k) = h.1 63 (600 * f + k)) → qFr (fun b j => b = 63 ∧ 600 * t ≤ j ∧ j < 600 * t + 600) h h1 → ∃ h', qX12_copyAll_2 fuel 62 (nI f) (nI t) (nI i) h1 = some h' ∧ cpM f t h h' ∧ qFr (slM t) h h' := by
  intro d
  induction d with
  | zero =>
    intro i h1 fuel hi hfu I F
    obtain ⟨g, rfl⟩ : ∃ g, fuel = g + 1 := ⟨fuel - 1, by omega⟩
    obtain ⟨h2, e2, a2, f2⟩ := m_cr (n0 := 4) (a := 64) (n := 1) (f := f) (t := t) h1 (by omega) (by omega) (by omega) (by omega) (by omega)
    obtain ⟨h3, e3, a3, f3⟩ := m_cr (n0 := 4) (a := 65) (n := 1) (f := f) (t := t) h2 (by omega) (by omega) (by omega) (by omega) (by omega)
    obtain ⟨h4, e4, a4, f4⟩ := m_cr (n0 := 4) (a := 66) (n := 1) (f := f) (t := t) h3 (by omega) (by omega) (by omega) (by omega) (by omega)
    obtain ⟨h5, e5, a5, f5⟩ := m_cr (n0 := 16) (a := 67) (n := 4) (f := f) (t := t) h4 (by omega) (by omega) (by omega) (by omega) (by omega)
    obtain ⟨h6, e6, a6, f6⟩ := m_cr (n0 := 344) (a := 68) (n := 86) (f := f) (t := t) h5 (by omega) (by omega) (by omega) (by omega) (by omega)
    obtain ⟨h7, e7, a7, f7⟩ := m_cr (n0 := 1288) (a := 69) (n := 322) (f := f) (t := t) h6 (by omega) (by omega) (by omega) (by omega) (by omega)
    obtain ⟨h8, e8, a8, f8⟩ := m_cr (n0 := 136) (a := 70) (n := 34) (f := f) (t := t) h7 (by omega) (by omega) (by omega) (by omega) (by omega)
    obtain ⟨h9, e9, a9, f9⟩ := m_cr (n0 := 264) (a := 71) (n := 66) (f := f) (t := t) h8 (by omega) (by omega) (by omega) (by omega) (by omega)
    refine ⟨h9, ?_, ⟨fun k hk => ?_, ?_, ?_, ?_, fun k hk => ?_, fun k hk => ?_, fun k hk => ?_, fun k hk => ?_, fun k hk => ?_⟩, ?_⟩
    · unfold qX12_copyAll_2
      simp (disch := omega) only [↓reduceIte, ↓q_m1, ↓q_m2, k_o, k_0, k_1, k_2, k_3, k_4, k_5, k_6, k_7, k_8, k_9, k_10, k_11, k_16, k_17, k_19, k_20, k_24, k_26, k_27, k_30, k_32, k_33, k_35, k_40, k_43, k_48, k_50, k_57, k_60, k_64, k_81, k_86, k_34, k_66, k_322, k_97, k_99, k_100, k_122, k_128, k_160, k_161, k_255, k_256, k_512, k_580, k_600, k_1000, k_4096, k_far, k_o, nI_add, n_mul, n_sub, n_div, n_rem, n_lt, n_le, n_eq, n_cl, n_and, n_or, n_xor, m1_lt, lt_m1, m1_eq, eq_m1, le_m1, m1_le, m2_eq, up_eq, up_ne, n_shl, n_shr, b2_some, let_e, ob_some, bI_0, bI_a, bI_t, bI_f, if_true, if_false, ite_true, ite_false, true_and, and_true, false_and, and_false, true_or, or_true, false_or, or_false, not_true_eq_false, not_false_eq_true, ite_not, ne_eq, Bool.true_eq_false, Bool.false_eq_true, reduceCtorEq, decide_true, decide_false, Bool.and_true, Bool.and_false, Bool.true_and, Bool.false_and, Bool.or_true, Bool.or_false, Bool.not_true, Bool.not_false, Nat.add_zero, Nat.zero_add, eq_self, Nat.not_lt_zero, Nat.reduceAdd, Nat.reduceMul, Nat.reduceSub, Nat.reduceDiv, Nat.reduceMod, Nat.reduceAnd, Nat.reduceXor, Nat.reduceEqDiff, Nat.reducePow, lt_T, lt_F, le_T, le_F, eq_F, e2, e3, e4, e5, e6, e7, e8, e9]
    · rw [(f9 _ _ (by omega)).1, (f8 _ _ (by omega)).1, (f7 _ _ (by omega)).1, (f6 _ _ (by omega)).1, (f5 _ _ (by omega)).1, (f4 _ _ (by omega)).1, (f3 _ _ (by omega)).1, (f2 _ _ (by omega)).1]
      exact I k (by omega)
    · have := a2 0 (by omega)
      rw [Nat.one_mul, Nat.one_mul, Nat.add_zero, Nat.add_zero] at this
      rw [(f9 _ _ (by omega)).1, (f8 _ _ (by omega)).1, (f7 _ _ (by omega)).1, (f6 _ _ (by omega)).1, (f5 _ _ (by omega)).1, (f4 _ _ (by omega)).1, (f3 _ _ (by omega)).1, this, (F _ _ (by omega)).1]
    · have := a3 0 (by omega)
      rw [Nat.one_mul, Nat.one_mul, Nat.add_zero, Nat.add_zero] at this
      rw [(f9 _ _ (by omega)).1, (f8 _ _ (by omega)).1, (f7 _ _ (by omega)).1, (f6 _ _ (by omega)).1, (f5 _ _ (by omega)).1, (f4 _ _ (by omega)).1, this, (f2 _ _ (by omega)).1, (F _ _ (by omega)).1]
    · have := a4 0 (by omega)
      rw [Nat.one_mul, Nat.one_mul, Nat.add_zero, Nat.add_zero] at this
      rw [(f9 _ _ (by omega)).1, (f8 _ _ (by omega)).1, (f7 _ _ (by omega)).1, (f6 _ _ (by omega)).1, (f5 _ _ (by omega)).1, this, (f3 _ _ (by omega)).1, (f2 _ _ (by omega)).1, (F _ _ (by omega)).1]
    · rw [(f9 _ _ (by omega)).1, (f8 _ _ (by omega)).1, (f7 _ _ (by omega)).1, (f6 _ _ (by omega)).1, a5 k hk, (f4 _ _ (by omega)).1, (f3 _ _ (by omega)).1, (f2 _ _ (by omega)).1, (F _ _ (by omega)).1]
    · rw [(f9 _ _ (by omega)).1, (f8 _ _ (by omega)).1, (f7 _ _ (by omega)).1, a6 k hk, (f5 _ _ (by omega)).1, (f4 _ _ (by omega)).1, (f3 _ _ (by omega)).1, (f2 _ _ (by omega)).1, (F _ _ (by omega)).1]
    · rw [(f9 _ _ (by omega)).1, (f8 _ _ (by omega)).1, a7 k hk, (f6 _ _ (by omega)).1, (f5 _ _ (by omega)).1, (f4 _ _ (by omega)).1, (f3 _ _ (by omega)).1, (f2 _ _ (by omega)).1, (F _ _ (by omega)).1]
    · rw [(f9 _ _ (by omega)).1, a8 k hk, (f7 _ _ (by omega)).1, (f6 _ _ (by omega)).1, (f5 _ _ (by omega)).1, (f4 _ _ (by omega)).1, (f3 _ _ (by omega)).1, (f2 _ _ (by omega)).1, (F _ _ (by omega)).1]
    · rw [a9 k hk, (f8 _ _ (by omega)).1, (f7 _ _ (by omega)).1, (f6 _ _ (by omega)).1, (f5 _ _ (by omega)).1, (f4 _ _ (by omega)).1, (f3 _ _ (by omega)).1, (f2 _ _ (by omega)).1, (F _ _ (by omega)).1]
    · refine ((((((((F.mono ?_).trans (f2.mono ?_)).trans (f3.mono ?_)).trans (f4.mono ?_)).trans (f5.mono ?_)).trans (f6.mono ?_)).trans (f7.mono ?_)).trans (f8.mono ?_)).trans (f9.mono ?_)
      all_goals (intro b j z; unfold slM; omega)
  | succ d ih =>
    intro i h1 fuel hi hfu I F
    obtain ⟨g, rfl⟩ : ∃ g, fuel = g + 1 := ⟨fuel - 1, by omega⟩
    have hv : h1.1 63 (600 * f + i) = h.1 63 (600 * f + i) := (F _ _ (by omega)).1
    obtain ⟨h', e1, e2, e3⟩ := ih (i + 1) (qm_seti h1 63 (600 * t + i) (h.1 63 (600 * f + i))) g (by omega) (by omega) (fun k hk => by
      by_cases z : k = i
      · subst z
        rw [sI_eq]
      · rw [sI_ne (by omega)]
        exact I k (by omega)) (F.trans (qFr.seti ⟨rfl, by omega, by omega⟩))
    refine ⟨h', ?_, e2, e3⟩
    unfold qX12_copyAll_2
    simp (disch := omega) only [↓reduceIte, ↓q_m1, ↓q_m2, k_o, k_0, k_1, k_2, k_3, k_4, k_5, k_6, k_7, k_8, k_9, k_10, k_11, k_16, k_17, k_19, k_20, k_24, k_26, k_27, k_30, k_32, k_33, k_35, k_40, k_43, k_48, k_50, k_57, k_60, k_64, k_81, k_86, k_34, k_66, k_322, k_97, k_99, k_100, k_122, k_128, k_160, k_161, k_255, k_256, k_512, k_580, k_600, k_1000, k_4096, k_far, k_o, nI_add, n_mul, n_sub, n_div, n_rem, n_lt, n_le, n_eq, n_cl, n_and, n_or, n_xor, m1_lt, lt_m1, m1_eq, eq_m1, le_m1, m1_le, m2_eq, up_eq, up_ne, n_shl, n_shr, b2_some, let_e, ob_some, bI_0, bI_a, bI_t, bI_f, if_true, if_false, ite_true, ite_false, true_and, and_true, false_and, and_false, true_or, or_true, false_or, or_false, not_true_eq_false, not_false_eq_true, ite_not, ne_eq, Bool.true_eq_false, Bool.false_eq_true, reduceCtorEq, decide_true, decide_false, Bool.and_true, Bool.and_false, Bool.true_and, Bool.false_and, Bool.or_true, Bool.or_false, Bool.not_true, Bool.not_false, Nat.add_zero, Nat.zero_add, eq_self, Nat.not_lt_zero, Nat.reduceAdd, Nat.reduceMul, Nat.reduceSub, Nat.reduceDiv, Nat.reduceMod, Nat.reduceAnd, Nat.reduceXor, Nat.reduceEqDiff, Nat.reducePow, lt_T, lt_F, le_T, le_F, eq_F, hv, byte_id (hb i (by omega))]
    exact e1
theorem m_copyAll {f t : Nat} {h : qm_H} (hd : f < t ∨ t < f) (hf : f < 4) (ht : t < 4) (hb : ∀ j, j < 600 → fits .byte (.int (h.1 63 (600 * f + j))) = true) : ∃ h', qX12_copyAll 62 (nI f) (nI t) h = some h' ∧ cpM f t h h' ∧ qFr (slM t) h h' := by
  unfold qX12_copyAll
  exact m_ca_l hd hf ht hb 600 0 h qm_N (by omega) (by unfold qm_N; omega) (fun k hk => absurd hk (Nat.not_lt_zero k)) (qFr.refl _ _)
theorem cpd_lt {δ k : Nat} (h : cpd δ k) : δ < 29 ∧ δ ≠ 10 ∧ δ ≠ 21 := by
  rcases h with h | h | h | ⟨i, hi, h⟩
  · omega
  · omega
  · omega
  · omega
theorem cpC.same {t : Nat} {h h' : qm_H} (e : ∀ a k, t ≤ a → a < t + 29 → a ≠ t + 10 → a ≠ t + 21 → h'.1 a k = h.1 a k ∧ h'.2 a k = h.2 a k) : cpC t t h h' := by
  refine ⟨fun δ k z => ?_, fun i hi => ?_⟩
  · have := cpd_lt z
    exact (e _ _ (by omega) (by omega) (by omega) (by omega)).1
  · exact (e _ _ (by omega) (by omega) (by omega) (by omega)).2
theorem cpM.same {s : Nat} {h h' : qm_H} (e : ∀ b j, slM s b j → h'.1 b j = h.1 b j) : cpM s s h h' := by
  refine ⟨fun k hk => e _ _ ?_, e _ _ ?_, e _ _ ?_, e _ _ ?_, fun k hk => e _ _ ?_, fun k hk => e _ _ ?_, fun k hk => e _ _ ?_, fun k hk => e _ _ ?_, fun k hk => e _ _ ?_⟩
  all_goals (unfold slM; omega)
theorem P_31 : ∀ h, qR h → ∀ x1 : Int32, ∃ (r : Int32) (h1 h2 : qm_H), qX11_again 0 x1 h = some (r, h1) ∧ qX12_again 62 x1 h1 = some (r, h2) ∧ qR h2 := by
  intro h R x
  rcases i_cases x with hx | ⟨k, hk, rfl⟩
  · refine ⟨nI 0, h, qm_seti h 62 0 (nI 0), ?_, ?_, R.mvm (em0 h)⟩
    · unfold qX11_again
      simp (disch := omega) only [↓reduceIte, ↓q_m1, ↓q_m2, k_o, k_0, k_1, k_2, k_3, k_4, k_5, k_6, k_7, k_8, k_9, k_10, k_11, k_16, k_17, k_19, k_20, k_24, k_26, k_27, k_30, k_32, k_33, k_35, k_40, k_43, k_48, k_50, k_57, k_60, k_64, k_81, k_86, k_34, k_66, k_322, k_97, k_99, k_100, k_122, k_128, k_160, k_161, k_255, k_256, k_512, k_580, k_600, k_1000, k_4096, k_far, k_o, nI_add, n_mul, n_sub, n_div, n_rem, n_lt, n_le, n_eq, n_cl, n_and, n_or, n_xor, m1_lt, lt_m1, m1_eq, eq_m1, le_m1, m1_le, m2_eq, up_eq, up_ne, n_shl, n_shr, b2_some, let_e, ob_some, bI_0, bI_a, bI_t, bI_f, if_true, if_false, ite_true, ite_false, true_and, and_true, false_and, and_false, true_or, or_true, false_or, or_false, not_true_eq_false, not_false_eq_true, ite_not, ne_eq, Bool.true_eq_false, Bool.false_eq_true, reduceCtorEq, decide_true, decide_false, Bool.and_true, Bool.and_false, Bool.true_and, Bool.false_and, Bool.or_true, Bool.or_false, Bool.not_true, Bool.not_false, Nat.add_zero, Nat.zero_add, eq_self, Nat.not_lt_zero, Nat.reduceAdd, Nat.reduceMul, Nat.reduceSub, Nat.reduceDiv, Nat.reduceMod, Nat.reduceAnd, Nat.reduceXor, Nat.reduceEqDiff, Nat.reducePow, lt_T, lt_F, le_T, le_F, eq_F, ng_lt hx]
    · unfold qX12_again
      simp (disch := omega) only [↓reduceIte, ↓q_m1, ↓q_m2, k_o, k_0, k_1, k_2, k_3, k_4, k_5, k_6, k_7, k_8, k_9, k_10, k_11, k_16, k_17, k_19, k_20, k_24, k_26, k_27, k_30, k_32, k_33, k_35, k_40, k_43, k_48, k_50, k_57, k_60, k_64, k_81, k_86, k_34, k_66, k_322, k_97, k_99, k_100, k_122, k_128, k_160, k_161, k_255, k_256, k_512, k_580, k_600, k_1000, k_4096, k_far, k_o, nI_add, n_mul, n_sub, n_div, n_rem, n_lt, n_le, n_eq, n_cl, n_and, n_or, n_xor, m1_lt, lt_m1, m1_eq, eq_m1, le_m1, m1_le, m2_eq, up_eq, up_ne, n_shl, n_shr, b2_some, let_e, ob_some, bI_0, bI_a, bI_t, bI_f, if_true, if_false, ite_true, ite_false, true_and, and_true, false_and, and_false, true_or, or_true, false_or, or_false, not_true_eq_false, not_false_eq_true, ite_not, ne_eq, Bool.true_eq_false, Bool.false_eq_true, reduceCtorEq, decide_true, decide_false, Bool.and_true, Bool.and_false, Bool.true_and, Bool.false_and, Bool.or_true, Bool.or_false, Bool.not_true, Bool.not_false, Nat.add_zero, Nat.zero_add, eq_self, Nat.not_lt_zero, Nat.reduceAdd, Nat.reduceMul, Nat.reduceSub, Nat.reduceDiv, Nat.reduceMod, Nat.reduceAnd, Nat.reduceXor, Nat.reduceEqDiff, Nat.reducePow, lt_T, lt_F, le_T, le_F, eq_F, m_in, ng_le hx]
  · by_cases q : k < 3
    · rcases R.2.1 k q with ⟨z1, z2⟩ | ⟨z1, z2, S⟩
      · refine ⟨nI 0, h, qm_seti h 62 0 (nI 0), ?_, ?_, R.mvm (em0 h)⟩
        · rw [k_0] at z1
          unfold qX11_again
          simp (disch := omega) only [↓reduceIte, ↓q_m1, ↓q_m2, k_o, k_0, k_1, k_2, k_3, k_4, k_5, k_6, k_7, k_8, k_9, k_10, k_11, k_16, k_17, k_19, k_20, k_24, k_26, k_27, k_30, k_32, k_33, k_35, k_40, k_43, k_48, k_50, k_57, k_60, k_64, k_81, k_86, k_34, k_66, k_322, k_97, k_99, k_100, k_122, k_128, k_160, k_161, k_255, k_256, k_512, k_580, k_600, k_1000, k_4096, k_far, k_o, nI_add, n_mul, n_sub, n_div, n_rem, n_lt, n_le, n_eq, n_cl, n_and, n_or, n_xor, m1_lt, lt_m1, m1_eq, eq_m1, le_m1, m1_le, m2_eq, up_eq, up_ne, n_shl, n_shr, b2_some, let_e, ob_some, bI_0, bI_a, bI_t, bI_f, if_true, if_false, ite_true, ite_false, true_and, and_true, false_and, and_false, true_or, or_true, false_or, or_false, not_true_eq_false, not_false_eq_true, ite_not, ne_eq, Bool.true_eq_false, Bool.false_eq_true, reduceCtorEq, decide_true, decide_false, Bool.and_true, Bool.and_false, Bool.true_and, Bool.false_and, Bool.or_true, Bool.or_false, Bool.not_true, Bool.not_false, Nat.add_zero, Nat.zero_add, eq_self, Nat.not_lt_zero, Nat.reduceAdd, Nat.reduceMul, Nat.reduceSub, Nat.reduceDiv, Nat.reduceMod, Nat.reduceAnd, Nat.reduceXor, Nat.reduceEqDiff, Nat.reducePow, lt_T, lt_F, le_T, le_F, eq_F, z1]
        · rw [k_0] at z2
          unfold qX12_again
          simp (disch := omega) only [↓reduceIte, ↓q_m1, ↓q_m2, k_o, k_0, k_1, k_2, k_3, k_4, k_5, k_6, k_7, k_8, k_9, k_10, k_11, k_16, k_17, k_19, k_20, k_24, k_26, k_27, k_30, k_32, k_33, k_35, k_40, k_43, k_48, k_50, k_57, k_60, k_64, k_81, k_86, k_34, k_66, k_322, k_97, k_99, k_100, k_122, k_128, k_160, k_161, k_255, k_256, k_512, k_580, k_600, k_1000, k_4096, k_far, k_o, nI_add, n_mul, n_sub, n_div, n_rem, n_lt, n_le, n_eq, n_cl, n_and, n_or, n_xor, m1_lt, lt_m1, m1_eq, eq_m1, le_m1, m1_le, m2_eq, up_eq, up_ne, n_shl, n_shr, b2_some, let_e, ob_some, bI_0, bI_a, bI_t, bI_f, if_true, if_false, ite_true, ite_false, true_and, and_true, false_and, and_false, true_or, or_true, false_or, or_false, not_true_eq_false, not_false_eq_true, ite_not, ne_eq, Bool.true_eq_false, Bool.false_eq_true, reduceCtorEq, decide_true, decide_false, Bool.and_true, Bool.and_false, Bool.true_and, Bool.false_and, Bool.or_true, Bool.or_false, Bool.not_true, Bool.not_false, Nat.add_zero, Nat.zero_add, eq_self, Nat.not_lt_zero, Nat.reduceAdd, Nat.reduceMul, Nat.reduceSub, Nat.reduceDiv, Nat.reduceMod, Nat.reduceAnd, Nat.reduceXor, Nat.reduceEqDiff, Nat.reducePow, lt_T, lt_F, le_T, le_F, eq_F, m_in, z2]
      · have hb := S.2.choose_spec.2.2.2.2.2
        have hf := fun j hj => (S.1.2.2.2 j hj).2
        obtain ⟨h1, e1, f1, c1⟩ := c_take (t1 := 1000 * (k + 1)) (t0 := 1) (h := h) (by omega) hb hf
        have hm : ∀ j, j < 600 → fits .byte (.int ((qm_seti h1 62 0 (nI 0)).1 63 (600 * (k + 1) + j))) = true := fun j hj => by
          rw [sI_ne (by omega), (f1 63 _ (by unfold bk; omega)).1, ← (S.1.2.2.2 j hj).1]
          exact hf j hj
        obtain ⟨h2, e2, c2, f2⟩ := m_copyAll (f := k + 1) (t := 0) (h := qm_seti h1 62 0 (nI 0)) (by omega) (by omega) (by omega) hm
        have z3 : h1.1 87 k = nI 1 := by rw [(f1 87 k (by unfold bk; omega)).1]; exact z2
        have fr : ∀ a j, ¬ bk 1 a j → ¬ (a = 62 ∧ j = 0) → ¬ slM 0 a j → h2.1 a j = h.1 a j ∧ h2.2 a j = h.2 a j := fun a j h1' h2' h3' => by
          have g := f2 a j h3'
          refine ⟨?_, g.2.trans (f1 a j h1').2⟩
          rw [g.1, sI_ne h2']
          exact (f1 a j h1').1
        refine ⟨nI 1, h1, h2, ?_, ?_, ?_, fun j hj => ?_, ?_⟩
        · have z1' : ¬ h.1 30 k = nI 0 := z1
          unfold qX11_again
          simp (disch := omega) only [↓reduceIte, ↓q_m1, ↓q_m2, k_o, k_0, k_1, k_2, k_3, k_4, k_5, k_6, k_7, k_8, k_9, k_10, k_11, k_16, k_17, k_19, k_20, k_24, k_26, k_27, k_30, k_32, k_33, k_35, k_40, k_43, k_48, k_50, k_57, k_60, k_64, k_81, k_86, k_34, k_66, k_322, k_97, k_99, k_100, k_122, k_128, k_160, k_161, k_255, k_256, k_512, k_580, k_600, k_1000, k_4096, k_far, k_o, nI_add, n_mul, n_sub, n_div, n_rem, n_lt, n_le, n_eq, n_cl, n_and, n_or, n_xor, m1_lt, lt_m1, m1_eq, eq_m1, le_m1, m1_le, m2_eq, up_eq, up_ne, n_shl, n_shr, b2_some, let_e, ob_some, bI_0, bI_a, bI_t, bI_f, if_true, if_false, ite_true, ite_false, true_and, and_true, false_and, and_false, true_or, or_true, false_or, or_false, not_true_eq_false, not_false_eq_true, ite_not, ne_eq, Bool.true_eq_false, Bool.false_eq_true, reduceCtorEq, decide_true, decide_false, Bool.and_true, Bool.and_false, Bool.true_and, Bool.false_and, Bool.or_true, Bool.or_false, Bool.not_true, Bool.not_false, Nat.add_zero, Nat.zero_add, eq_self, Nat.not_lt_zero, Nat.reduceAdd, Nat.reduceMul, Nat.reduceSub, Nat.reduceDiv, Nat.reduceMod, Nat.reduceAnd, Nat.reduceXor, Nat.reduceEqDiff, Nat.reducePow, lt_T, lt_F, le_T, le_F, eq_F, z1', e1]
        · unfold qX12_again
          simp (disch := omega) only [↓reduceIte, ↓q_m1, ↓q_m2, k_o, k_0, k_1, k_2, k_3, k_4, k_5, k_6, k_7, k_8, k_9, k_10, k_11, k_16, k_17, k_19, k_20, k_24, k_26, k_27, k_30, k_32, k_33, k_35, k_40, k_43, k_48, k_50, k_57, k_60, k_64, k_81, k_86, k_34, k_66, k_322, k_97, k_99, k_100, k_122, k_128, k_160, k_161, k_255, k_256, k_512, k_580, k_600, k_1000, k_4096, k_far, k_o, nI_add, n_mul, n_sub, n_div, n_rem, n_lt, n_le, n_eq, n_cl, n_and, n_or, n_xor, m1_lt, lt_m1, m1_eq, eq_m1, le_m1, m1_le, m2_eq, up_eq, up_ne, n_shl, n_shr, b2_some, let_e, ob_some, bI_0, bI_a, bI_t, bI_f, if_true, if_false, ite_true, ite_false, true_and, and_true, false_and, and_false, true_or, or_true, false_or, or_false, not_true_eq_false, not_false_eq_true, ite_not, ne_eq, Bool.true_eq_false, Bool.false_eq_true, reduceCtorEq, decide_true, decide_false, Bool.and_true, Bool.and_false, Bool.true_and, Bool.false_and, Bool.or_true, Bool.or_false, Bool.not_true, Bool.not_false, Nat.add_zero, Nat.zero_add, eq_self, Nat.not_lt_zero, Nat.reduceAdd, Nat.reduceMul, Nat.reduceSub, Nat.reduceDiv, Nat.reduceMod, Nat.reduceAnd, Nat.reduceXor, Nat.reduceEqDiff, Nat.reducePow, lt_T, lt_F, le_T, le_F, eq_F, m_in, z3, e2]
        · refine S.copy (h' := h2) ⟨fun δ kk z => ?_, fun i hi => ?_⟩ ?_
          · have y := cpd_lt z
            rw [(f2 _ _ (by unfold slM; omega)).1, sI_ne (by omega)]
            exact c1.1 δ kk z
          · rw [(f2 _ _ (by unfold slM; omega)).2]
            exact c1.2 i hi
          · have base : cpM (k + 1) (k + 1) h (qm_seti h1 62 0 (nI 0)) := cpM.same (fun b j z => by
              have : b ≠ 62 ∧ 63 ≤ b := by unfold slM at z; omega
              rw [sI_ne (by omega), (f1 b j (by unfold bk; omega)).1])
            obtain ⟨p1, p2, p3, p4, p5, p6, p7, p8, p9⟩ := base
            obtain ⟨q1, q2, q3, q4, q5, q6, q7, q8, q9⟩ := c2
            exact ⟨fun r hr => (q1 r hr).trans (p1 r hr), q2.trans p2, q3.trans p3, q4.trans p4, fun r hr => (q5 r hr).trans (p5 r hr), fun r hr => (q6 r hr).trans (p6 r hr), fun r hr => (q7 r hr).trans (p7 r hr), fun r hr => (q8 r hr).trans (p8 r hr), fun r hr => (q9 r hr).trans (p9 r hr)⟩
        · have g30 := (fr 30 j (by unfold bk; omega) (by omega) (by unfold slM; omega)).1
          have g87 := (fr 87 j (by unfold bk; omega) (by omega) (by unfold slM; omega)).1
          rw [g30, g87]
          rcases R.2.1 j hj with w | ⟨w1, w2, w3⟩
          · exact Or.inl w
          · refine Or.inr ⟨w1, w2, w3.copy (cpC.same (fun a kk h1' h2' _ _ => fr a kk (by unfold bk; omega) (by omega) (by unfold slM; omega))) (cpM.same (fun b jj z => (fr b jj ?_ ?_ ?_).1))⟩
            · unfold slM at z; unfold bk; omega
            · unfold slM at z; omega
            · unfold slM at z ⊢; omega
        · exact R.2.2.mv (fun a kk z => (fr a kk (by unfold bk; omega) (by omega) (by unfold slM; omega)).1)
    · refine ⟨nI 0, h, qm_seti h 62 0 (nI 0), ?_, ?_, R.mvm (em0 h)⟩
      · unfold qX11_again
        simp (disch := omega) only [↓reduceIte, ↓q_m1, ↓q_m2, k_o, k_0, k_1, k_2, k_3, k_4, k_5, k_6, k_7, k_8, k_9, k_10, k_11, k_16, k_17, k_19, k_20, k_24, k_26, k_27, k_30, k_32, k_33, k_35, k_40, k_43, k_48, k_50, k_57, k_60, k_64, k_81, k_86, k_34, k_66, k_322, k_97, k_99, k_100, k_122, k_128, k_160, k_161, k_255, k_256, k_512, k_580, k_600, k_1000, k_4096, k_far, k_o, nI_add, n_mul, n_sub, n_div, n_rem, n_lt, n_le, n_eq, n_cl, n_and, n_or, n_xor, m1_lt, lt_m1, m1_eq, eq_m1, le_m1, m1_le, m2_eq, up_eq, up_ne, n_shl, n_shr, b2_some, let_e, ob_some, bI_0, bI_a, bI_t, bI_f, if_true, if_false, ite_true, ite_false, true_and, and_true, false_and, and_false, true_or, or_true, false_or, or_false, not_true_eq_false, not_false_eq_true, ite_not, ne_eq, Bool.true_eq_false, Bool.false_eq_true, reduceCtorEq, decide_true, decide_false, Bool.and_true, Bool.and_false, Bool.true_and, Bool.false_and, Bool.or_true, Bool.or_false, Bool.not_true, Bool.not_false, Nat.add_zero, Nat.zero_add, eq_self, Nat.not_lt_zero, Nat.reduceAdd, Nat.reduceMul, Nat.reduceSub, Nat.reduceDiv, Nat.reduceMod, Nat.reduceAnd, Nat.reduceXor, Nat.reduceEqDiff, Nat.reducePow, lt_T, lt_F, le_T, le_F, eq_F]
      · unfold qX12_again
        simp (disch := omega) only [↓reduceIte, ↓q_m1, ↓q_m2, k_o, k_0, k_1, k_2, k_3, k_4, k_5, k_6, k_7, k_8, k_9, k_10, k_11, k_16, k_17, k_19, k_20, k_24, k_26, k_27, k_30, k_32, k_33, k_35, k_40, k_43, k_48, k_50, k_57, k_60, k_64, k_81, k_86, k_34, k_66, k_322, k_97, k_99, k_100, k_122, k_128, k_160, k_161, k_255, k_256, k_512, k_580, k_600, k_1000, k_4096, k_far, k_o, nI_add, n_mul, n_sub, n_div, n_rem, n_lt, n_le, n_eq, n_cl, n_and, n_or, n_xor, m1_lt, lt_m1, m1_eq, eq_m1, le_m1, m1_le, m2_eq, up_eq, up_ne, n_shl, n_shr, b2_some, let_e, ob_some, bI_0, bI_a, bI_t, bI_f, if_true, if_false, ite_true, ite_false, true_and, and_true, false_and, and_false, true_or, or_true, false_or, or_false, not_true_eq_false, not_false_eq_true, ite_not, ne_eq, Bool.true_eq_false, Bool.false_eq_true, reduceCtorEq, decide_true, decide_false, Bool.and_true, Bool.and_false, Bool.true_and, Bool.false_and, Bool.or_true, Bool.or_false, Bool.not_true, Bool.not_false, Nat.add_zero, Nat.zero_add, eq_self, Nat.not_lt_zero, Nat.reduceAdd, Nat.reduceMul, Nat.reduceSub, Nat.reduceDiv, Nat.reduceMod, Nat.reduceAnd, Nat.reduceXor, Nat.reduceEqDiff, Nat.reducePow, lt_T, lt_F, le_T, le_F, eq_F, m_in]
theorem P_30 : ∀ h, qR h → ∀ x1 : Int32, ∃ (r : Int32) (h1 h2 : qm_H), qL_img x1 h = some (r, h1) ∧ qX12_image 62 x1 h1 = some (r, h2) ∧ qR h2 := by
  intro h R x
  rcases i_cases x with hx | ⟨k, hk, rfl⟩
  · refine ⟨nI 0, h, qm_seti h 62 0 (nI 0), ?_, ?_, R.mvm (em0 h)⟩
    · unfold qL_img
      simp (disch := omega) only [↓reduceIte, ↓q_m1, ↓q_m2, k_o, k_0, k_1, k_2, k_3, k_4, k_5, k_6, k_7, k_8, k_9, k_10, k_11, k_16, k_17, k_19, k_20, k_24, k_26, k_27, k_30, k_32, k_33, k_35, k_40, k_43, k_48, k_50, k_57, k_60, k_64, k_81, k_86, k_34, k_66, k_322, k_97, k_99, k_100, k_122, k_128, k_160, k_161, k_255, k_256, k_512, k_580, k_600, k_1000, k_4096, k_far, k_o, nI_add, n_mul, n_sub, n_div, n_rem, n_lt, n_le, n_eq, n_cl, n_and, n_or, n_xor, m1_lt, lt_m1, m1_eq, eq_m1, le_m1, m1_le, m2_eq, up_eq, up_ne, n_shl, n_shr, b2_some, let_e, ob_some, bI_0, bI_a, bI_t, bI_f, if_true, if_false, ite_true, ite_false, true_and, and_true, false_and, and_false, true_or, or_true, false_or, or_false, not_true_eq_false, not_false_eq_true, ite_not, ne_eq, Bool.true_eq_false, Bool.false_eq_true, reduceCtorEq, decide_true, decide_false, Bool.and_true, Bool.and_false, Bool.true_and, Bool.false_and, Bool.or_true, Bool.or_false, Bool.not_true, Bool.not_false, Nat.add_zero, Nat.zero_add, eq_self, Nat.not_lt_zero, Nat.reduceAdd, Nat.reduceMul, Nat.reduceSub, Nat.reduceDiv, Nat.reduceMod, Nat.reduceAnd, Nat.reduceXor, Nat.reduceEqDiff, Nat.reducePow, lt_T, lt_F, le_T, le_F, eq_F, ng_lt hx]
    · unfold qX12_image
      simp (disch := omega) only [↓reduceIte, ↓q_m1, ↓q_m2, k_o, k_0, k_1, k_2, k_3, k_4, k_5, k_6, k_7, k_8, k_9, k_10, k_11, k_16, k_17, k_19, k_20, k_24, k_26, k_27, k_30, k_32, k_33, k_35, k_40, k_43, k_48, k_50, k_57, k_60, k_64, k_81, k_86, k_34, k_66, k_322, k_97, k_99, k_100, k_122, k_128, k_160, k_161, k_255, k_256, k_512, k_580, k_600, k_1000, k_4096, k_far, k_o, nI_add, n_mul, n_sub, n_div, n_rem, n_lt, n_le, n_eq, n_cl, n_and, n_or, n_xor, m1_lt, lt_m1, m1_eq, eq_m1, le_m1, m1_le, m2_eq, up_eq, up_ne, n_shl, n_shr, b2_some, let_e, ob_some, bI_0, bI_a, bI_t, bI_f, if_true, if_false, ite_true, ite_false, true_and, and_true, false_and, and_false, true_or, or_true, false_or, or_false, not_true_eq_false, not_false_eq_true, ite_not, ne_eq, Bool.true_eq_false, Bool.false_eq_true, reduceCtorEq, decide_true, decide_false, Bool.and_true, Bool.and_false, Bool.true_and, Bool.false_and, Bool.or_true, Bool.or_false, Bool.not_true, Bool.not_false, Nat.add_zero, Nat.zero_add, eq_self, Nat.not_lt_zero, Nat.reduceAdd, Nat.reduceMul, Nat.reduceSub, Nat.reduceDiv, Nat.reduceMod, Nat.reduceAnd, Nat.reduceXor, Nat.reduceEqDiff, Nat.reducePow, lt_T, lt_F, le_T, le_F, eq_F, m_in, ng_le hx]
  · by_cases q : k < 3
    · -- the image's own block, made if there was none
      obtain ⟨h0, e0', g0, n0⟩ : ∃ h0 : qm_H, (if h.1 30 k = nI 0 then qL_fresh h k else h) = h0 ∧ (∀ a j, ¬ (1000 * (k + 1) ≤ a ∧ a < 1000 * (k + 1) + 29) → ¬ (a = 30 ∧ j = k) → h0.1 a j = h.1 a j ∧ h0.2 a j = h.2 a j) ∧ h0.1 30 k ≠ 0 := by
        by_cases z : h.1 30 k = nI 0
        · refine ⟨qL_fresh h k, if_pos z, fun a j h1 h2 => ⟨?_, ?_⟩, ?_⟩
          · show (if 1000 * (k + 1) ≤ a ∧ a < 1000 * (k + 1) + 29 then _ else if a = 30 ∧ j = k then 1 else h.1 a j) = _
            rw [if_neg h1, if_neg h2]
          · show (if 1000 * (k + 1) ≤ a ∧ a < 1000 * (k + 1) + 29 then 0 else h.2 a j) = _
            rw [if_neg h1]
          · show (if 1000 * (k + 1) ≤ 30 ∧ 30 < 1000 * (k + 1) + 29 then qL_h0.1 (30 - 1000 * (k + 1) + 1) k else if 30 = 30 ∧ k = k then (1 : Int32) else h.1 30 k) ≠ 0
            rw [if_neg (by omega), if_pos ⟨rfl, rfl⟩]
            decide
        · exact ⟨h, if_neg z, fun a j _ _ => ⟨rfl, rfl⟩, z⟩
      have S := R.1
      have hb : ∀ i, i < 2 → h0.1 (1 + 7 + 11 * i) 5 &&& 1 = h0.1 (1 + 7 + 11 * i) 5 := fun i hi => by
        rw [(g0 _ _ (by omega) (by omega)).1]
        exact S.2.choose_spec.2.2.2.2.2 i hi
      have hf : ∀ j, j < 600 → fits .byte (.int (h0.1 (1 + 1) j)) = true := fun j hj => by
        rw [(g0 _ _ (by omega) (by omega)).1]
        exact (S.1.2.2.2 j hj).2
      obtain ⟨h1, e1, f1, c1⟩ := c_take (t1 := 1) (t0 := 1000 * (k + 1)) (h := h0) (by omega) hb hf
      have hm : ∀ j, j < 600 → fits .byte (.int ((qm_seti h1 62 0 (nI 0)).1 63 (600 * 0 + j))) = true := fun j hj => by
        rw [sI_ne (by omega), (f1 63 _ (by unfold bk; omega)).1, (g0 _ _ (by omega) (by omega)).1, ← (S.1.2.2.2 j hj).1]
        exact (S.1.2.2.2 j hj).2
      obtain ⟨h2, e2, c2, f2⟩ := m_copyAll (f := 0) (t := k + 1) (h := qm_seti h1 62 0 (nI 0)) (by omega) (by omega) (by omega) hm
      have fr : ∀ a j, ¬ (1000 * (k + 1) ≤ a ∧ a < 1000 * (k + 1) + 29) → ¬ (a = 30 ∧ j = k) → ¬ (a = 62 ∧ j = 0) → ¬ slM (k + 1) a j → ¬ (a = 87 ∧ j = k) → (qm_seti h2 87 k (nI 1)).1 a j = h.1 a j ∧ (qm_seti h2 87 k (nI 1)).2 a j = h.2 a j := fun a j y1 y2 y3 y4 y5 => by
        have p1 := f2 a j y4
        have p2 := f1 a j (by unfold bk; omega)
        have p3 := g0 a j y1 y2
        refine ⟨?_, p1.2.trans (p2.2.trans p3.2)⟩
        rw [sI_ne y5, p1.1, sI_ne y3, p2.1, p3.1]
      refine ⟨nI 1, h1, qm_seti h2 87 k (nI 1), ?_, ?_, ?_, fun j hj => ?_, ?_⟩
      · unfold qL_img
        simp (disch := omega) only [↓reduceIte, ↓q_m1, ↓q_m2, k_o, k_0, k_1, k_2, k_3, k_4, k_5, k_6, k_7, k_8, k_9, k_10, k_11, k_16, k_17, k_19, k_20, k_24, k_26, k_27, k_30, k_32, k_33, k_35, k_40, k_43, k_48, k_50, k_57, k_60, k_64, k_81, k_86, k_34, k_66, k_322, k_97, k_99, k_100, k_122, k_128, k_160, k_161, k_255, k_256, k_512, k_580, k_600, k_1000, k_4096, k_far, k_o, nI_add, n_mul, n_sub, n_div, n_rem, n_lt, n_le, n_eq, n_cl, n_and, n_or, n_xor, m1_lt, lt_m1, m1_eq, eq_m1, le_m1, m1_le, m2_eq, up_eq, up_ne, n_shl, n_shr, b2_some, let_e, ob_some, bI_0, bI_a, bI_t, bI_f, if_true, if_false, ite_true, ite_false, true_and, and_true, false_and, and_false, true_or, or_true, false_or, or_false, not_true_eq_false, not_false_eq_true, ite_not, ne_eq, Bool.true_eq_false, Bool.false_eq_true, reduceCtorEq, decide_true, decide_false, Bool.and_true, Bool.and_false, Bool.true_and, Bool.false_and, Bool.or_true, Bool.or_false, Bool.not_true, Bool.not_false, Nat.add_zero, Nat.zero_add, eq_self, Nat.not_lt_zero, Nat.reduceAdd, Nat.reduceMul, Nat.reduceSub, Nat.reduceDiv, Nat.reduceMod, Nat.reduceAnd, Nat.reduceXor, Nat.reduceEqDiff, Nat.reducePow, lt_T, lt_F, le_T, le_F, eq_F, e0', e1]
      · unfold qX12_image
        simp (disch := omega) only [↓reduceIte, ↓q_m1, ↓q_m2, k_o, k_0, k_1, k_2, k_3, k_4, k_5, k_6, k_7, k_8, k_9, k_10, k_11, k_16, k_17, k_19, k_20, k_24, k_26, k_27, k_30, k_32, k_33, k_35, k_40, k_43, k_48, k_50, k_57, k_60, k_64, k_81, k_86, k_34, k_66, k_322, k_97, k_99, k_100, k_122, k_128, k_160, k_161, k_255, k_256, k_512, k_580, k_600, k_1000, k_4096, k_far, k_o, nI_add, n_mul, n_sub, n_div, n_rem, n_lt, n_le, n_eq, n_cl, n_and, n_or, n_xor, m1_lt, lt_m1, m1_eq, eq_m1, le_m1, m1_le, m2_eq, up_eq, up_ne, n_shl, n_shr, b2_some, let_e, ob_some, bI_0, bI_a, bI_t, bI_f, if_true, if_false, ite_true, ite_false, true_and, and_true, false_and, and_false, true_or, or_true, false_or, or_false, not_true_eq_false, not_false_eq_true, ite_not, ne_eq, Bool.true_eq_false, Bool.false_eq_true, reduceCtorEq, decide_true, decide_false, Bool.and_true, Bool.and_false, Bool.true_and, Bool.false_and, Bool.or_true, Bool.or_false, Bool.not_true, Bool.not_false, Nat.add_zero, Nat.zero_add, eq_self, Nat.not_lt_zero, Nat.reduceAdd, Nat.reduceMul, Nat.reduceSub, Nat.reduceDiv, Nat.reduceMod, Nat.reduceAnd, Nat.reduceXor, Nat.reduceEqDiff, Nat.reducePow, lt_T, lt_F, le_T, le_F, eq_F, m_in, e2]
        rfl
      · refine S.copy (cpC.same (fun a kk h1' h2' _ _ => fr a kk (by omega) (by omega) (by omega) (by unfold slM; omega) (by omega))) (cpM.same (fun b jj z => (fr b jj ?_ ?_ ?_ ?_ ?_).1))
        · unfold slM at z; omega
        · unfold slM at z; omega
        · unfold slM at z; omega
        · unfold slM at z ⊢; omega
        · unfold slM at z; omega
      · by_cases z : j = k
        · subst z
          refine Or.inr ⟨?_, sI_eq _ _ _ _, ?_⟩
          · rw [sI_ne (by omega), (f2 _ _ (by unfold slM; omega)).1, sI_ne (by omega), (f1 _ _ (by unfold bk; omega)).1]
            exact n0
          · refine S.copy ⟨fun δ kk z => ?_, fun i hi => ?_⟩ ?_
            · have y := cpd_lt z
              rw [sI_ne (by omega), (f2 _ _ (by unfold slM; omega)).1, sI_ne (by omega), c1.1 δ kk z, (g0 _ _ (by omega) (by omega)).1]
            · show h2.2 _ _ = _
              rw [(f2 _ _ (by unfold slM; omega)).2]
              show h1.2 _ _ = _
              rw [c1.2 i hi, (g0 _ _ (by omega) (by omega)).2]
            · have base : cpM 0 0 h (qm_seti h1 62 0 (nI 0)) := cpM.same (fun b jj z => by
                have : b ≠ 62 ∧ 63 ≤ b ∧ b ≤ 71 := by unfold slM at z; omega
                rw [sI_ne (by omega), (f1 b jj (by unfold bk; omega)).1, (g0 _ _ (by omega) (by omega)).1])
              obtain ⟨p1, p2, p3, p4, p5, p6, p7, p8, p9⟩ := base
              obtain ⟨q1, q2, q3, q4, q5, q6, q7, q8, q9⟩ := c2
              refine ⟨fun r hr => ?_, ?_, ?_, ?_, fun r hr => ?_, fun r hr => ?_, fun r hr => ?_, fun r hr => ?_, fun r hr => ?_⟩
              · rw [sI_ne (by omega)]; exact (q1 r hr).trans (p1 r hr)
              · rw [sI_ne (by omega)]; exact q2.trans p2
              · rw [sI_ne (by omega)]; exact q3.trans p3
              · rw [sI_ne (by omega)]; exact q4.trans p4
              · rw [sI_ne (by omega)]; exact (q5 r hr).trans (p5 r hr)
              · rw [sI_ne (by omega)]; exact (q6 r hr).trans (p6 r hr)
              · rw [sI_ne (by omega)]; exact (q7 r hr).trans (p7 r hr)
              · rw [sI_ne (by omega)]; exact (q8 r hr).trans (p8 r hr)
              · rw [sI_ne (by omega)]; exact (q9 r hr).trans (p9 r hr)
        · have g30 := (fr 30 j (by omega) (by omega) (by omega) (by unfold slM; omega) (by omega)).1
          have g87 := (fr 87 j (by omega) (by omega) (by omega) (by unfold slM; omega) (by omega)).1
          rw [g30, g87]
          rcases R.2.1 j hj with w | ⟨w1, w2, w3⟩
          · exact Or.inl w
          · refine Or.inr ⟨w1, w2, w3.copy (cpC.same (fun a kk h1' h2' _ _ => fr a kk (by omega) (by omega) (by omega) (by unfold slM; omega) (by omega))) (cpM.same (fun b jj z => (fr b jj ?_ ?_ ?_ ?_ ?_).1))⟩
            · unfold slM at z; omega
            · unfold slM at z; omega
            · unfold slM at z; omega
            · unfold slM at z ⊢; omega
            · unfold slM at z; omega
      · exact R.2.2.mv (fun a kk z => (fr a kk (by omega) (by omega) (by omega) (by unfold slM; omega) (by omega)).1)
    · refine ⟨nI 0, h, qm_seti h 62 0 (nI 0), ?_, ?_, R.mvm (em0 h)⟩
      · unfold qL_img
        simp (disch := omega) only [↓reduceIte, ↓q_m1, ↓q_m2, k_o, k_0, k_1, k_2, k_3, k_4, k_5, k_6, k_7, k_8, k_9, k_10, k_11, k_16, k_17, k_19, k_20, k_24, k_26, k_27, k_30, k_32, k_33, k_35, k_40, k_43, k_48, k_50, k_57, k_60, k_64, k_81, k_86, k_34, k_66, k_322, k_97, k_99, k_100, k_122, k_128, k_160, k_161, k_255, k_256, k_512, k_580, k_600, k_1000, k_4096, k_far, k_o, nI_add, n_mul, n_sub, n_div, n_rem, n_lt, n_le, n_eq, n_cl, n_and, n_or, n_xor, m1_lt, lt_m1, m1_eq, eq_m1, le_m1, m1_le, m2_eq, up_eq, up_ne, n_shl, n_shr, b2_some, let_e, ob_some, bI_0, bI_a, bI_t, bI_f, if_true, if_false, ite_true, ite_false, true_and, and_true, false_and, and_false, true_or, or_true, false_or, or_false, not_true_eq_false, not_false_eq_true, ite_not, ne_eq, Bool.true_eq_false, Bool.false_eq_true, reduceCtorEq, decide_true, decide_false, Bool.and_true, Bool.and_false, Bool.true_and, Bool.false_and, Bool.or_true, Bool.or_false, Bool.not_true, Bool.not_false, Nat.add_zero, Nat.zero_add, eq_self, Nat.not_lt_zero, Nat.reduceAdd, Nat.reduceMul, Nat.reduceSub, Nat.reduceDiv, Nat.reduceMod, Nat.reduceAnd, Nat.reduceXor, Nat.reduceEqDiff, Nat.reducePow, lt_T, lt_F, le_T, le_F, eq_F]
      · unfold qX12_image
        simp (disch := omega) only [↓reduceIte, ↓q_m1, ↓q_m2, k_o, k_0, k_1, k_2, k_3, k_4, k_5, k_6, k_7, k_8, k_9, k_10, k_11, k_16, k_17, k_19, k_20, k_24, k_26, k_27, k_30, k_32, k_33, k_35, k_40, k_43, k_48, k_50, k_57, k_60, k_64, k_81, k_86, k_34, k_66, k_322, k_97, k_99, k_100, k_122, k_128, k_160, k_161, k_255, k_256, k_512, k_580, k_600, k_1000, k_4096, k_far, k_o, nI_add, n_mul, n_sub, n_div, n_rem, n_lt, n_le, n_eq, n_cl, n_and, n_or, n_xor, m1_lt, lt_m1, m1_eq, eq_m1, le_m1, m1_le, m2_eq, up_eq, up_ne, n_shl, n_shr, b2_some, let_e, ob_some, bI_0, bI_a, bI_t, bI_f, if_true, if_false, ite_true, ite_false, true_and, and_true, false_and, and_false, true_or, or_true, false_or, or_false, not_true_eq_false, not_false_eq_true, ite_not, ne_eq, Bool.true_eq_false, Bool.false_eq_true, reduceCtorEq, decide_true, decide_false, Bool.and_true, Bool.and_false, Bool.true_and, Bool.false_and, Bool.or_true, Bool.or_false, Bool.not_true, Bool.not_false, Nat.add_zero, Nat.zero_add, eq_self, Nat.not_lt_zero, Nat.reduceAdd, Nat.reduceMul, Nat.reduceSub, Nat.reduceDiv, Nat.reduceMod, Nat.reduceAnd, Nat.reduceXor, Nat.reduceEqDiff, Nat.reducePow, lt_T, lt_F, le_T, le_F, eq_F, m_in]
