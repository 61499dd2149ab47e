/-! feed -/
def byt (x : Int32) (i : Nat) : Int32 := (qm_iushr x (nI (24 - 8 * i))).toInt8.toInt32
def shI (i : Nat) : Int32 := if i < 4 then nI (24 - 8 * i) else -8
theorem byt_fits (x : Int32) (i : Nat) : fits .byte (.int (byt x i)) = true := by
  have h := fb_byte_rng (qm_iushr x (nI (24 - 8 * i)))
  have h1 : (-128 : Int32) ≤ byt x i := by
    rw [Int32.le_iff_toInt_le, show (-128 : Int32).toInt = -128 from rfl]
    exact h.1
  have h2 : byt x i ≤ 127 := by
    rw [Int32.le_iff_toInt_le, show (127 : Int32).toInt = 127 from rfl]
    have : (byt x i).toInt < 128 := h.2
    omega
  show (decide (_ ≤ _) && decide (_ ≤ _)) = true
  rw [decide_eq_true h1, decide_eq_true h2]
  rfl
theorem nar_b (x : Int32) : vp_nar .byte x.toInt8.toInt32 = x.toInt8.toInt32 := by rw [vp_nar_byte, fb_byte_twice]
theorem nar_y (x : Int32) (i : Nat) : vp_nar .byte (byt x i) = byt x i := nar_b _
theorem byt_m (x : Int32) {i : Nat} (hi : i < 4) : (qm_ishr x (shI i)).toInt8.toInt32 = byt x i := by
  unfold byt
  congr 1
  apply Int8.toBitVec_inj.mp
  rw [Int32.toBitVec_toInt8, Int32.toBitVec_toInt8]
  apply BitVec.eq_of_getLsbD_eq
  intro k hk
  rw [BitVec.getLsbD_signExtend, BitVec.getLsbD_signExtend]
  have hk' : k < 32 := by omega
  simp only [hk, hk', decide_true, Bool.true_and, if_true]
  have e : shI i = nI (24 - 8 * i) := if_pos hi
  rw [e]
  show bt (x >>> (nI (24 - 8 * i) &&& 31)) k = bt ((x.toUInt32 >>> ((nI (24 - 8 * i)).toUInt32 &&& Int32.toUInt32 31)).toInt32) k
  rw [b_sshr _ (by omega) x hk', b_ushr _ (by omega), if_pos (by omega)]
theorem c_put_l (x : Int32) : ∀ d i n h fuel, i + d = 4 → d < fuel → h.1 1 6 = nI n → n + d ≤ 600 → ∃ h', qX9_put_2 fuel 1 x (nI i) h = some h' ∧ h'.1 1 6 = nI (n + d) ∧ (∀ j, h'.1 2 j = if n ≤ j ∧ j < n + d then byt x (i + (j - n)) else h.1 2 j) ∧ qFr (fun a k => a = 2 ∨ (a = 1 ∧ k = 6)) h h' := by
  intro d
  induction d with
  | zero =>
    intro i n h fuel hi hf hn hl
    obtain ⟨f, rfl⟩ : ∃ f, fuel = f + 1 := ⟨fuel - 1, by omega⟩
    refine ⟨h, ?_, hn, fun j => ?_, qFr.refl _ _⟩
    · unfold qX9_put_2
      simp (disch := omega) only [↓q_m1, ↓q_m2, k_o, k_0, k_1, k_2, k_3, k_4, k_5, k_6, k_7, k_8, k_9, k_10, k_11, k_16, k_17, k_19, k_20, k_24, k_26, k_27, k_30, k_32, k_33, k_35, k_40, k_43, k_48, k_50, k_57, k_60, k_64, k_81, k_86, k_34, k_66, k_322, k_97, k_99, k_100, k_122, k_128, k_160, k_161, k_255, k_256, k_512, k_580, k_600, k_1000, k_4096, k_far, k_o, nI_add, n_mul, n_sub, n_div, n_rem, n_lt, n_le, n_eq, n_cl, n_and, n_or, n_xor, m1_lt, lt_m1, m1_eq, eq_m1, le_m1, m1_le, m2_eq, up_eq, up_ne, n_shl, n_shr, b2_some, let_e, ob_some, bI_0, bI_a, bI_t, bI_f, if_true, if_false, ite_true, ite_false, true_and, and_true, false_and, and_false, true_or, or_true, false_or, or_false, not_true_eq_false, not_false_eq_true, ite_not, ne_eq, Bool.true_eq_false, Bool.false_eq_true, reduceCtorEq, decide_true, decide_false, Bool.and_true, Bool.and_false, Bool.true_and, Bool.false_and, Bool.or_true, Bool.or_false, Bool.not_true, Bool.not_false, Nat.add_zero, Nat.zero_add, eq_self, Nat.not_lt_zero, Nat.reduceAdd, Nat.reduceMul, Nat.reduceSub, Nat.reduceDiv, Nat.reduceMod, Nat.reduceAnd, Nat.reduceXor, Nat.reduceEqDiff, Nat.reducePow, lt_T, lt_F, le_T, le_F, eq_F]
    · rw [if_neg (by omega)]
  | succ d ih =>
    intro i n h fuel hi hf hn hl
    obtain ⟨f, rfl⟩ : ∃ f, fuel = f + 1 := ⟨fuel - 1, by omega⟩
    obtain ⟨h', e1, e2, e3, e4⟩ := ih (i + 1) (n + 1) (qm_seti (qm_seti h 2 n (byt x i)) 1 6 (nI (n + 1))) f (by omega) (by omega) (sI_eq _ _ _ _) (by omega)
    refine ⟨h', ?_, by rw [e2]; congr 1; omega, fun j => ?_, ?_⟩
    · unfold qX9_put_2
      simp (disch := omega) only [↓q_m1, ↓q_m2, k_o, k_0, k_1, k_2, k_3, k_4, k_5, k_6, k_7, k_8, k_9, k_10, k_11, k_16, k_17, k_19, k_20, k_24, k_26, k_27, k_30, k_32, k_33, k_35, k_40, k_43, k_48, k_50, k_57, k_60, k_64, k_81, k_86, k_34, k_66, k_322, k_97, k_99, k_100, k_122, k_128, k_160, k_161, k_255, k_256, k_512, k_580, k_600, k_1000, k_4096, k_far, k_o, nI_add, n_mul, n_sub, n_div, n_rem, n_lt, n_le, n_eq, n_cl, n_and, n_or, n_xor, m1_lt, lt_m1, m1_eq, eq_m1, le_m1, m1_le, m2_eq, up_eq, up_ne, n_shl, n_shr, b2_some, let_e, ob_some, bI_0, bI_a, bI_t, bI_f, if_true, if_false, ite_true, ite_false, true_and, and_true, false_and, and_false, true_or, or_true, false_or, or_false, not_true_eq_false, not_false_eq_true, ite_not, ne_eq, Bool.true_eq_false, Bool.false_eq_true, reduceCtorEq, decide_true, decide_false, Bool.and_true, Bool.and_false, Bool.true_and, Bool.false_and, Bool.or_true, Bool.or_false, Bool.not_true, Bool.not_false, Nat.add_zero, Nat.zero_add, eq_self, Nat.not_lt_zero, Nat.reduceAdd, Nat.reduceMul, Nat.reduceSub, Nat.reduceDiv, Nat.reduceMod, Nat.reduceAnd, Nat.reduceXor, Nat.reduceEqDiff, Nat.reducePow, lt_T, lt_F, le_T, le_F, eq_F, hn, nar_b]
      exact e1
    · rw [e3 j]
      by_cases q : n + 1 ≤ j ∧ j < n + 1 + d
      · rw [if_pos q, if_pos (by omega)]
        congr 1
        omega
      · rw [if_neg q]
        show qm_up (qm_up h.1 2 n (byt x i)) 1 6 (nI (n + 1)) 2 j = _
        rw [up_ne (by omega)]
        by_cases q2 : j = n
        · subst q2
          rw [up_eq, if_pos (by omega)]
          congr 1
          omega
        · rw [up_ne (by omega), if_neg (by omega)]
    · exact ((qFr.seti (Or.inl rfl)).trans (qFr.seti (Or.inr ⟨rfl, rfl⟩))).trans e4
theorem c_put (x : Int32) {n : Nat} {h : qm_H} (hn : h.1 1 6 = nI n) (hl : n + 4 ≤ 600) : ∃ h', qX9_put 1 x h = some h' ∧ h'.1 1 6 = nI (n + 4) ∧ (∀ j, h'.1 2 j = if n ≤ j ∧ j < n + 4 then byt x (j - n) else h.1 2 j) ∧ qFr (fun a k => a = 2 ∨ (a = 1 ∧ k = 6)) h h' := by
  obtain ⟨h', e1, e2, e3, e4⟩ := c_put_l x 4 0 n h qm_N rfl (by decide) hn hl
  refine ⟨h', e1, e2, fun j => ?_, e4⟩
  rw [e3 j, Nat.zero_add]
theorem shI_s : ∀ i, i < 4 → shI i + (-8) = shI (i + 1) := by decide +kernel
theorem shI_n : ∀ i, i < 4 → ¬ shI i < 0 := by decide +kernel
theorem m_four_l (x : Int32) : ∀ d i n h fuel, i + d = 4 → d < fuel → h.1 64 0 = nI n → n + d ≤ 600 → ∃ h', qX12_four_3 fuel 62 x (shI i) h = some h' ∧ h'.1 64 0 = nI (n + d) ∧ (∀ j, h'.1 63 j = if n ≤ j ∧ j < n + d then byt x (i + (j - n)) else h.1 63 j) ∧ qFr (fun a k => (a = 63 ∧ k < 600) ∨ (a = 64 ∧ k = 0)) h h' := by
  intro d
  induction d with
  | zero =>
    intro i n h fuel hi hf hn hl
    obtain ⟨f, rfl⟩ : ∃ f, fuel = f + 1 := ⟨fuel - 1, by omega⟩
    have : i = 4 := by omega
    subst this
    refine ⟨h, ?_, hn, fun j => ?_, qFr.refl _ _⟩
    · unfold qX12_four_3
      rw [if_pos (by decide)]
    · rw [if_neg (by omega)]
  | succ d ih =>
    intro i n h fuel hi hf hn hl
    obtain ⟨f, rfl⟩ : ∃ f, fuel = f + 1 := ⟨fuel - 1, by omega⟩
    obtain ⟨h', e1, e2, e3, e4⟩ := ih (i + 1) (n + 1) (qm_seti (qm_seti h 63 n (byt x i)) 64 0 (nI (n + 1))) f (by omega) (by omega) (sI_eq _ _ _ _) (by omega)
    refine ⟨h', ?_, by rw [e2]; congr 1; omega, fun j => ?_, ?_⟩
    · unfold qX12_four_3
      rw [if_neg (shI_n i (by omega)), shI_s i (by omega)]
      simp (disch := omega) only [↓q_m1, ↓q_m2, k_o, k_0, k_1, k_2, k_3, k_4, k_5, k_6, k_7, k_8, k_9, k_10, k_11, k_16, k_17, k_19, k_20, k_24, k_26, k_27, k_30, k_32, k_33, k_35, k_40, k_43, k_48, k_50, k_57, k_60, k_64, k_81, k_86, k_34, k_66, k_322, k_97, k_99, k_100, k_122, k_128, k_160, k_161, k_255, k_256, k_512, k_580, k_600, k_1000, k_4096, k_far, k_o, nI_add, n_mul, n_sub, n_div, n_rem, n_lt, n_le, n_eq, n_cl, n_and, n_or, n_xor, m1_lt, lt_m1, m1_eq, eq_m1, le_m1, m1_le, m2_eq, up_eq, up_ne, n_shl, n_shr, b2_some, let_e, ob_some, bI_0, bI_a, bI_t, bI_f, if_true, if_false, ite_true, ite_false, true_and, and_true, false_and, and_false, true_or, or_true, false_or, or_false, not_true_eq_false, not_false_eq_true, ite_not, ne_eq, Bool.true_eq_false, Bool.false_eq_true, reduceCtorEq, decide_true, decide_false, Bool.and_true, Bool.and_false, Bool.true_and, Bool.false_and, Bool.or_true, Bool.or_false, Bool.not_true, Bool.not_false, Nat.add_zero, Nat.zero_add, eq_self, Nat.not_lt_zero, Nat.reduceAdd, Nat.reduceMul, Nat.reduceSub, Nat.reduceDiv, Nat.reduceMod, Nat.reduceAnd, Nat.reduceXor, Nat.reduceEqDiff, Nat.reducePow, lt_T, lt_F, le_T, le_F, eq_F, hn, nar_y, byt_m x (show i < 4 by omega)]
      exact e1
    · rw [e3 j]
      by_cases q : n + 1 ≤ j ∧ j < n + 1 + d
      · rw [if_pos q, if_pos (by omega)]
        congr 1
        omega
      · rw [if_neg q]
        show qm_up (qm_up h.1 63 n (byt x i)) 64 0 (nI (n + 1)) 63 j = _
        rw [up_ne (by omega)]
        by_cases q2 : j = n
        · subst q2
          rw [up_eq, if_pos (by omega)]
          congr 1
          omega
        · rw [up_ne (by omega), if_neg (by omega)]
    · exact ((qFr.seti (Or.inl ⟨rfl, by omega⟩)).trans (qFr.seti (Or.inr ⟨rfl, rfl⟩))).trans e4
theorem m_four (x : Int32) {n : Nat} {h : qm_H} (hn : h.1 64 0 = nI n) (hl : n + 4 ≤ 600) : ∃ h', qX12_four 62 x h = some h' ∧ h'.1 64 0 = nI (n + 4) ∧ (∀ j, h'.1 63 j = if n ≤ j ∧ j < n + 4 then byt x (j - n) else h.1 63 j) ∧ qFr (fun a k => (a = 63 ∧ k < 600) ∨ (a = 64 ∧ k = 0)) h h' := by
  obtain ⟨h', e1, e2, e3, e4⟩ := m_four_l x 4 0 n h qm_N rfl (by decide) hn hl
  refine ⟨h', e1, e2, fun j => ?_, e4⟩
  rw [e3 j, Nat.zero_add]
def by5 (x1 x2 x3 x4 x5 : Int32) (k : Nat) : Int32 := if k < 4 then byt x1 k else if k < 8 then byt x2 (k - 4) else if k < 12 then byt x3 (k - 8) else if k < 16 then byt x4 (k - 12) else byt x5 (k - 16)
theorem P_0 : ∀ h, qR h → ∀ x1 x2 x3 x4 x5 : Int32, ∃ (r : Int32) (h1 h2 : qm_H), qX11_feed 0 x1 x2 x3 x4 x5 h = some (r, h1) ∧ qX12_feed 62 x1 x2 x3 x4 x5 h1 = some (r, h2) ∧ qR h2 := by
  intro h R x1 x2 x3 x4 x5
  obtain ⟨n, hn, e1, e2⟩ := R.1.1.1
  by_cases q : n ≤ 580
  · obtain ⟨c1, a1, b1, d1, f1⟩ := c_put x1 e1 (by omega)
    obtain ⟨c2, a2, b2, d2, f2⟩ := c_put x2 b1 (by omega)
    obtain ⟨c3, a3, b3, d3, f3⟩ := c_put x3 b2 (by omega)
    obtain ⟨c4, a4, b4, d4, f4⟩ := c_put x4 b3 (by omega)
    obtain ⟨c5, a5, b5, d5, f5⟩ := c_put x5 b4 (by omega)
    have F := (((f1.trans f2).trans f3).trans f4).trans f5
    have e0 : (qm_seti c5 62 0 (nI 0)).1 64 0 = nI n := by
      show qm_up c5.1 62 0 (nI 0) 64 0 = nI n
      rw [up_ne (by omega), (F 64 0 (by omega)).1]
      exact e2
    obtain ⟨g1, i1, j1, k1, l1⟩ := m_four x1 e0 (by omega)
    obtain ⟨g2, i2, j2, k2, l2⟩ := m_four x2 j1 (by omega)
    obtain ⟨g3, i3, j3, k3, l3⟩ := m_four x3 j2 (by omega)
    obtain ⟨g4, i4, j4, k4, l4⟩ := m_four x4 j3 (by omega)
    obtain ⟨g5, i5, j5, k5, l5⟩ := m_four x5 j4 (by omega)
    have G := (((l1.trans l2).trans l3).trans l4).trans l5
    have F' : ∀ a k, ¬ (a = 2 ∨ (a = 1 ∧ k = 6) ∨ (a = 63 ∧ k < 600) ∨ (a = 64 ∧ k = 0) ∨ (a = 62 ∧ k = 0)) → g5.1 a k = h.1 a k ∧ g5.2 a k = h.2 a k := by
      intro a k hk
      have z1 := G a k (by omega)
      have z2 := F a k (by omega)
      refine ⟨?_, z1.2.trans z2.2⟩
      rw [z1.1]
      show qm_up c5.1 62 0 (nI 0) a k = _
      rw [up_ne (by omega)]
      exact z2.1
    have t2 : ∀ j, g5.1 2 j = if n ≤ j ∧ j < n + 20 then by5 x1 x2 x3 x4 x5 (j - n) else h.1 2 j := by
      intro j
      rw [(G 2 j (by omega)).1]
      show qm_up c5.1 62 0 (nI 0) 2 j = _
      rw [up_ne (by omega), d5 j, d4 j, d3 j, d2 j, d1 j]
      unfold by5
      repeat' split
      all_goals first | rfl | omega | (congr 1; omega)
    have t63 : ∀ j, g5.1 63 j = if n ≤ j ∧ j < n + 20 then by5 x1 x2 x3 x4 x5 (j - n) else h.1 63 j := by
      intro j
      have z : (qm_seti c5 62 0 (nI 0)).1 63 j = h.1 63 j := by
        show qm_up c5.1 62 0 (nI 0) 63 j = _
        rw [up_ne (by omega), (F 63 j (by omega)).1]
      rw [k5 j, k4 j, k3 j, k2 j, k1 j, z]
      unfold by5
      repeat' split
      all_goals first | rfl | omega | (congr 1; omega)
    have L1 : g5.1 1 6 = nI (n + 20) := by
      rw [(G 1 6 (by omega)).1]
      exact b5
    refine ⟨nI (n + 20), c5, g5, ?_, ?_, ?_⟩
    · unfold qX11_feed
      simp (disch := omega) only [↓q_m1, ↓q_m2, k_o, k_0, k_1, k_2, k_3, k_4, k_5, k_6, k_7, k_8, k_9, k_10, k_11, k_16, k_17, k_19, k_20, k_24, k_26, k_27, k_30, k_32, k_33, k_35, k_40, k_43, k_48, k_50, k_57, k_60, k_64, k_81, k_86, k_34, k_66, k_322, k_97, k_99, k_100, k_122, k_128, k_160, k_161, k_255, k_256, k_512, k_580, k_600, k_1000, k_4096, k_far, k_o, nI_add, n_mul, n_sub, n_div, n_rem, n_lt, n_le, n_eq, n_cl, n_and, n_or, n_xor, m1_lt, lt_m1, m1_eq, eq_m1, le_m1, m1_le, m2_eq, up_eq, up_ne, n_shl, n_shr, b2_some, let_e, ob_some, bI_0, bI_a, bI_t, bI_f, if_true, if_false, ite_true, ite_false, true_and, and_true, false_and, and_false, true_or, or_true, false_or, or_false, not_true_eq_false, not_false_eq_true, ite_not, ne_eq, Bool.true_eq_false, Bool.false_eq_true, reduceCtorEq, decide_true, decide_false, Bool.and_true, Bool.and_false, Bool.true_and, Bool.false_and, Bool.or_true, Bool.or_false, Bool.not_true, Bool.not_false, Nat.add_zero, Nat.zero_add, eq_self, Nat.not_lt_zero, Nat.reduceAdd, Nat.reduceMul, Nat.reduceSub, Nat.reduceDiv, Nat.reduceMod, Nat.reduceAnd, Nat.reduceXor, Nat.reduceEqDiff, Nat.reducePow, lt_T, lt_F, le_T, le_F, eq_F, e1, a1, a2, a3, a4, a5, b5]
    · unfold qX12_feed
      have e0' : c5.1 64 0 = nI n := by
        rw [(F 64 0 (by omega)).1]
        exact e2
      simp (disch := omega) only [↓q_m1, ↓q_m2, k_o, k_0, k_1, k_2, k_3, k_4, k_5, k_6, k_7, k_8, k_9, k_10, k_11, k_16, k_17, k_19, k_20, k_24, k_26, k_27, k_30, k_32, k_33, k_35, k_40, k_43, k_48, k_50, k_57, k_60, k_64, k_81, k_86, k_34, k_66, k_322, k_97, k_99, k_100, k_122, k_128, k_160, k_161, k_255, k_256, k_512, k_580, k_600, k_1000, k_4096, k_far, k_o, nI_add, n_mul, n_sub, n_div, n_rem, n_lt, n_le, n_eq, n_cl, n_and, n_or, n_xor, m1_lt, lt_m1, m1_eq, eq_m1, le_m1, m1_le, m2_eq, up_eq, up_ne, n_shl, n_shr, b2_some, let_e, ob_some, bI_0, bI_a, bI_t, bI_f, if_true, if_false, ite_true, ite_false, true_and, and_true, false_and, and_false, true_or, or_true, false_or, or_false, not_true_eq_false, not_false_eq_true, ite_not, ne_eq, Bool.true_eq_false, Bool.false_eq_true, reduceCtorEq, decide_true, decide_false, Bool.and_true, Bool.and_false, Bool.true_and, Bool.false_and, Bool.or_true, Bool.or_false, Bool.not_true, Bool.not_false, Nat.add_zero, Nat.zero_add, eq_self, Nat.not_lt_zero, Nat.reduceAdd, Nat.reduceMul, Nat.reduceSub, Nat.reduceDiv, Nat.reduceMod, Nat.reduceAnd, Nat.reduceXor, Nat.reduceEqDiff, Nat.reducePow, lt_T, lt_F, le_T, le_F, eq_F, e0', i1, i2, i3, i4, i5, j5]
    · obtain ⟨_, u2, u3, u4⟩ := R.1.1
      refine R.tp (fun a k hk => F' a k (by unfold qScr at hk; omega)) ?_ ⟨⟨n + 20, by omega, L1, j5⟩, ?_, ?_, fun j hj => ?_⟩
      · exact R.2.2.mv (fun a k hk => (F' a k (by omega)).1)
      · rw [(F' 1 7 (by omega)).1, (F' 65 0 (by omega)).1]
        exact u2
      · rw [(F' 1 8 (by omega)).1, (F' 66 0 (by omega)).1]
        exact u3
      · have w1 := t2 j
        have w2 := t63 j
        have w3 := u4 j hj
        simp only [Nat.mul_zero, Nat.zero_add] at w3 ⊢
        rw [w2, show (1 + 1) = 2 from rfl, w1]
        split
        · refine ⟨rfl, ?_⟩
          unfold by5
          repeat' split
          all_goals exact byt_fits _ _
        · exact w3
  · refine ⟨m1, h, qm_seti h 62 0 (nI 0), ?_, ?_, R.mvm (qEm.s (Or.inl rfl))⟩
    · unfold qX11_feed
      simp (disch := omega) only [↓q_m1, ↓q_m2, k_o, k_0, k_1, k_2, k_3, k_4, k_5, k_6, k_7, k_8, k_9, k_10, k_11, k_16, k_17, k_19, k_20, k_24, k_26, k_27, k_30, k_32, k_33, k_35, k_40, k_43, k_48, k_50, k_57, k_60, k_64, k_81, k_86, k_34, k_66, k_322, k_97, k_99, k_100, k_122, k_128, k_160, k_161, k_255, k_256, k_512, k_580, k_600, k_1000, k_4096, k_far, k_o, nI_add, n_mul, n_sub, n_div, n_rem, n_lt, n_le, n_eq, n_cl, n_and, n_or, n_xor, m1_lt, lt_m1, m1_eq, eq_m1, le_m1, m1_le, m2_eq, up_eq, up_ne, n_shl, n_shr, b2_some, let_e, ob_some, bI_0, bI_a, bI_t, bI_f, if_true, if_false, ite_true, ite_false, true_and, and_true, false_and, and_false, true_or, or_true, false_or, or_false, not_true_eq_false, not_false_eq_true, ite_not, ne_eq, Bool.true_eq_false, Bool.false_eq_true, reduceCtorEq, decide_true, decide_false, Bool.and_true, Bool.and_false, Bool.true_and, Bool.false_and, Bool.or_true, Bool.or_false, Bool.not_true, Bool.not_false, Nat.add_zero, Nat.zero_add, eq_self, Nat.not_lt_zero, Nat.reduceAdd, Nat.reduceMul, Nat.reduceSub, Nat.reduceDiv, Nat.reduceMod, Nat.reduceAnd, Nat.reduceXor, Nat.reduceEqDiff, Nat.reducePow, lt_T, lt_F, le_T, le_F, eq_F, e1]
    · unfold qX12_feed
      simp (disch := omega) only [↓q_m1, ↓q_m2, k_o, k_0, k_1, k_2, k_3, k_4, k_5, k_6, k_7, k_8, k_9, k_10, k_11, k_16, k_17, k_19, k_20, k_24, k_26, k_27, k_30, k_32, k_33, k_35, k_40, k_43, k_48, k_50, k_57, k_60, k_64, k_81, k_86, k_34, k_66, k_322, k_97, k_99, k_100, k_122, k_128, k_160, k_161, k_255, k_256, k_512, k_580, k_600, k_1000, k_4096, k_far, k_o, nI_add, n_mul, n_sub, n_div, n_rem, n_lt, n_le, n_eq, n_cl, n_and, n_or, n_xor, m1_lt, lt_m1, m1_eq, eq_m1, le_m1, m1_le, m2_eq, up_eq, up_ne, n_shl, n_shr, b2_some, let_e, ob_some, bI_0, bI_a, bI_t, bI_f, if_true, if_false, ite_true, ite_false, true_and, and_true, false_and, and_false, true_or, or_true, false_or, or_false, not_true_eq_false, not_false_eq_true, ite_not, ne_eq, Bool.true_eq_false, Bool.false_eq_true, reduceCtorEq, decide_true, decide_false, Bool.and_true, Bool.and_false, Bool.true_and, Bool.false_and, Bool.or_true, Bool.or_false, Bool.not_true, Bool.not_false, Nat.add_zero, Nat.zero_add, eq_self, Nat.not_lt_zero, Nat.reduceAdd, Nat.reduceMul, Nat.reduceSub, Nat.reduceDiv, Nat.reduceMod, Nat.reduceAnd, Nat.reduceXor, Nat.reduceEqDiff, Nat.reducePow, lt_T, lt_F, le_T, le_F, eq_F, e2]
