/-! text: what was read is kept, both sides. -/
theorem bS.lm {i : Nat} {β : qB} {h h' : qm_H} (H : bS i β h) (e : ∀ k, 43 * i ≤ k → k < 43 * i + 43 → h'.1 68 k = h.1 68 k) : bS i β h' := by
  obtain ⟨a1, a2, a3, a4⟩ := H
  refine ⟨by rw [e _ (by omega) (by omega)]; exact a1, by rw [e _ (by omega) (by omega)]; exact a2, by rw [e _ (by omega) (by omega)]; exact a3, fun k hk => ?_⟩
  rw [e _ (by omega) (by omega), e _ (by omega) (by omega), e _ (by omega) (by omega), e _ (by omega) (by omega), e _ (by omega) (by omega)]
  exact a4 k hk
theorem qYr.lm {h h' : qm_H} {a m : Nat} (H : qYr h a m) (e1 : ∀ k, m ≤ k → k < m + 161 → h'.1 69 k = h.1 69 k) (e2 : ∀ k, h'.1 a k = h.1 a k) (e3 : ∀ k, h'.1 (a + 1) k = h.1 (a + 1) k) : qYr h' a m := by
  obtain ⟨n, a1, a2, a3, a4⟩ := H
  refine ⟨n, a1, by rw [e2]; exact a2, by rw [e1 _ (by omega) (by omega)]; exact a3, fun k hk => ⟨fun p hp => ?_, ?_⟩⟩
  · rw [e3, e1 _ (by omega) (by omega)]; exact (a4 k hk).1 p hp
  · rw [e1 _ (by omega) (by omega), e1 _ (by omega) (by omega), e1 _ (by omega) (by omega), e1 _ (by omega) (by omega)]; exact (a4 k hk).2
theorem qPa.lm {h h' : qm_H} {a m : Nat} (H : qPa h a m) (e1 : ∀ k, m ≤ k → k < m + 17 → h'.1 70 k = h.1 70 k) (e2 : ∀ k, h'.1 a k = h.1 a k) (e3 : ∀ k, h'.1 (a + 1) k = h.1 (a + 1) k) (e4 : ∀ k, h'.1 (a + 2) k = h.1 (a + 2) k) : qPa h' a m := by
  obtain ⟨n, p, c, R, P, a1, a2, a3, a4, b1, b2, b3, b4, b5, b6, c1, c2⟩ := H
  refine ⟨n, p, c, R, P, a1, a2, a3, a4, by rw [e2]; exact b1, by rw [e2]; exact b2, by rw [e2]; exact b3, by rw [e1 _ (by omega) (by omega)]; exact b4, by rw [e1 _ (by omega) (by omega)]; exact b5, by rw [e1 _ (by omega) (by omega)]; exact b6, fun k hk => ?_, fun k hk => ?_⟩
  · rw [e3, e1 _ (by omega) (by omega)]; exact c1 k hk
  · rw [e4, e1 _ (by omega) (by omega)]; exact c2 k hk
theorem qCl.lm {h h' : qm_H} {a m : Nat} (H : qCl h a m) (e1 : ∀ k, m ≤ k → k < m + 33 → h'.1 71 k = h.1 71 k) (e2 : ∀ k, h'.1 a k = h.1 a k) (e3 : ∀ k, h'.1 (a + 1) k = h.1 (a + 1) k) : qCl h' a m := by
  obtain ⟨w, g, n, T, X, Y, a1, a2, a3, a4, a5, b1, b2, b3, b4, b5, b6, c⟩ := H
  refine ⟨w, g, n, T, X, Y, a1, a2, a3, a4, a5, by rw [e2]; exact b1, by rw [e2]; exact b2, by rw [e2]; exact b3, by rw [e1 _ (by omega) (by omega)]; exact b4, by rw [e1 _ (by omega) (by omega)]; exact b5, by rw [e1 _ (by omega) (by omega)]; exact b6, fun k hk => ?_⟩
  rw [e3, e3, e3, e1 _ (by omega) (by omega), e1 _ (by omega) (by omega), e1 _ (by omega) (by omega)]
  exact c k hk
/-- the one that is told: both sides hold it -/
def yObj (s i : Nat) (h : qm_H) : Prop := (s = 0 ∧ ∃ β, bOK β ∧ bC (8 + 11 * i) β h ∧ bS i β h) ∨ (s = 1 ∧ qYr h (12 + 11 * i) (161 * i)) ∨ (s = 2 ∧ qPa h (14 + 11 * i) (17 * i)) ∨ (s = 3 ∧ qCl h (17 + 11 * i) (33 * i))
def yOwn (s i a : Nat) : Prop := (s = 0 ∧ 8 + 11 * i ≤ a ∧ a ≤ 10 + 11 * i) ∨ (s = 1 ∧ 12 + 11 * i ≤ a ∧ a ≤ 13 + 11 * i) ∨ (s = 2 ∧ 14 + 11 * i ≤ a ∧ a ≤ 16 + 11 * i) ∨ (s = 3 ∧ 17 + 11 * i ≤ a ∧ a ≤ 18 + 11 * i)
def yRow (s i a k : Nat) : Prop := (s = 0 ∧ a = 68 ∧ 43 * i ≤ k ∧ k < 43 * i + 43) ∨ (s = 1 ∧ a = 69 ∧ 161 * i ≤ k ∧ k < 161 * i + 161) ∨ (s = 2 ∧ a = 70 ∧ 17 * i ≤ k ∧ k < 17 * i + 17) ∨ (s = 3 ∧ a = 71 ∧ 33 * i ≤ k ∧ k < 33 * i + 33)
theorem qTo.put {h h' : qm_H} {m m' : Nat → Nat} {s i : Nat} (T : qTo h 1 0 m) (hi : i < 2) (hm : ∀ j, j < 4 → m' j ≤ 2 ∧ h'.1 3 j = nI (m' j) ∧ h'.1 67 j = nI (m' j)) (ho : ∀ j, j < 4 → ∀ q, q < m' j → (j = s ∧ q = i) ∨ q < m j) (ec : ∀ a k, 8 ≤ a → a ≤ 29 → a ≠ 11 → a ≠ 22 → ¬ yOwn s i a → h'.1 a k = h.1 a k ∧ h'.2 a k = h.2 a k) (er : ∀ a k, 68 ≤ a → a ≤ 71 → ¬ yRow s i a k → h'.1 a k = h.1 a k) (O : yObj s i h') : qTo h' 1 0 m' := by
  obtain ⟨_, t2, t3, t4, t5, t6⟩ := T
  have wm := fun j hj => (hm j hj).1
  have w0 := wm 0 (by omega)
  have w1 := wm 1 (by omega)
  have w2 := wm 2 (by omega)
  have w3 := wm 3 (by omega)
  refine ⟨fun j hj => ?_, fun q hq => ?_, fun q hq => ?_, fun q hq => ?_, fun q hq => ?_, fun q hq => ?_⟩
  · simp only [Nat.mul_zero, Nat.zero_add]
    exact hm j hj
  · simp only [Nat.mul_zero, Nat.zero_add]
    by_cases z : 0 = s ∧ q = i
    · obtain ⟨rfl, rfl⟩ := z
      rcases O with ⟨_, o⟩ | ⟨o, _⟩ | ⟨o, _⟩ | ⟨o, _⟩
      · exact o
      · omega
      · omega
      · omega
    · have hq' : q < m 0 := by
        rcases ho 0 (by omega) q hq with y | y
        · exact absurd ⟨y.1, y.2⟩ z
        · exact y
      obtain ⟨β, b1, b2, b3⟩ := t2 q hq'
      simp only [Nat.mul_zero, Nat.zero_add] at b3
      exact ⟨β, b1, b2.mv (fun a k h1 h2 => (ec a k (by omega) (by omega) (by omega) (by omega) (by unfold yOwn; omega)).1) (ec _ _ (by omega) (by omega) (by omega) (by omega) (by unfold yOwn; omega)).2, b3.lm (fun k h1 h2 => er _ _ (by omega) (by omega) (by unfold yRow; omega))⟩
  · simp only [Nat.mul_zero, Nat.zero_add]
    by_cases z : 1 = s ∧ q = i
    · obtain ⟨rfl, rfl⟩ := z
      rcases O with ⟨o, _⟩ | ⟨_, o⟩ | ⟨o, _⟩ | ⟨o, _⟩
      · omega
      · exact o
      · omega
      · omega
    · have hq' : q < m 1 := by
        rcases ho 1 (by omega) q hq with y | y
        · exact absurd ⟨y.1, y.2⟩ z
        · exact y
      have b := t3 q hq'
      simp only [Nat.mul_zero, Nat.zero_add] at b
      exact b.lm (fun k h1 h2 => er _ _ (by omega) (by omega) (by unfold yRow; omega)) (fun k => (ec _ _ (by omega) (by omega) (by omega) (by omega) (by unfold yOwn; omega)).1) (fun k => (ec _ _ (by omega) (by omega) (by omega) (by omega) (by unfold yOwn; omega)).1)
  · simp only [Nat.mul_zero, Nat.zero_add]
    by_cases z : 2 = s ∧ q = i
    · obtain ⟨rfl, rfl⟩ := z
      rcases O with ⟨o, _⟩ | ⟨o, _⟩ | ⟨_, o⟩ | ⟨o, _⟩
      · omega
      · omega
      · exact o
      · omega
    · have hq' : q < m 2 := by
        rcases ho 2 (by omega) q hq with y | y
        · exact absurd ⟨y.1, y.2⟩ z
        · exact y
      have b := t4 q hq'
      simp only [Nat.mul_zero, Nat.zero_add] at b
      exact b.lm (fun k h1 h2 => er _ _ (by omega) (by omega) (by unfold yRow; omega)) (fun k => (ec _ _ (by omega) (by omega) (by omega) (by omega) (by unfold yOwn; omega)).1) (fun k => (ec _ _ (by omega) (by omega) (by omega) (by omega) (by unfold yOwn; omega)).1) (fun k => (ec _ _ (by omega) (by omega) (by omega) (by omega) (by unfold yOwn; omega)).1)
  · simp only [Nat.mul_zero, Nat.zero_add]
    by_cases z : 3 = s ∧ q = i
    · obtain ⟨rfl, rfl⟩ := z
      rcases O with ⟨o, _⟩ | ⟨o, _⟩ | ⟨o, _⟩ | ⟨_, o⟩
      · omega
      · omega
      · omega
      · exact o
    · have hq' : q < m 3 := by
        rcases ho 3 (by omega) q hq with y | y
        · exact absurd ⟨y.1, y.2⟩ z
        · exact y
      have b := t5 q hq'
      simp only [Nat.mul_zero, Nat.zero_add] at b
      exact b.lm (fun k h1 h2 => er _ _ (by omega) (by omega) (by unfold yRow; omega)) (fun k => (ec _ _ (by omega) (by omega) (by omega) (by omega) (by unfold yOwn; omega)).1) (fun k => (ec _ _ (by omega) (by omega) (by omega) (by omega) (by unfold yOwn; omega)).1)
  · by_cases z : s = 0 ∧ q = i
    · obtain ⟨rfl, rfl⟩ := z
      rcases O with ⟨_, β, b1, b2, b3⟩ | ⟨o, _⟩ | ⟨o, _⟩ | ⟨o, _⟩
      · have e := b2.2.2.1
        have hb := b1.2.2.2.2.1
        rw [show 1 + 7 + 11 * q = 8 + 11 * q from rfl, e]
        rcases (show bx β = 0 ∨ bx β = 1 by omega) with y | y
        · rw [y]; decide
        · rw [y]; decide
      · omega
      · omega
      · omega
    · rw [(ec (1 + 7 + 11 * q) 5 (by omega) (by omega) (by omega) (by omega) (by unfold yOwn; omega)).1]
      exact t6 q hq
theorem m_store {w n1 a1 i : Nat} (hw : w ≤ 161) (ha : a1 ≠ 72) (hb : w * i + w ≤ n1) (hn : n1 < 3000) : ∀ d j h fuel, j + d = w → d < fuel → ∃ h', qX12_store_3 fuel 62 n1 a1 (nI w) (nI i) (nI j) h = some h' ∧ (∀ k, j ≤ k → k < w → h'.1 a1 (w * i + k) = h.1 72 k) ∧ qFr (fun a k => a = a1 ∧ w * i + j ≤ k ∧ k < w * i + w) h h' := by
  intro d
  induction d with
  | zero =>
    intro j h fuel hj hf
    obtain ⟨g, rfl⟩ : ∃ g, fuel = g + 1 := ⟨fuel - 1, by omega⟩
    refine ⟨h, ?_, fun k h1 h2 => by omega, qFr.refl _ _⟩
    unfold qX12_store_3
    simp (disch := omega) only [↓reduceIte, ↓q_m1, ↓q_m2, k_o, k_0, k_1, k_2, k_3, k_4, k_5, k_6, k_7, k_8, k_9, k_10, k_11, k_16, k_17, k_19, k_20, k_24, k_26, k_27, k_30, k_32, k_33, k_35, k_40, k_43, k_48, k_50, k_57, k_60, k_64, k_81, k_86, k_34, k_66, k_322, k_97, k_99, k_100, k_122, k_128, k_160, k_161, k_255, k_256, k_512, k_580, k_600, k_1000, k_4096, k_far, k_o, nI_add, n_mul, n_sub, n_div, n_rem, n_lt, n_le, n_eq, n_cl, n_and, n_or, n_xor, m1_lt, lt_m1, m1_eq, eq_m1, le_m1, m1_le, m2_eq, up_eq, up_ne, n_shl, n_shr, b2_some, let_e, ob_some, bI_0, bI_a, bI_t, bI_f, if_true, if_false, ite_true, ite_false, true_and, and_true, false_and, and_false, true_or, or_true, false_or, or_false, not_true_eq_false, not_false_eq_true, ite_not, ne_eq, Bool.true_eq_false, Bool.false_eq_true, reduceCtorEq, decide_true, decide_false, Bool.and_true, Bool.and_false, Bool.true_and, Bool.false_and, Bool.or_true, Bool.or_false, Bool.not_true, Bool.not_false, Nat.add_zero, Nat.zero_add, eq_self, Nat.not_lt_zero, Nat.reduceAdd, Nat.reduceMul, Nat.reduceSub, Nat.reduceDiv, Nat.reduceMod, Nat.reduceAnd, Nat.reduceXor, Nat.reduceEqDiff, Nat.reducePow, lt_T, lt_F, le_T, le_F, eq_F]
  | succ d ih =>
    intro j h fuel hj hf
    obtain ⟨g, rfl⟩ : ∃ g, fuel = g + 1 := ⟨fuel - 1, by omega⟩
    obtain ⟨h', b1, b2, b3⟩ := ih (j + 1) (qm_seti h a1 (w * i + j) (h.1 72 j)) g (by omega) (by omega)
    refine ⟨h', ?_, fun k h1 h2 => ?_, (qFr.seti (by omega)).trans (b3.mono (fun a k z => by omega))⟩
    · unfold qX12_store_3
      simp (disch := omega) only [↓reduceIte, ↓q_m1, ↓q_m2, k_o, k_0, k_1, k_2, k_3, k_4, k_5, k_6, k_7, k_8, k_9, k_10, k_11, k_16, k_17, k_19, k_20, k_24, k_26, k_27, k_30, k_32, k_33, k_35, k_40, k_43, k_48, k_50, k_57, k_60, k_64, k_81, k_86, k_34, k_66, k_322, k_97, k_99, k_100, k_122, k_128, k_160, k_161, k_255, k_256, k_512, k_580, k_600, k_1000, k_4096, k_far, k_o, nI_add, n_mul, n_sub, n_div, n_rem, n_lt, n_le, n_eq, n_cl, n_and, n_or, n_xor, m1_lt, lt_m1, m1_eq, eq_m1, le_m1, m1_le, m2_eq, up_eq, up_ne, n_shl, n_shr, b2_some, let_e, ob_some, bI_0, bI_a, bI_t, bI_f, if_true, if_false, ite_true, ite_false, true_and, and_true, false_and, and_false, true_or, or_true, false_or, or_false, not_true_eq_false, not_false_eq_true, ite_not, ne_eq, Bool.true_eq_false, Bool.false_eq_true, reduceCtorEq, decide_true, decide_false, Bool.and_true, Bool.and_false, Bool.true_and, Bool.false_and, Bool.or_true, Bool.or_false, Bool.not_true, Bool.not_false, Nat.add_zero, Nat.zero_add, eq_self, Nat.not_lt_zero, Nat.reduceAdd, Nat.reduceMul, Nat.reduceSub, Nat.reduceDiv, Nat.reduceMod, Nat.reduceAnd, Nat.reduceXor, Nat.reduceEqDiff, Nat.reducePow, lt_T, lt_F, le_T, le_F, eq_F]
      exact b1
    · by_cases z : k = j
      · rw [z, (b3 _ _ (by omega)).1, sI_eq]
      · rw [b2 k (by omega) h2, sI_ne (by omega)]
