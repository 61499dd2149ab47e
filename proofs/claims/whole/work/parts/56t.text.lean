/-! THE PAIR: text. -/
/-- what reading writes -/
def yQ (a k : Nat) : Prop := cP a k ∨ a = 62 ∨ a = 72 ∨ a = 73 ∨ a = 1 ∨ ((a = 64 ∨ a = 65 ∨ a = 66) ∧ k = 0)
theorem y_tp {h g : qm_H} (R : qR h) (e : qFr yQ h g) (e6 : g.1 1 6 = nI 0) (e64 : g.1 64 0 = nI 0) (e7 : g.1 1 7 = g.1 65 0) (e8 : g.1 1 8 = g.1 66 0) : qR g := by
  obtain ⟨_, _, _, t4⟩ := R.1.1
  refine R.tp (fun a k hk => e a k (by unfold qScr at hk; unfold yQ cP; omega)) (R.2.2.mv (fun a k hk => (e a k (by unfold yQ cP; omega)).1)) ⟨⟨0, by omega, e6, e64⟩, e7, e8, fun j hj => ?_⟩
  rw [(e _ _ (by unfold yQ cP; omega)).1, (e _ _ (by unfold yQ cP; omega)).1]
  exact t4 j hj
theorem y_put {h g : qm_H} {m m' : Nat → Nat} {s i : Nat} (R : qR h) (T : qTo h 1 0 m) (hs : s < 4) (hi : i < 2) (e : qFr (fun a k => yQ a k ∨ yOwn s i a ∨ (a = 3 ∧ k = s) ∨ (a = 67 ∧ k = s) ∨ yRow s i a k) h g) (e6 : g.1 1 6 = nI 0) (e64 : g.1 64 0 = nI 0) (e7 : g.1 1 7 = g.1 65 0) (e8 : g.1 1 8 = g.1 66 0) (hm : ∀ j, j < 4 → m' j ≤ 2 ∧ g.1 3 j = nI (m' j) ∧ g.1 67 j = nI (m' j)) (ho : ∀ j, j < 4 → ∀ q, q < m' j → (j = s ∧ q = i) ∨ q < m j) (O : yObj s i g) : qR g := by
  obtain ⟨_, _, _, t4⟩ := R.1.1
  have e' : ∀ a k, ¬ yQ a k → ¬ yOwn s i a → ¬ (a = 3 ∧ k = s) → ¬ (a = 67 ∧ k = s) → ¬ yRow s i a k → g.1 a k = h.1 a k ∧ g.2 a k = h.2 a k := fun a k z1 z2 z3 z4 z5 => e a k (fun y => by
    rcases y with y | y | y | y | y
    · exact z1 y
    · exact z2 y
    · exact z3 y
    · exact z4 y
    · exact z5 y)
  refine ⟨⟨⟨⟨0, by omega, e6, e64⟩, e7, e8, fun j hj => ?_⟩, m', T.put hi hm ho (fun a k h1 h2 h3 h4 h5 => e' a k (by unfold yQ cP; omega) h5 (by omega) (by omega) (by unfold yRow; omega)) (fun a k h1 h2 h3 => (e' a k (by unfold yQ cP; omega) (by unfold yOwn; omega) (by omega) (by omega) h3).1) O⟩, fun k hk => ?_, R.2.2.mv (fun a k hk => (e' a k (by unfold yQ cP; omega) (by unfold yOwn; omega) (by omega) (by omega) (by unfold yRow; omega)).1)⟩
  · rw [(e' _ _ (by unfold yQ cP; omega) (by unfold yOwn; omega) (by omega) (by omega) (by unfold yRow; omega)).1, (e' _ _ (by unfold yQ cP; omega) (by unfold yOwn; omega) (by omega) (by omega) (by unfold yRow; omega)).1]
    exact t4 j hj
  · rw [(e' 30 k (by unfold yQ cP; omega) (by unfold yOwn; omega) (by omega) (by omega) (by unfold yRow; omega)).1, (e' 87 k (by unfold yQ cP; omega) (by unfold yOwn; omega) (by omega) (by omega) (by unfold yRow; omega)).1]
    rcases R.2.1 k hk with w | ⟨w1, w2, w3⟩
    · exact Or.inl w
    · refine Or.inr ⟨w1, w2, w3.copy (cpC.same (fun a kk h1 h2 _ _ => e' a kk (by unfold yQ cP; omega) (by unfold yOwn; omega) (by omega) (by omega) (by unfold yRow; omega))) (cpM.same (fun b j z => (e' b j ?_ ?_ ?_ ?_ ?_).1))⟩
      · unfold slM at z; unfold yQ cP; omega
      · unfold slM at z; unfold yOwn; omega
      · unfold slM at z; omega
      · unfold slM at z; omega
      · unfold slM at z; unfold yRow; omega
theorem y_store {s i : Nat} (hs : s < 4) (hi : i < 2) (h : qm_H) : ∃ g, qX12_storeAll 62 (nI s) (nI i) h = some g ∧ (∀ k, k < yW s → g.1 (68 + s) (yW s * i + k) = h.1 72 k) ∧ qFr (yRow s i) h g := by
  rcases (show s = 0 ∨ s = 1 ∨ s = 2 ∨ s = 3 by omega) with rfl | rfl | rfl | rfl
  · obtain ⟨g, a1, a2, a3⟩ := m_store (w := 43) (n1 := 344) (a1 := 68) (i := i) (by omega) (by omega) (by omega) (by omega) 43 0 h qm_N (by omega) (by unfold qm_N; omega)
    refine ⟨g, ?_, fun k hk => a2 k (by omega) hk, a3.mono (fun a k z => by unfold yRow; omega)⟩
    unfold qX12_storeAll qX12_store
    simp (disch := omega) only [↓reduceIte, ↓q_m1, ↓q_m2, k_o, k_0, k_1, k_2, k_3, k_4, k_5, k_6, k_7, k_8, k_9, k_10, k_11, k_16, k_17, k_19, k_20, k_24, k_26, k_27, k_30, k_32, k_33, k_35, k_40, k_43, k_48, k_50, k_57, k_60, k_64, k_81, k_86, k_34, k_66, k_322, k_97, k_99, k_100, k_122, k_128, k_160, k_161, k_255, k_256, k_512, k_580, k_600, k_1000, k_4096, k_far, k_o, nI_add, n_mul, n_sub, n_div, n_rem, n_lt, n_le, n_eq, n_cl, n_and, n_or, n_xor, m1_lt, lt_m1, m1_eq, eq_m1, le_m1, m1_le, m2_eq, up_eq, up_ne, n_shl, n_shr, b2_some, let_e, ob_some, bI_0, bI_a, bI_t, bI_f, if_true, if_false, ite_true, ite_false, true_and, and_true, false_and, and_false, true_or, or_true, false_or, or_false, not_true_eq_false, not_false_eq_true, ite_not, ne_eq, Bool.true_eq_false, Bool.false_eq_true, reduceCtorEq, decide_true, decide_false, Bool.and_true, Bool.and_false, Bool.true_and, Bool.false_and, Bool.or_true, Bool.or_false, Bool.not_true, Bool.not_false, Nat.add_zero, Nat.zero_add, eq_self, Nat.not_lt_zero, Nat.reduceAdd, Nat.reduceMul, Nat.reduceSub, Nat.reduceDiv, Nat.reduceMod, Nat.reduceAnd, Nat.reduceXor, Nat.reduceEqDiff, Nat.reducePow, lt_T, lt_F, le_T, le_F, eq_F, a1]
  · obtain ⟨g, a1, a2, a3⟩ := m_store (w := 161) (n1 := 1288) (a1 := 69) (i := i) (by omega) (by omega) (by omega) (by omega) 161 0 h qm_N (by omega) (by unfold qm_N; omega)
    refine ⟨g, ?_, fun k hk => a2 k (by omega) hk, a3.mono (fun a k z => by unfold yRow; omega)⟩
    unfold qX12_storeAll qX12_store
    simp (disch := omega) only [↓reduceIte, ↓q_m1, ↓q_m2, k_o, k_0, k_1, k_2, k_3, k_4, k_5, k_6, k_7, k_8, k_9, k_10, k_11, k_16, k_17, k_19, k_20, k_24, k_26, k_27, k_30, k_32, k_33, k_35, k_40, k_43, k_48, k_50, k_57, k_60, k_64, k_81, k_86, k_34, k_66, k_322, k_97, k_99, k_100, k_122, k_128, k_160, k_161, k_255, k_256, k_512, k_580, k_600, k_1000, k_4096, k_far, k_o, nI_add, n_mul, n_sub, n_div, n_rem, n_lt, n_le, n_eq, n_cl, n_and, n_or, n_xor, m1_lt, lt_m1, m1_eq, eq_m1, le_m1, m1_le, m2_eq, up_eq, up_ne, n_shl, n_shr, b2_some, let_e, ob_some, bI_0, bI_a, bI_t, bI_f, if_true, if_false, ite_true, ite_false, true_and, and_true, false_and, and_false, true_or, or_true, false_or, or_false, not_true_eq_false, not_false_eq_true, ite_not, ne_eq, Bool.true_eq_false, Bool.false_eq_true, reduceCtorEq, decide_true, decide_false, Bool.and_true, Bool.and_false, Bool.true_and, Bool.false_and, Bool.or_true, Bool.or_false, Bool.not_true, Bool.not_false, Nat.add_zero, Nat.zero_add, eq_self, Nat.not_lt_zero, Nat.reduceAdd, Nat.reduceMul, Nat.reduceSub, Nat.reduceDiv, Nat.reduceMod, Nat.reduceAnd, Nat.reduceXor, Nat.reduceEqDiff, Nat.reducePow, lt_T, lt_F, le_T, le_F, eq_F, a1]
  · obtain ⟨g, a1, a2, a3⟩ := m_store (w := 17) (n1 := 136) (a1 := 70) (i := i) (by omega) (by omega) (by omega) (by omega) 17 0 h qm_N (by omega) (by unfold qm_N; omega)
    refine ⟨g, ?_, fun k hk => a2 k (by omega) hk, a3.mono (fun a k z => by unfold yRow; omega)⟩
    unfold qX12_storeAll qX12_store
    simp (disch := omega) only [↓reduceIte, ↓q_m1, ↓q_m2, k_o, k_0, k_1, k_2, k_3, k_4, k_5, k_6, k_7, k_8, k_9, k_10, k_11, k_16, k_17, k_19, k_20, k_24, k_26, k_27, k_30, k_32, k_33, k_35, k_40, k_43, k_48, k_50, k_57, k_60, k_64, k_81, k_86, k_34, k_66, k_322, k_97, k_99, k_100, k_122, k_128, k_160, k_161, k_255, k_256, k_512, k_580, k_600, k_1000, k_4096, k_far, k_o, nI_add, n_mul, n_sub, n_div, n_rem, n_lt, n_le, n_eq, n_cl, n_and, n_or, n_xor, m1_lt, lt_m1, m1_eq, eq_m1, le_m1, m1_le, m2_eq, up_eq, up_ne, n_shl, n_shr, b2_some, let_e, ob_some, bI_0, bI_a, bI_t, bI_f, if_true, if_false, ite_true, ite_false, true_and, and_true, false_and, and_false, true_or, or_true, false_or, or_false, not_true_eq_false, not_false_eq_true, ite_not, ne_eq, Bool.true_eq_false, Bool.false_eq_true, reduceCtorEq, decide_true, decide_false, Bool.and_true, Bool.and_false, Bool.true_and, Bool.false_and, Bool.or_true, Bool.or_false, Bool.not_true, Bool.not_false, Nat.add_zero, Nat.zero_add, eq_self, Nat.not_lt_zero, Nat.reduceAdd, Nat.reduceMul, Nat.reduceSub, Nat.reduceDiv, Nat.reduceMod, Nat.reduceAnd, Nat.reduceXor, Nat.reduceEqDiff, Nat.reducePow, lt_T, lt_F, le_T, le_F, eq_F, a1]
  · obtain ⟨g, a1, a2, a3⟩ := m_store (w := 33) (n1 := 264) (a1 := 71) (i := i) (by omega) (by omega) (by omega) (by omega) 33 0 h qm_N (by omega) (by unfold qm_N; omega)
    refine ⟨g, ?_, fun k hk => a2 k (by omega) hk, a3.mono (fun a k z => by unfold yRow; omega)⟩
    unfold qX12_storeAll qX12_store
    simp (disch := omega) only [↓reduceIte, ↓q_m1, ↓q_m2, k_o, k_0, k_1, k_2, k_3, k_4, k_5, k_6, k_7, k_8, k_9, k_10, k_11, k_16, k_17, k_19, k_20, k_24, k_26, k_27, k_30, k_32, k_33, k_35, k_40, k_43, k_48, k_50, k_57, k_60, k_64, k_81, k_86, k_34, k_66, k_322, k_97, k_99, k_100, k_122, k_128, k_160, k_161, k_255, k_256, k_512, k_580, k_600, k_1000, k_4096, k_far, k_o, nI_add, n_mul, n_sub, n_div, n_rem, n_lt, n_le, n_eq, n_cl, n_and, n_or, n_xor, m1_lt, lt_m1, m1_eq, eq_m1, le_m1, m1_le, m2_eq, up_eq, up_ne, n_shl, n_shr, b2_some, let_e, ob_some, bI_0, bI_a, bI_t, bI_f, if_true, if_false, ite_true, ite_false, true_and, and_true, false_and, and_false, true_or, or_true, false_or, or_false, not_true_eq_false, not_false_eq_true, ite_not, ne_eq, Bool.true_eq_false, Bool.false_eq_true, reduceCtorEq, decide_true, decide_false, Bool.and_true, Bool.and_false, Bool.true_and, Bool.false_and, Bool.or_true, Bool.or_false, Bool.not_true, Bool.not_false, Nat.add_zero, Nat.zero_add, eq_self, Nat.not_lt_zero, Nat.reduceAdd, Nat.reduceMul, Nat.reduceSub, Nat.reduceDiv, Nat.reduceMod, Nat.reduceAnd, Nat.reduceXor, Nat.reduceEqDiff, Nat.reducePow, lt_T, lt_F, le_T, le_F, eq_F, a1]
/-- both begin -/
def yC0 (h : qm_H) : qm_H := qm_seti (qm_seti (qm_seti h 1 6 (nI 0)) 1 7 (nI 0)) 1 8 m1
def yM0 (n : Nat) (h : qm_H) : qm_H := qm_seti (qm_seti (qm_seti (qm_seti (qm_seti h 62 0 (nI 0)) 62 11 (nI n)) 64 0 (nI 0)) 65 0 (nI 0)) 66 0 m1
theorem yC0_f (h : qm_H) : qFr (fun a k => a = 1 ∧ 6 ≤ k ∧ k ≤ 8) h (yC0 h) ∧ (yC0 h).1 1 6 = nI 0 ∧ (yC0 h).1 1 7 = nI 0 ∧ (yC0 h).1 1 8 = m1 := by
  unfold yC0
  refine ⟨((qFr.seti (by omega)).trans (qFr.seti (by omega))).trans (qFr.seti (by omega)), ?_, ?_, sI_eq _ _ _ _⟩
  · rw [sI_ne (by omega), sI_ne (by omega)]; exact sI_eq _ _ _ _
  · rw [sI_ne (by omega)]; exact sI_eq _ _ _ _
def yM0P (a k : Nat) : Prop := (a = 62 ∧ (k = 0 ∨ k = 11)) ∨ ((a = 64 ∨ a = 65 ∨ a = 66) ∧ k = 0)
theorem yM0_f (n : Nat) (h : qm_H) : qFr yM0P h (yM0 n h) ∧ (yM0 n h).1 62 11 = nI n ∧ (yM0 n h).1 64 0 = nI 0 ∧ (yM0 n h).1 65 0 = nI 0 ∧ (yM0 n h).1 66 0 = m1 := by
  unfold yM0
  refine ⟨((((qFr.seti (by unfold yM0P; omega)).trans (qFr.seti (by unfold yM0P; omega))).trans (qFr.seti (by unfold yM0P; omega))).trans (qFr.seti (by unfold yM0P; omega))).trans (qFr.seti (by unfold yM0P; omega)), ?_, ?_, ?_, sI_eq _ _ _ _⟩
  · rw [sI_ne (by omega), sI_ne (by omega), sI_ne (by omega)]; exact sI_eq _ _ _ _
  · rw [sI_ne (by omega), sI_ne (by omega)]; exact sI_eq _ _ _ _
  · rw [sI_ne (by omega)]; exact sI_eq _ _ _ _
theorem y_main {h : qm_H} {m : Nat → Nat} {n s i nw : Nat} {x2 : Int32} (R : qR h) (T : qTo h 1 0 m) (hn : n ≤ 600) (hs : s < 4) (bs : yBoth s) (hi : i < 2) (hx : (nw = 1 ∧ i = m s ∧ x2 = m1) ∨ (nw = 0 ∧ i < m s ∧ x2 = nI i)) : ∃ r h1 h2, qX11_text_94 0 (nI s) x2 (nI n) (nI (m s)) (nI nw) (yC0 h) = some (r, h1) ∧ qX12_text_75 62 (nI s) x2 (yM0 n h1) = some (r, h2) ∧ qR h2 ∧ h1.1 64 0 = h.1 64 0 ∧ h1.1 67 s = h.1 67 s := by
  obtain ⟨_, _, _, t4⟩ := R.1.1
  have tm := T.1 s hs
  simp only [Nat.mul_zero, Nat.zero_add] at tm
  obtain ⟨tm1, tm2, tm3⟩ := tm
  obtain ⟨c0, c6, c7, c8⟩ := yC0_f h
  have ex : ∀ j, ∃ c, j < 600 → ytB (h.1 2 j) c := fun j => by
    by_cases z : j < 600
    · obtain ⟨c, hc⟩ := ytB_ex (t4 j z).2
      exact ⟨c, fun _ => hc⟩
    · exact ⟨0, fun y => absurd y z⟩
  obtain ⟨B, hB⟩ := Classical.axiomOfChoice ex
  obtain ⟨f, q, hR, OC, OM, b1, b2, b3, b4, b5, b6, b7, b8, b9⟩ := bs B n (yC0 h) hn (fun j hj => by rw [(c0 _ _ (by omega)).1]; exact hB j (by omega))
  have c0' : qFr yQ h (yC0 h) := c0.mono (fun a k z => by unfold yQ; omega)
  have b6' : qFr yQ (yC0 h) hR := b6.mono (fun a k z => Or.inl z)
  have t63 : ∀ j, j < n → ytB (h.1 63 j) (B j) := fun j hj => by
    have := (t4 j (by omega)).1
    simp only [Nat.mul_zero, Nat.zero_add] at this
    rw [← this]
    exact hB j (by omega)
  by_cases z : f = 0
  · rw [z] at b4
    obtain ⟨h2, k1, k2, k3⟩ := b7 z i hi
    -- behind the class
    have main : ∀ h1 : qm_H, qX11_text_94 0 (nI s) x2 (nI n) (nI (m s)) (nI nw) (yC0 h) = some (nI i, h1) → h1.1 3 s = nI (m s + nw) → qFr (fun a k => a = 3 ∧ k = s) h2 h1 → ∃ r h1 h2, qX11_text_94 0 (nI s) x2 (nI n) (nI (m s)) (nI nw) (yC0 h) = some (r, h1) ∧ qX12_text_75 62 (nI s) x2 (yM0 n h1) = some (r, h2) ∧ qR h2 ∧ h1.1 64 0 = h.1 64 0 ∧ h1.1 67 s = h.1 67 s := by
      intro h1 p1 p2 p3
      obtain ⟨d0, d11, d64, d65, d66⟩ := yM0_f n h1
      have g : ∀ a k, ¬ yQ a k → ¬ yOwn s i a → ¬ (a = 3 ∧ k = s) → h1.1 a k = h.1 a k ∧ h1.2 a k = h.2 a k := fun a k w1 w2 w3 => ⟨by rw [(p3 _ _ w3).1, (k3 _ _ w2).1, (b6' _ _ w1).1, (c0' _ _ w1).1], by rw [(p3 _ _ w3).2, (k3 _ _ w2).2, (b6' _ _ w1).2, (c0' _ _ w1).2]⟩
      have gq : ∀ a k, ¬ cP a k → ¬ yOwn s i a → ¬ (a = 3 ∧ k = s) → h1.1 a k = (yC0 h).1 a k := fun a k w1 w2 w3 => by rw [(p3 _ _ w3).1, (k3 _ _ w2).1, (b6 _ _ w1).1]
      have e67 : h1.1 67 s = nI (m s) := by rw [(g 67 s (by unfold yQ cP; omega) (by unfold yOwn; omega) (by omega)).1]; exact tm3
      obtain ⟨h3, r1, r2, r3, r4, r5⟩ := b8 (yM0 n h1) d11 (fun j hj => by rw [(d0 _ _ (by unfold yM0P; omega)).1, (g 63 j (by unfold yQ cP; omega) (by unfold yOwn; omega) (by omega)).1]; exact t63 j hj)
      rw [z] at r1 r2
      rw [if_pos rfl] at r1
      rw [if_pos z] at r3
      have e67' : h3.1 67 s = nI (m s) := by rw [(r5 _ _ (by unfold rP; omega)).1, (d0 _ _ (by unfold yM0P; omega)).1]; exact e67
      obtain ⟨g5, s1, s2, s3⟩ := y_store hs hi (qm_seti h3 67 s (nI (m s + nw)))
      have g5c : ∀ a k, ¬ yRow s i a k → ¬ (a = 67 ∧ k = s) → ¬ rP a k → ¬ ((a = 65 ∨ a = 66) ∧ k = 0) → ¬ yM0P a k → g5.1 a k = h1.1 a k ∧ g5.2 a k = h1.2 a k := fun a k w1 w2 w3 w4 w5 => ⟨by rw [(s3 _ _ w1).1, sI_ne w2, (r5 _ _ (fun y => y.elim w3 w4)).1, (d0 _ _ w5).1], by rw [(s3 _ _ w1).2, sI_2, (r5 _ _ (fun y => y.elim w3 w4)).2, (d0 _ _ w5).2]⟩
      refine ⟨nI i, h1, g5, p1, ?_, ?_, ?_, ?_⟩
      · rcases hx with ⟨x1, x3, x4⟩ | ⟨x1, x3, x4⟩
        · subst x1 x4
          unfold qX12_text_75 qX12_text_118
          rw [← x3] at e67' s1
          simp (disch := omega) only [↓reduceIte, ↓q_m1, ↓q_m2, k_o, k_0, k_1, k_2, k_3, k_4, k_5, k_6, k_7, k_8, k_9, k_10, k_11, k_16, k_17, k_19, k_20, k_24, k_26, k_27, k_30, k_32, k_33, k_35, k_40, k_43, k_48, k_50, k_57, k_60, k_64, k_81, k_86, k_34, k_66, k_322, k_97, k_99, k_100, k_122, k_128, k_160, k_161, k_255, k_256, k_512, k_580, k_600, k_1000, k_4096, k_far, k_o, nI_add, n_mul, n_sub, n_div, n_rem, n_lt, n_le, n_eq, n_cl, n_and, n_or, n_xor, m1_lt, lt_m1, m1_eq, eq_m1, le_m1, m1_le, m2_eq, up_eq, up_ne, n_shl, n_shr, b2_some, let_e, ob_some, bI_0, bI_a, bI_t, bI_f, if_true, if_false, ite_true, ite_false, true_and, and_true, false_and, and_false, true_or, or_true, false_or, or_false, not_true_eq_false, not_false_eq_true, ite_not, ne_eq, Bool.true_eq_false, Bool.false_eq_true, reduceCtorEq, decide_true, decide_false, Bool.and_true, Bool.and_false, Bool.true_and, Bool.false_and, Bool.or_true, Bool.or_false, Bool.not_true, Bool.not_false, Nat.add_zero, Nat.zero_add, eq_self, Nat.not_lt_zero, Nat.reduceAdd, Nat.reduceMul, Nat.reduceSub, Nat.reduceDiv, Nat.reduceMod, Nat.reduceAnd, Nat.reduceXor, Nat.reduceEqDiff, Nat.reducePow, lt_T, lt_F, le_T, le_F, eq_F, r1, e67', s1]
        · subst x1 x4
          rw [Nat.add_zero] at s1
          unfold qX12_text_75 qX12_text_118
          simp (disch := omega) only [↓reduceIte, ↓q_m1, ↓q_m2, k_o, k_0, k_1, k_2, k_3, k_4, k_5, k_6, k_7, k_8, k_9, k_10, k_11, k_16, k_17, k_19, k_20, k_24, k_26, k_27, k_30, k_32, k_33, k_35, k_40, k_43, k_48, k_50, k_57, k_60, k_64, k_81, k_86, k_34, k_66, k_322, k_97, k_99, k_100, k_122, k_128, k_160, k_161, k_255, k_256, k_512, k_580, k_600, k_1000, k_4096, k_far, k_o, nI_add, n_mul, n_sub, n_div, n_rem, n_lt, n_le, n_eq, n_cl, n_and, n_or, n_xor, m1_lt, lt_m1, m1_eq, eq_m1, le_m1, m1_le, m2_eq, up_eq, up_ne, n_shl, n_shr, b2_some, let_e, ob_some, bI_0, bI_a, bI_t, bI_f, if_true, if_false, ite_true, ite_false, true_and, and_true, false_and, and_false, true_or, or_true, false_or, or_false, not_true_eq_false, not_false_eq_true, ite_not, ne_eq, Bool.true_eq_false, Bool.false_eq_true, reduceCtorEq, decide_true, decide_false, Bool.and_true, Bool.and_false, Bool.true_and, Bool.false_and, Bool.or_true, Bool.or_false, Bool.not_true, Bool.not_false, Nat.add_zero, Nat.zero_add, eq_self, Nat.not_lt_zero, Nat.reduceAdd, Nat.reduceMul, Nat.reduceSub, Nat.reduceDiv, Nat.reduceMod, Nat.reduceAnd, Nat.reduceXor, Nat.reduceEqDiff, Nat.reducePow, lt_T, lt_F, le_T, le_F, eq_F, r1, e67', s1]
      · refine y_put (m' := fun j => if j = s then m s + nw else m j) R T hs hi (fun a k w => ?_) ?_ ?_ ?_ ?_ (fun j hj => ?_) (fun j hj q hq => ?_) (b9 i h2 h3 g5 hi k2 (r4 z) (fun a k w => ?_) (fun k hk => ?_))
        · have w1 : ¬ yQ a k := fun y => w (Or.inl y)
          have w2 : ¬ yOwn s i a := fun y => w (Or.inr (Or.inl y))
          have w3 : ¬ (a = 3 ∧ k = s) := fun y => w (Or.inr (Or.inr (Or.inl y)))
          have w4 : ¬ (a = 67 ∧ k = s) := fun y => w (Or.inr (Or.inr (Or.inr (Or.inl y))))
          have w5 : ¬ yRow s i a k := fun y => w (Or.inr (Or.inr (Or.inr (Or.inr y))))
          have v := g5c a k w5 w4 (fun y => w1 (by unfold rP at y; unfold yQ; omega)) (fun y => w1 (by unfold yQ; omega)) (fun y => w1 (by unfold yM0P at y; unfold yQ; omega))
          have v2 := g a k w1 w2 w3
          exact ⟨v.1.trans v2.1, v.2.trans v2.2⟩
        · rw [(g5c 1 6 (by unfold yRow; omega) (by omega) (by unfold rP; omega) (by omega) (by unfold yM0P; omega)).1, gq _ _ (by unfold cP; omega) (by unfold yOwn; omega) (by omega)]; exact c6
        · rw [(s3 _ _ (by unfold yRow; omega)).1, sI_ne (by omega), (r5 _ _ (by unfold rP; omega)).1]; exact d64
        · rw [(g5c 1 7 (by unfold yRow; omega) (by omega) (by unfold rP; omega) (by omega) (by unfold yM0P; omega)).1, gq _ _ (by unfold cP; omega) (by unfold yOwn; omega) (by omega), (s3 _ _ (by unfold yRow; omega)).1, sI_ne (by omega), r2]; exact c7
        · rw [(g5c 1 8 (by unfold yRow; omega) (by omega) (by unfold rP; omega) (by omega) (by unfold yM0P; omega)).1, gq _ _ (by unfold cP; omega) (by unfold yOwn; omega) (by omega), (s3 _ _ (by unfold yRow; omega)).1, sI_ne (by omega), r3]; exact c8
        · by_cases y : j = s
          · rw [if_pos y, y]
            refine ⟨by omega, ?_, ?_⟩
            · rw [(g5c 3 s (by unfold yRow; omega) (by omega) (by unfold rP; omega) (by omega) (by unfold yM0P; omega)).1]; exact p2
            · rw [(s3 _ _ (by unfold yRow; omega)).1]; exact sI_eq _ _ _ _
          · rw [if_neg y]
            have tj := T.1 j hj
            simp only [Nat.mul_zero, Nat.zero_add] at tj
            refine ⟨tj.1, ?_, ?_⟩
            · rw [(g5c 3 j (by unfold yRow; omega) (by omega) (by unfold rP; omega) (by omega) (by unfold yM0P; omega)).1, (g 3 j (by unfold yQ cP; omega) (by unfold yOwn; omega) (by omega)).1]; exact tj.2.1
            · rw [(g5c 67 j (by unfold yRow; omega) (by omega) (by unfold rP; omega) (by omega) (by unfold yM0P; omega)).1, (g 67 j (by unfold yQ cP; omega) (by unfold yOwn; omega) (by omega)).1]; exact tj.2.2
        · by_cases y : j = s
          · have hq : q < if j = s then m s + nw else m j := hq
            rw [if_pos y] at hq
            rw [y]
            rcases (show q = i ∨ q < m s by omega) with w | w
            · exact Or.inl ⟨rfl, w⟩
            · exact Or.inr w
          · have hq : q < if j = s then m s + nw else m j := hq
            rw [if_neg y] at hq
            exact Or.inr hq
        · have v := g5c a k (by unfold yOwn at w; unfold yRow; omega) (by unfold yOwn at w; omega) (by unfold yOwn at w; unfold rP; omega) (by unfold yOwn at w; omega) (by unfold yOwn at w; unfold yM0P; omega)
          have v2 := p3 a k (by unfold yOwn at w; omega)
          exact ⟨v.1.trans v2.1, v.2.trans v2.2⟩
        · rw [s2 k hk, sI_ne (by omega)]
      · rw [gq 64 0 (by unfold cP; omega) (by unfold yOwn; omega) (by omega), (c0 _ _ (by omega)).1]
      · rw [e67]; exact tm3.symm
    rcases hx with ⟨x1, x3, x4⟩ | ⟨x1, x3, x4⟩
    · have x1' := x1
      subst x1 x4
      refine main (qm_seti h2 3 s (nI (m s + 1))) ?_ (sI_eq _ _ _ _) (qFr.seti ⟨rfl, rfl⟩)
      rw [x3] at k1
      unfold qX11_text_94 qX11_text_154
      rw [x3]
      simp (disch := omega) only [↓reduceIte, ↓q_m1, ↓q_m2, k_o, k_0, k_1, k_2, k_3, k_4, k_5, k_6, k_7, k_8, k_9, k_10, k_11, k_16, k_17, k_19, k_20, k_24, k_26, k_27, k_30, k_32, k_33, k_35, k_40, k_43, k_48, k_50, k_57, k_60, k_64, k_81, k_86, k_34, k_66, k_322, k_97, k_99, k_100, k_122, k_128, k_160, k_161, k_255, k_256, k_512, k_580, k_600, k_1000, k_4096, k_far, k_o, nI_add, n_mul, n_sub, n_div, n_rem, n_lt, n_le, n_eq, n_cl, n_and, n_or, n_xor, m1_lt, lt_m1, m1_eq, eq_m1, le_m1, m1_le, m2_eq, up_eq, up_ne, n_shl, n_shr, b2_some, let_e, ob_some, bI_0, bI_a, bI_t, bI_f, if_true, if_false, ite_true, ite_false, true_and, and_true, false_and, and_false, true_or, or_true, false_or, or_false, not_true_eq_false, not_false_eq_true, ite_not, ne_eq, Bool.true_eq_false, Bool.false_eq_true, reduceCtorEq, decide_true, decide_false, Bool.and_true, Bool.and_false, Bool.true_and, Bool.false_and, Bool.or_true, Bool.or_false, Bool.not_true, Bool.not_false, Nat.add_zero, Nat.zero_add, eq_self, Nat.not_lt_zero, Nat.reduceAdd, Nat.reduceMul, Nat.reduceSub, Nat.reduceDiv, Nat.reduceMod, Nat.reduceAnd, Nat.reduceXor, Nat.reduceEqDiff, Nat.reducePow, lt_T, lt_F, le_T, le_F, eq_F, b3, b4, k1]
    · have x1' := x1
      subst x1 x4
      refine main h2 ?_ ?_ (qFr.refl _ _)
      · unfold qX11_text_94 qX11_text_154
        simp (disch := omega) only [↓reduceIte, ↓q_m1, ↓q_m2, k_o, k_0, k_1, k_2, k_3, k_4, k_5, k_6, k_7, k_8, k_9, k_10, k_11, k_16, k_17, k_19, k_20, k_24, k_26, k_27, k_30, k_32, k_33, k_35, k_40, k_43, k_48, k_50, k_57, k_60, k_64, k_81, k_86, k_34, k_66, k_322, k_97, k_99, k_100, k_122, k_128, k_160, k_161, k_255, k_256, k_512, k_580, k_600, k_1000, k_4096, k_far, k_o, nI_add, n_mul, n_sub, n_div, n_rem, n_lt, n_le, n_eq, n_cl, n_and, n_or, n_xor, m1_lt, lt_m1, m1_eq, eq_m1, le_m1, m1_le, m2_eq, up_eq, up_ne, n_shl, n_shr, b2_some, let_e, ob_some, bI_0, bI_a, bI_t, bI_f, if_true, if_false, ite_true, ite_false, true_and, and_true, false_and, and_false, true_or, or_true, false_or, or_false, not_true_eq_false, not_false_eq_true, ite_not, ne_eq, Bool.true_eq_false, Bool.false_eq_true, reduceCtorEq, decide_true, decide_false, Bool.and_true, Bool.and_false, Bool.true_and, Bool.false_and, Bool.or_true, Bool.or_false, Bool.not_true, Bool.not_false, Nat.add_zero, Nat.zero_add, eq_self, Nat.not_lt_zero, Nat.reduceAdd, Nat.reduceMul, Nat.reduceSub, Nat.reduceDiv, Nat.reduceMod, Nat.reduceAnd, Nat.reduceXor, Nat.reduceEqDiff, Nat.reducePow, lt_T, lt_F, le_T, le_F, eq_F, b3, b4, k1]
      · rw [(k3 _ _ (by unfold yOwn; omega)).1, (b6' _ _ (by unfold yQ cP; omega)).1, (c0' _ _ (by unfold yQ cP; omega)).1, Nat.add_zero]
        exact tm2
  · rw [if_neg z] at b5
    have fr1 : qFr yQ h (qm_seti (qm_seti hR 1 7 (nI f)) 1 8 (nI q)) := ((c0'.trans b6').trans (qFr.seti (by unfold yQ; omega))).trans (qFr.seti (by unfold yQ; omega))
    obtain ⟨d0, d11, d64, d65, d66⟩ := yM0_f n (qm_seti (qm_seti hR 1 7 (nI f)) 1 8 (nI q))
    obtain ⟨h3, r1, r2, r3, r4, r5⟩ := b8 (yM0 n (qm_seti (qm_seti hR 1 7 (nI f)) 1 8 (nI q))) d11 (fun j hj => by rw [(d0 _ _ (by unfold yM0P; omega)).1, (fr1 _ _ (by unfold yQ cP; omega)).1]; exact t63 j hj)
    rw [if_neg z] at r1 r3
    refine ⟨m1, qm_seti (qm_seti hR 1 7 (nI f)) 1 8 (nI q), h3, ?_, ?_, y_tp R ((fr1.trans (d0.mono (fun a k w => by unfold yM0P at w; unfold yQ; omega))).trans (r5.mono (fun a k w => by unfold rP at w; unfold yQ; omega))) ?_ ?_ ?_ ?_, ?_, ?_⟩
    · unfold qX11_text_94
      simp (disch := omega) only [↓reduceIte, ↓q_m1, ↓q_m2, k_o, k_0, k_1, k_2, k_3, k_4, k_5, k_6, k_7, k_8, k_9, k_10, k_11, k_16, k_17, k_19, k_20, k_24, k_26, k_27, k_30, k_32, k_33, k_35, k_40, k_43, k_48, k_50, k_57, k_60, k_64, k_81, k_86, k_34, k_66, k_322, k_97, k_99, k_100, k_122, k_128, k_160, k_161, k_255, k_256, k_512, k_580, k_600, k_1000, k_4096, k_far, k_o, nI_add, n_mul, n_sub, n_div, n_rem, n_lt, n_le, n_eq, n_cl, n_and, n_or, n_xor, m1_lt, lt_m1, m1_eq, eq_m1, le_m1, m1_le, m2_eq, up_eq, up_ne, n_shl, n_shr, b2_some, let_e, ob_some, bI_0, bI_a, bI_t, bI_f, if_true, if_false, ite_true, ite_false, true_and, and_true, false_and, and_false, true_or, or_true, false_or, or_false, not_true_eq_false, not_false_eq_true, ite_not, ne_eq, Bool.true_eq_false, Bool.false_eq_true, reduceCtorEq, decide_true, decide_false, Bool.and_true, Bool.and_false, Bool.true_and, Bool.false_and, Bool.or_true, Bool.or_false, Bool.not_true, Bool.not_false, Nat.add_zero, Nat.zero_add, eq_self, Nat.not_lt_zero, Nat.reduceAdd, Nat.reduceMul, Nat.reduceSub, Nat.reduceDiv, Nat.reduceMod, Nat.reduceAnd, Nat.reduceXor, Nat.reduceEqDiff, Nat.reducePow, lt_T, lt_F, le_T, le_F, eq_F, b3, b4, b5, eq_false z]
    · unfold qX12_text_75
      simp (disch := omega) only [↓reduceIte, ↓q_m1, ↓q_m2, k_o, k_0, k_1, k_2, k_3, k_4, k_5, k_6, k_7, k_8, k_9, k_10, k_11, k_16, k_17, k_19, k_20, k_24, k_26, k_27, k_30, k_32, k_33, k_35, k_40, k_43, k_48, k_50, k_57, k_60, k_64, k_81, k_86, k_34, k_66, k_322, k_97, k_99, k_100, k_122, k_128, k_160, k_161, k_255, k_256, k_512, k_580, k_600, k_1000, k_4096, k_far, k_o, nI_add, n_mul, n_sub, n_div, n_rem, n_lt, n_le, n_eq, n_cl, n_and, n_or, n_xor, m1_lt, lt_m1, m1_eq, eq_m1, le_m1, m1_le, m2_eq, up_eq, up_ne, n_shl, n_shr, b2_some, let_e, ob_some, bI_0, bI_a, bI_t, bI_f, if_true, if_false, ite_true, ite_false, true_and, and_true, false_and, and_false, true_or, or_true, false_or, or_false, not_true_eq_false, not_false_eq_true, ite_not, ne_eq, Bool.true_eq_false, Bool.false_eq_true, reduceCtorEq, decide_true, decide_false, Bool.and_true, Bool.and_false, Bool.true_and, Bool.false_and, Bool.or_true, Bool.or_false, Bool.not_true, Bool.not_false, Nat.add_zero, Nat.zero_add, eq_self, Nat.not_lt_zero, Nat.reduceAdd, Nat.reduceMul, Nat.reduceSub, Nat.reduceDiv, Nat.reduceMod, Nat.reduceAnd, Nat.reduceXor, Nat.reduceEqDiff, Nat.reducePow, lt_T, lt_F, le_T, le_F, eq_F, r1]
    · rw [(r5 _ _ (by unfold rP; omega)).1, (d0 _ _ (by unfold yM0P; omega)).1, sI_ne (by omega), sI_ne (by omega), (b6 _ _ (by unfold cP; omega)).1]; exact c6
    · rw [(r5 _ _ (by unfold rP; omega)).1]; exact d64
    · rw [(r5 _ _ (by unfold rP; omega)).1, (d0 _ _ (by unfold yM0P; omega)).1, sI_ne (by omega), sI_eq, r2]
    · rw [(r5 _ _ (by unfold rP; omega)).1, (d0 _ _ (by unfold yM0P; omega)).1, sI_eq, r3]
    · rw [sI_ne (by omega), sI_ne (by omega), (b6 _ _ (by unfold cP; omega)).1, (c0 _ _ (by omega)).1]
    · rw [sI_ne (by omega), sI_ne (by omega), (b6 _ _ (by unfold cP; omega)).1, (c0 _ _ (by omega)).1]
theorem y_is {s j ms : Nat} {h : qm_H} (hs : s < 4) (e : h.1 67 s = nI ms) (hm : ms ≤ 2) (hj : j < 2147483648) : qX12_is 62 (nI s) (nI j) h = some (bI (decide (j < ms)), h) := by
  unfold qX12_is
  simp (disch := omega) only [↓q_m1, ↓q_m2, k_o, k_0, k_1, k_2, k_3, k_4, k_5, k_6, k_7, k_8, k_9, k_10, k_11, k_16, k_17, k_19, k_20, k_24, k_26, k_27, k_30, k_32, k_33, k_35, k_40, k_43, k_48, k_50, k_57, k_60, k_64, k_81, k_86, k_34, k_66, k_322, k_97, k_99, k_100, k_122, k_128, k_160, k_161, k_255, k_256, k_512, k_580, k_600, k_1000, k_4096, k_far, k_o, nI_add, n_mul, n_sub, n_div, n_rem, n_lt, n_le, n_eq, n_cl, n_and, n_or, n_xor, m1_lt, lt_m1, m1_eq, eq_m1, le_m1, m1_le, m2_eq, up_eq, up_ne, n_shl, n_shr, b2_some, let_e, ob_some, bI_0, bI_a, bI_t, bI_f, if_true, if_false, ite_true, ite_false, true_and, and_true, false_and, and_false, true_or, or_true, false_or, or_false, not_true_eq_false, not_false_eq_true, ite_not, ne_eq, Bool.true_eq_false, Bool.false_eq_true, reduceCtorEq, decide_true, decide_false, Bool.and_true, Bool.and_false, Bool.true_and, Bool.false_and, Bool.or_true, Bool.or_false, Bool.not_true, Bool.not_false, Nat.add_zero, Nat.zero_add, eq_self, Nat.not_lt_zero, Nat.reduceAdd, Nat.reduceMul, Nat.reduceSub, Nat.reduceDiv, Nat.reduceMod, Nat.reduceAnd, Nat.reduceXor, Nat.reduceEqDiff, Nat.reducePow, lt_T, lt_F, le_T, le_F, eq_F, m_in, e, sub1_r]
theorem y_isn {s ms : Nat} {x : Int32} {h : qm_H} (hs : s < 4) (e : h.1 67 s = nI ms) (hm : ms ≤ 2) (hx : x < 0) : qX12_is 62 (nI s) x h = some (bI false, h) := by
  unfold qX12_is
  simp (disch := omega) only [↓q_m1, ↓q_m2, k_o, k_0, k_1, k_2, k_3, k_4, k_5, k_6, k_7, k_8, k_9, k_10, k_11, k_16, k_17, k_19, k_20, k_24, k_26, k_27, k_30, k_32, k_33, k_35, k_40, k_43, k_48, k_50, k_57, k_60, k_64, k_81, k_86, k_34, k_66, k_322, k_97, k_99, k_100, k_122, k_128, k_160, k_161, k_255, k_256, k_512, k_580, k_600, k_1000, k_4096, k_far, k_o, nI_add, n_mul, n_sub, n_div, n_rem, n_lt, n_le, n_eq, n_cl, n_and, n_or, n_xor, m1_lt, lt_m1, m1_eq, eq_m1, le_m1, m1_le, m2_eq, up_eq, up_ne, n_shl, n_shr, b2_some, let_e, ob_some, bI_0, bI_a, bI_t, bI_f, if_true, if_false, ite_true, ite_false, true_and, and_true, false_and, and_false, true_or, or_true, false_or, or_false, not_true_eq_false, not_false_eq_true, ite_not, ne_eq, Bool.true_eq_false, Bool.false_eq_true, reduceCtorEq, decide_true, decide_false, Bool.and_true, Bool.and_false, Bool.true_and, Bool.false_and, Bool.or_true, Bool.or_false, Bool.not_true, Bool.not_false, Nat.add_zero, Nat.zero_add, eq_self, Nat.not_lt_zero, Nat.reduceAdd, Nat.reduceMul, Nat.reduceSub, Nat.reduceDiv, Nat.reduceMod, Nat.reduceAnd, Nat.reduceXor, Nat.reduceEqDiff, Nat.reducePow, lt_T, lt_F, le_T, le_F, eq_F, m_in, e, ng_le hx]
theorem y_none {h : qm_H} {n : Nat} (R : qR h) : qR (yM0 n (yC0 h)) := by
  obtain ⟨c0, c6, c7, c8⟩ := yC0_f h
  obtain ⟨d0, d11, d64, d65, d66⟩ := yM0_f n (yC0 h)
  refine y_tp R ((c0.mono (fun a k w => by unfold yQ; omega)).trans (d0.mono (fun a k w => by unfold yM0P at w; unfold yQ; omega))) ?_ d64 ?_ ?_
  · rw [(d0 _ _ (by unfold yM0P; omega)).1]; exact c6
  · rw [(d0 _ _ (by unfold yM0P; omega)).1, d65]; exact c7
  · rw [(d0 _ _ (by unfold yM0P; omega)).1, d66]; exact c8
theorem P_2 : ∀ h, qR h → ∀ x1 x2 : Int32, ∃ (r : Int32) (h1 h2 : qm_H), qX11_text 0 x1 x2 h = some (r, h1) ∧ qX12_text 62 x1 x2 h1 = some (r, h2) ∧ qR h2 := by
  intro h R x1 x2
  obtain ⟨n, hn, e1, e2⟩ := R.1.1.1
  obtain ⟨m, T, _⟩ := s_is R
  have hc : yC0 h = qm_seti (qm_seti (qm_seti h 1 6 (nI 0)) 1 7 (nI 0)) 1 8 m1 := rfl
  have e2c : (yC0 h).1 64 0 = nI n := by rw [((yC0_f h).1 _ _ (by omega)).1]; exact e2
  have pm : ∀ g : qm_H, g.1 64 0 = nI n → ∀ x1 x2, qX12_text 62 x1 x2 g = (qm_b2 (qX12_in x1 (0 : Int32) (3 : Int32) (yM0 n g)) fun r7 h6 => if r7 = (0 : Int32) then some ((-2 : Int32), h6) else if x2 = (-1 : Int32) then if x1 < 0 ∨ 16 ≤ (x1).toNatClampNeg then none else if (h6.1 (62 + 5) (x1).toNatClampNeg) = (2 : Int32) then some ((-2 : Int32), h6) else qX12_text_75 62 x1 x2 h6 else qm_b2 (qX12_is 62 x1 x2 h6) fun r9 h8 => if r9 = (0 : Int32) then some ((-2 : Int32), h8) else qX12_text_75 62 x1 x2 h8) := fun g hg x1 x2 => by
    have : yM0 n g = qm_seti (qm_seti (qm_seti (qm_seti (qm_seti g 62 0 (0 : Int32)) 62 11 ((qm_seti g 62 0 (0 : Int32)).1 (62 + 2) (0 : Int32).toNatClampNeg)) (62 + 2) (0 : Int32).toNatClampNeg (0 : Int32)) (62 + 3) (0 : Int32).toNatClampNeg (0 : Int32)) (62 + 4) (0 : Int32).toNatClampNeg (-1 : Int32) := by
      unfold yM0
      rw [show (0 : Int32).toNatClampNeg = 0 from rfl, sI_ne (by omega), hg]
      rfl
    rw [this]
    rfl
  rcases i_cases x1 with hx | ⟨s, hsx, rfl⟩
  · refine ⟨m2, yC0 h, yM0 n (yC0 h), ?_, ?_, y_none R⟩
    · unfold qX11_text
      rw [hc]
      simp (disch := omega) only [↓reduceIte, ↓q_m1, ↓q_m2, k_o, k_0, k_1, k_2, k_3, k_4, k_5, k_6, k_7, k_8, k_9, k_10, k_11, k_16, k_17, k_19, k_20, k_24, k_26, k_27, k_30, k_32, k_33, k_35, k_40, k_43, k_48, k_50, k_57, k_60, k_64, k_81, k_86, k_34, k_66, k_322, k_97, k_99, k_100, k_122, k_128, k_160, k_161, k_255, k_256, k_512, k_580, k_600, k_1000, k_4096, k_far, k_o, nI_add, n_mul, n_sub, n_div, n_rem, n_lt, n_le, n_eq, n_cl, n_and, n_or, n_xor, m1_lt, lt_m1, m1_eq, eq_m1, le_m1, m1_le, m2_eq, up_eq, up_ne, n_shl, n_shr, b2_some, let_e, ob_some, bI_0, bI_a, bI_t, bI_f, if_true, if_false, ite_true, ite_false, true_and, and_true, false_and, and_false, true_or, or_true, false_or, or_false, not_true_eq_false, not_false_eq_true, ite_not, ne_eq, Bool.true_eq_false, Bool.false_eq_true, reduceCtorEq, decide_true, decide_false, Bool.and_true, Bool.and_false, Bool.true_and, Bool.false_and, Bool.or_true, Bool.or_false, Bool.not_true, Bool.not_false, Nat.add_zero, Nat.zero_add, eq_self, Nat.not_lt_zero, Nat.reduceAdd, Nat.reduceMul, Nat.reduceSub, Nat.reduceDiv, Nat.reduceMod, Nat.reduceAnd, Nat.reduceXor, Nat.reduceEqDiff, Nat.reducePow, lt_T, lt_F, le_T, le_F, eq_F, ng_lt hx]
    · rw [pm _ e2c]
      simp (disch := omega) only [↓reduceIte, ↓q_m1, ↓q_m2, k_o, k_0, k_1, k_2, k_3, k_4, k_5, k_6, k_7, k_8, k_9, k_10, k_11, k_16, k_17, k_19, k_20, k_24, k_26, k_27, k_30, k_32, k_33, k_35, k_40, k_43, k_48, k_50, k_57, k_60, k_64, k_81, k_86, k_34, k_66, k_322, k_97, k_99, k_100, k_122, k_128, k_160, k_161, k_255, k_256, k_512, k_580, k_600, k_1000, k_4096, k_far, k_o, nI_add, n_mul, n_sub, n_div, n_rem, n_lt, n_le, n_eq, n_cl, n_and, n_or, n_xor, m1_lt, lt_m1, m1_eq, eq_m1, le_m1, m1_le, m2_eq, up_eq, up_ne, n_shl, n_shr, b2_some, let_e, ob_some, bI_0, bI_a, bI_t, bI_f, if_true, if_false, ite_true, ite_false, true_and, and_true, false_and, and_false, true_or, or_true, false_or, or_false, not_true_eq_false, not_false_eq_true, ite_not, ne_eq, Bool.true_eq_false, Bool.false_eq_true, reduceCtorEq, decide_true, decide_false, Bool.and_true, Bool.and_false, Bool.true_and, Bool.false_and, Bool.or_true, Bool.or_false, Bool.not_true, Bool.not_false, Nat.add_zero, Nat.zero_add, eq_self, Nat.not_lt_zero, Nat.reduceAdd, Nat.reduceMul, Nat.reduceSub, Nat.reduceDiv, Nat.reduceMod, Nat.reduceAnd, Nat.reduceXor, Nat.reduceEqDiff, Nat.reducePow, lt_T, lt_F, le_T, le_F, eq_F, m_in, ng_le hx]
  · by_cases hs : s < 4
    · have tm := T.1 s hs
      simp only [Nat.mul_zero, Nat.zero_add] at tm
      obtain ⟨tm1, tm2, tm3⟩ := tm
      have bs : yBoth s := by
        rcases (show s = 0 ∨ s = 1 ∨ s = 2 ∨ s = 3 by omega) with rfl | rfl | rfl | rfl
        · exact both0
        · exact both1
        · exact both2
        · exact both3
      have e67 : ∀ g : qm_H, g.1 67 s = h.1 67 s → (yM0 n g).1 67 s = nI (m s) := fun g hg => by rw [((yM0_f n g).1 _ _ (by unfold yM0P; omega)).1, hg]; exact tm3
      have tmc : h.1 3 s = nI (m s) := tm2
      have c67 : (yC0 h).1 67 s = h.1 67 s := ((yC0_f h).1 _ _ (by omega)).1
      have none2 : qX11_text 0 (nI s) x2 h = some (m2, yC0 h) → qX12_text 62 (nI s) x2 (yC0 h) = some (m2, yM0 n (yC0 h)) → ∃ (r : Int32) (h1 h2 : qm_H), qX11_text 0 (nI s) x2 h = some (r, h1) ∧ qX12_text 62 (nI s) x2 h1 = some (r, h2) ∧ qR h2 := fun a b => ⟨m2, _, _, a, b, y_none R⟩
      by_cases y : x2 = m1
      · by_cases y2 : m s < 2
        · obtain ⟨r, h1, h2, a1, a2, a3, a4, a5⟩ := y_main (x2 := x2) (nw := 1) (i := m s) R T hn hs bs y2 (Or.inl ⟨rfl, rfl, y⟩)
          refine ⟨r, h1, h2, ?_, ?_, a3⟩
          · rw [hc, y] at a1
            rw [y]
            unfold qX11_text qX11_text_65
            simp (disch := omega) only [↓reduceIte, ↓q_m1, ↓q_m2, k_o, k_0, k_1, k_2, k_3, k_4, k_5, k_6, k_7, k_8, k_9, k_10, k_11, k_16, k_17, k_19, k_20, k_24, k_26, k_27, k_30, k_32, k_33, k_35, k_40, k_43, k_48, k_50, k_57, k_60, k_64, k_81, k_86, k_34, k_66, k_322, k_97, k_99, k_100, k_122, k_128, k_160, k_161, k_255, k_256, k_512, k_580, k_600, k_1000, k_4096, k_far, k_o, nI_add, n_mul, n_sub, n_div, n_rem, n_lt, n_le, n_eq, n_cl, n_and, n_or, n_xor, m1_lt, lt_m1, m1_eq, eq_m1, le_m1, m1_le, m2_eq, up_eq, up_ne, n_shl, n_shr, b2_some, let_e, ob_some, bI_0, bI_a, bI_t, bI_f, if_true, if_false, ite_true, ite_false, true_and, and_true, false_and, and_false, true_or, or_true, false_or, or_false, not_true_eq_false, not_false_eq_true, ite_not, ne_eq, Bool.true_eq_false, Bool.false_eq_true, reduceCtorEq, decide_true, decide_false, Bool.and_true, Bool.and_false, Bool.true_and, Bool.false_and, Bool.or_true, Bool.or_false, Bool.not_true, Bool.not_false, Nat.add_zero, Nat.zero_add, eq_self, Nat.not_lt_zero, Nat.reduceAdd, Nat.reduceMul, Nat.reduceSub, Nat.reduceDiv, Nat.reduceMod, Nat.reduceAnd, Nat.reduceXor, Nat.reduceEqDiff, Nat.reducePow, lt_T, lt_F, le_T, le_F, eq_F, e1, tmc]
            exact a1
          · rw [pm _ (a4.trans e2)]
            have e := e67 h1 a5
            rw [y] at a2 ⊢
            simp (disch := omega) only [↓reduceIte, ↓q_m1, ↓q_m2, k_o, k_0, k_1, k_2, k_3, k_4, k_5, k_6, k_7, k_8, k_9, k_10, k_11, k_16, k_17, k_19, k_20, k_24, k_26, k_27, k_30, k_32, k_33, k_35, k_40, k_43, k_48, k_50, k_57, k_60, k_64, k_81, k_86, k_34, k_66, k_322, k_97, k_99, k_100, k_122, k_128, k_160, k_161, k_255, k_256, k_512, k_580, k_600, k_1000, k_4096, k_far, k_o, nI_add, n_mul, n_sub, n_div, n_rem, n_lt, n_le, n_eq, n_cl, n_and, n_or, n_xor, m1_lt, lt_m1, m1_eq, eq_m1, le_m1, m1_le, m2_eq, up_eq, up_ne, n_shl, n_shr, b2_some, let_e, ob_some, bI_0, bI_a, bI_t, bI_f, if_true, if_false, ite_true, ite_false, true_and, and_true, false_and, and_false, true_or, or_true, false_or, or_false, not_true_eq_false, not_false_eq_true, ite_not, ne_eq, Bool.true_eq_false, Bool.false_eq_true, reduceCtorEq, decide_true, decide_false, Bool.and_true, Bool.and_false, Bool.true_and, Bool.false_and, Bool.or_true, Bool.or_false, Bool.not_true, Bool.not_false, Nat.add_zero, Nat.zero_add, eq_self, Nat.not_lt_zero, Nat.reduceAdd, Nat.reduceMul, Nat.reduceSub, Nat.reduceDiv, Nat.reduceMod, Nat.reduceAnd, Nat.reduceXor, Nat.reduceEqDiff, Nat.reducePow, lt_T, lt_F, le_T, le_F, eq_F, m_in, e]
            exact a2
        · have y3 : m s = 2 := by omega
          rw [y3] at tmc
          refine none2 ?_ ?_
          · rw [hc, y]
            unfold qX11_text qX11_text_65
            simp (disch := omega) only [↓reduceIte, ↓q_m1, ↓q_m2, k_o, k_0, k_1, k_2, k_3, k_4, k_5, k_6, k_7, k_8, k_9, k_10, k_11, k_16, k_17, k_19, k_20, k_24, k_26, k_27, k_30, k_32, k_33, k_35, k_40, k_43, k_48, k_50, k_57, k_60, k_64, k_81, k_86, k_34, k_66, k_322, k_97, k_99, k_100, k_122, k_128, k_160, k_161, k_255, k_256, k_512, k_580, k_600, k_1000, k_4096, k_far, k_o, nI_add, n_mul, n_sub, n_div, n_rem, n_lt, n_le, n_eq, n_cl, n_and, n_or, n_xor, m1_lt, lt_m1, m1_eq, eq_m1, le_m1, m1_le, m2_eq, up_eq, up_ne, n_shl, n_shr, b2_some, let_e, ob_some, bI_0, bI_a, bI_t, bI_f, if_true, if_false, ite_true, ite_false, true_and, and_true, false_and, and_false, true_or, or_true, false_or, or_false, not_true_eq_false, not_false_eq_true, ite_not, ne_eq, Bool.true_eq_false, Bool.false_eq_true, reduceCtorEq, decide_true, decide_false, Bool.and_true, Bool.and_false, Bool.true_and, Bool.false_and, Bool.or_true, Bool.or_false, Bool.not_true, Bool.not_false, Nat.add_zero, Nat.zero_add, eq_self, Nat.not_lt_zero, Nat.reduceAdd, Nat.reduceMul, Nat.reduceSub, Nat.reduceDiv, Nat.reduceMod, Nat.reduceAnd, Nat.reduceXor, Nat.reduceEqDiff, Nat.reducePow, lt_T, lt_F, le_T, le_F, eq_F, e1, tmc]
          · rw [pm _ e2c]
            have e := e67 (yC0 h) c67
            rw [y3] at e
            rw [y]
            simp (disch := omega) only [↓reduceIte, ↓q_m1, ↓q_m2, k_o, k_0, k_1, k_2, k_3, k_4, k_5, k_6, k_7, k_8, k_9, k_10, k_11, k_16, k_17, k_19, k_20, k_24, k_26, k_27, k_30, k_32, k_33, k_35, k_40, k_43, k_48, k_50, k_57, k_60, k_64, k_81, k_86, k_34, k_66, k_322, k_97, k_99, k_100, k_122, k_128, k_160, k_161, k_255, k_256, k_512, k_580, k_600, k_1000, k_4096, k_far, k_o, nI_add, n_mul, n_sub, n_div, n_rem, n_lt, n_le, n_eq, n_cl, n_and, n_or, n_xor, m1_lt, lt_m1, m1_eq, eq_m1, le_m1, m1_le, m2_eq, up_eq, up_ne, n_shl, n_shr, b2_some, let_e, ob_some, bI_0, bI_a, bI_t, bI_f, if_true, if_false, ite_true, ite_false, true_and, and_true, false_and, and_false, true_or, or_true, false_or, or_false, not_true_eq_false, not_false_eq_true, ite_not, ne_eq, Bool.true_eq_false, Bool.false_eq_true, reduceCtorEq, decide_true, decide_false, Bool.and_true, Bool.and_false, Bool.true_and, Bool.false_and, Bool.or_true, Bool.or_false, Bool.not_true, Bool.not_false, Nat.add_zero, Nat.zero_add, eq_self, Nat.not_lt_zero, Nat.reduceAdd, Nat.reduceMul, Nat.reduceSub, Nat.reduceDiv, Nat.reduceMod, Nat.reduceAnd, Nat.reduceXor, Nat.reduceEqDiff, Nat.reducePow, lt_T, lt_F, le_T, le_F, eq_F, m_in, e]
      · rcases i_cases x2 with hx | ⟨j, hj, rfl⟩
        · refine none2 ?_ ?_
          · rw [hc]
            unfold qX11_text qX11_text_65
            simp (disch := omega) only [↓reduceIte, ↓q_m1, ↓q_m2, k_o, k_0, k_1, k_2, k_3, k_4, k_5, k_6, k_7, k_8, k_9, k_10, k_11, k_16, k_17, k_19, k_20, k_24, k_26, k_27, k_30, k_32, k_33, k_35, k_40, k_43, k_48, k_50, k_57, k_60, k_64, k_81, k_86, k_34, k_66, k_322, k_97, k_99, k_100, k_122, k_128, k_160, k_161, k_255, k_256, k_512, k_580, k_600, k_1000, k_4096, k_far, k_o, nI_add, n_mul, n_sub, n_div, n_rem, n_lt, n_le, n_eq, n_cl, n_and, n_or, n_xor, m1_lt, lt_m1, m1_eq, eq_m1, le_m1, m1_le, m2_eq, up_eq, up_ne, n_shl, n_shr, b2_some, let_e, ob_some, bI_0, bI_a, bI_t, bI_f, if_true, if_false, ite_true, ite_false, true_and, and_true, false_and, and_false, true_or, or_true, false_or, or_false, not_true_eq_false, not_false_eq_true, ite_not, ne_eq, Bool.true_eq_false, Bool.false_eq_true, reduceCtorEq, decide_true, decide_false, Bool.and_true, Bool.and_false, Bool.true_and, Bool.false_and, Bool.or_true, Bool.or_false, Bool.not_true, Bool.not_false, Nat.add_zero, Nat.zero_add, eq_self, Nat.not_lt_zero, Nat.reduceAdd, Nat.reduceMul, Nat.reduceSub, Nat.reduceDiv, Nat.reduceMod, Nat.reduceAnd, Nat.reduceXor, Nat.reduceEqDiff, Nat.reducePow, lt_T, lt_F, le_T, le_F, eq_F, e1, tmc, eq_false y, ng_lt hx]
          · rw [pm _ e2c]
            have e := y_isn hs (e67 (yC0 h) c67) tm1 hx
            simp (disch := omega) only [↓reduceIte, ↓q_m1, ↓q_m2, k_o, k_0, k_1, k_2, k_3, k_4, k_5, k_6, k_7, k_8, k_9, k_10, k_11, k_16, k_17, k_19, k_20, k_24, k_26, k_27, k_30, k_32, k_33, k_35, k_40, k_43, k_48, k_50, k_57, k_60, k_64, k_81, k_86, k_34, k_66, k_322, k_97, k_99, k_100, k_122, k_128, k_160, k_161, k_255, k_256, k_512, k_580, k_600, k_1000, k_4096, k_far, k_o, nI_add, n_mul, n_sub, n_div, n_rem, n_lt, n_le, n_eq, n_cl, n_and, n_or, n_xor, m1_lt, lt_m1, m1_eq, eq_m1, le_m1, m1_le, m2_eq, up_eq, up_ne, n_shl, n_shr, b2_some, let_e, ob_some, bI_0, bI_a, bI_t, bI_f, if_true, if_false, ite_true, ite_false, true_and, and_true, false_and, and_false, true_or, or_true, false_or, or_false, not_true_eq_false, not_false_eq_true, ite_not, ne_eq, Bool.true_eq_false, Bool.false_eq_true, reduceCtorEq, decide_true, decide_false, Bool.and_true, Bool.and_false, Bool.true_and, Bool.false_and, Bool.or_true, Bool.or_false, Bool.not_true, Bool.not_false, Nat.add_zero, Nat.zero_add, eq_self, Nat.not_lt_zero, Nat.reduceAdd, Nat.reduceMul, Nat.reduceSub, Nat.reduceDiv, Nat.reduceMod, Nat.reduceAnd, Nat.reduceXor, Nat.reduceEqDiff, Nat.reducePow, lt_T, lt_F, le_T, le_F, eq_F, m_in, eq_false y, e]
        · by_cases y2 : j < m s
          · obtain ⟨r, h1, h2, a1, a2, a3, a4, a5⟩ := y_main (x2 := nI j) (nw := 0) (i := j) R T hn hs bs (by omega) (Or.inr ⟨rfl, y2, rfl⟩)
            refine ⟨r, h1, h2, ?_, ?_, a3⟩
            · rw [hc] at a1
              unfold qX11_text qX11_text_65
              simp (disch := omega) only [↓reduceIte, ↓q_m1, ↓q_m2, k_o, k_0, k_1, k_2, k_3, k_4, k_5, k_6, k_7, k_8, k_9, k_10, k_11, k_16, k_17, k_19, k_20, k_24, k_26, k_27, k_30, k_32, k_33, k_35, k_40, k_43, k_48, k_50, k_57, k_60, k_64, k_81, k_86, k_34, k_66, k_322, k_97, k_99, k_100, k_122, k_128, k_160, k_161, k_255, k_256, k_512, k_580, k_600, k_1000, k_4096, k_far, k_o, nI_add, n_mul, n_sub, n_div, n_rem, n_lt, n_le, n_eq, n_cl, n_and, n_or, n_xor, m1_lt, lt_m1, m1_eq, eq_m1, le_m1, m1_le, m2_eq, up_eq, up_ne, n_shl, n_shr, b2_some, let_e, ob_some, bI_0, bI_a, bI_t, bI_f, if_true, if_false, ite_true, ite_false, true_and, and_true, false_and, and_false, true_or, or_true, false_or, or_false, not_true_eq_false, not_false_eq_true, ite_not, ne_eq, Bool.true_eq_false, Bool.false_eq_true, reduceCtorEq, decide_true, decide_false, Bool.and_true, Bool.and_false, Bool.true_and, Bool.false_and, Bool.or_true, Bool.or_false, Bool.not_true, Bool.not_false, Nat.add_zero, Nat.zero_add, eq_self, Nat.not_lt_zero, Nat.reduceAdd, Nat.reduceMul, Nat.reduceSub, Nat.reduceDiv, Nat.reduceMod, Nat.reduceAnd, Nat.reduceXor, Nat.reduceEqDiff, Nat.reducePow, lt_T, lt_F, le_T, le_F, eq_F, e1, tmc]
              exact a1
            · rw [pm _ (a4.trans e2)]
              have e := y_is hs (e67 h1 a5) tm1 hj
              rw [decide_eq_true y2] at e
              simp (disch := omega) only [↓reduceIte, ↓q_m1, ↓q_m2, k_o, k_0, k_1, k_2, k_3, k_4, k_5, k_6, k_7, k_8, k_9, k_10, k_11, k_16, k_17, k_19, k_20, k_24, k_26, k_27, k_30, k_32, k_33, k_35, k_40, k_43, k_48, k_50, k_57, k_60, k_64, k_81, k_86, k_34, k_66, k_322, k_97, k_99, k_100, k_122, k_128, k_160, k_161, k_255, k_256, k_512, k_580, k_600, k_1000, k_4096, k_far, k_o, nI_add, n_mul, n_sub, n_div, n_rem, n_lt, n_le, n_eq, n_cl, n_and, n_or, n_xor, m1_lt, lt_m1, m1_eq, eq_m1, le_m1, m1_le, m2_eq, up_eq, up_ne, n_shl, n_shr, b2_some, let_e, ob_some, bI_0, bI_a, bI_t, bI_f, if_true, if_false, ite_true, ite_false, true_and, and_true, false_and, and_false, true_or, or_true, false_or, or_false, not_true_eq_false, not_false_eq_true, ite_not, ne_eq, Bool.true_eq_false, Bool.false_eq_true, reduceCtorEq, decide_true, decide_false, Bool.and_true, Bool.and_false, Bool.true_and, Bool.false_and, Bool.or_true, Bool.or_false, Bool.not_true, Bool.not_false, Nat.add_zero, Nat.zero_add, eq_self, Nat.not_lt_zero, Nat.reduceAdd, Nat.reduceMul, Nat.reduceSub, Nat.reduceDiv, Nat.reduceMod, Nat.reduceAnd, Nat.reduceXor, Nat.reduceEqDiff, Nat.reducePow, lt_T, lt_F, le_T, le_F, eq_F, m_in, e]
              exact a2
          · refine none2 ?_ ?_
            · rw [hc]
              unfold qX11_text qX11_text_65
              simp (disch := omega) only [↓reduceIte, ↓q_m1, ↓q_m2, k_o, k_0, k_1, k_2, k_3, k_4, k_5, k_6, k_7, k_8, k_9, k_10, k_11, k_16, k_17, k_19, k_20, k_24, k_26, k_27, k_30, k_32, k_33, k_35, k_40, k_43, k_48, k_50, k_57, k_60, k_64, k_81, k_86, k_34, k_66, k_322, k_97, k_99, k_100, k_122, k_128, k_160, k_161, k_255, k_256, k_512, k_580, k_600, k_1000, k_4096, k_far, k_o, nI_add, n_mul, n_sub, n_div, n_rem, n_lt, n_le, n_eq, n_cl, n_and, n_or, n_xor, m1_lt, lt_m1, m1_eq, eq_m1, le_m1, m1_le, m2_eq, up_eq, up_ne, n_shl, n_shr, b2_some, let_e, ob_some, bI_0, bI_a, bI_t, bI_f, if_true, if_false, ite_true, ite_false, true_and, and_true, false_and, and_false, true_or, or_true, false_or, or_false, not_true_eq_false, not_false_eq_true, ite_not, ne_eq, Bool.true_eq_false, Bool.false_eq_true, reduceCtorEq, decide_true, decide_false, Bool.and_true, Bool.and_false, Bool.true_and, Bool.false_and, Bool.or_true, Bool.or_false, Bool.not_true, Bool.not_false, Nat.add_zero, Nat.zero_add, eq_self, Nat.not_lt_zero, Nat.reduceAdd, Nat.reduceMul, Nat.reduceSub, Nat.reduceDiv, Nat.reduceMod, Nat.reduceAnd, Nat.reduceXor, Nat.reduceEqDiff, Nat.reducePow, lt_T, lt_F, le_T, le_F, eq_F, e1, tmc]
            · rw [pm _ e2c]
              have e := y_is hs (e67 (yC0 h) c67) tm1 hj
              rw [decide_eq_false y2] at e
              simp (disch := omega) only [↓reduceIte, ↓q_m1, ↓q_m2, k_o, k_0, k_1, k_2, k_3, k_4, k_5, k_6, k_7, k_8, k_9, k_10, k_11, k_16, k_17, k_19, k_20, k_24, k_26, k_27, k_30, k_32, k_33, k_35, k_40, k_43, k_48, k_50, k_57, k_60, k_64, k_81, k_86, k_34, k_66, k_322, k_97, k_99, k_100, k_122, k_128, k_160, k_161, k_255, k_256, k_512, k_580, k_600, k_1000, k_4096, k_far, k_o, nI_add, n_mul, n_sub, n_div, n_rem, n_lt, n_le, n_eq, n_cl, n_and, n_or, n_xor, m1_lt, lt_m1, m1_eq, eq_m1, le_m1, m1_le, m2_eq, up_eq, up_ne, n_shl, n_shr, b2_some, let_e, ob_some, bI_0, bI_a, bI_t, bI_f, if_true, if_false, ite_true, ite_false, true_and, and_true, false_and, and_false, true_or, or_true, false_or, or_false, not_true_eq_false, not_false_eq_true, ite_not, ne_eq, Bool.true_eq_false, Bool.false_eq_true, reduceCtorEq, decide_true, decide_false, Bool.and_true, Bool.and_false, Bool.true_and, Bool.false_and, Bool.or_true, Bool.or_false, Bool.not_true, Bool.not_false, Nat.add_zero, Nat.zero_add, eq_self, Nat.not_lt_zero, Nat.reduceAdd, Nat.reduceMul, Nat.reduceSub, Nat.reduceDiv, Nat.reduceMod, Nat.reduceAnd, Nat.reduceXor, Nat.reduceEqDiff, Nat.reducePow, lt_T, lt_F, le_T, le_F, eq_F, m_in, e]
    · refine ⟨m2, yC0 h, yM0 n (yC0 h), ?_, ?_, y_none R⟩
      · unfold qX11_text
        rw [hc]
        simp (disch := omega) only [↓reduceIte, ↓q_m1, ↓q_m2, k_o, k_0, k_1, k_2, k_3, k_4, k_5, k_6, k_7, k_8, k_9, k_10, k_11, k_16, k_17, k_19, k_20, k_24, k_26, k_27, k_30, k_32, k_33, k_35, k_40, k_43, k_48, k_50, k_57, k_60, k_64, k_81, k_86, k_34, k_66, k_322, k_97, k_99, k_100, k_122, k_128, k_160, k_161, k_255, k_256, k_512, k_580, k_600, k_1000, k_4096, k_far, k_o, nI_add, n_mul, n_sub, n_div, n_rem, n_lt, n_le, n_eq, n_cl, n_and, n_or, n_xor, m1_lt, lt_m1, m1_eq, eq_m1, le_m1, m1_le, m2_eq, up_eq, up_ne, n_shl, n_shr, b2_some, let_e, ob_some, bI_0, bI_a, bI_t, bI_f, if_true, if_false, ite_true, ite_false, true_and, and_true, false_and, and_false, true_or, or_true, false_or, or_false, not_true_eq_false, not_false_eq_true, ite_not, ne_eq, Bool.true_eq_false, Bool.false_eq_true, reduceCtorEq, decide_true, decide_false, Bool.and_true, Bool.and_false, Bool.true_and, Bool.false_and, Bool.or_true, Bool.or_false, Bool.not_true, Bool.not_false, Nat.add_zero, Nat.zero_add, eq_self, Nat.not_lt_zero, Nat.reduceAdd, Nat.reduceMul, Nat.reduceSub, Nat.reduceDiv, Nat.reduceMod, Nat.reduceAnd, Nat.reduceXor, Nat.reduceEqDiff, Nat.reducePow, lt_T, lt_F, le_T, le_F, eq_F]
      · rw [pm _ e2c]
        simp (disch := omega) only [↓reduceIte, ↓q_m1, ↓q_m2, k_o, k_0, k_1, k_2, k_3, k_4, k_5, k_6, k_7, k_8, k_9, k_10, k_11, k_16, k_17, k_19, k_20, k_24, k_26, k_27, k_30, k_32, k_33, k_35, k_40, k_43, k_48, k_50, k_57, k_60, k_64, k_81, k_86, k_34, k_66, k_322, k_97, k_99, k_100, k_122, k_128, k_160, k_161, k_255, k_256, k_512, k_580, k_600, k_1000, k_4096, k_far, k_o, nI_add, n_mul, n_sub, n_div, n_rem, n_lt, n_le, n_eq, n_cl, n_and, n_or, n_xor, m1_lt, lt_m1, m1_eq, eq_m1, le_m1, m1_le, m2_eq, up_eq, up_ne, n_shl, n_shr, b2_some, let_e, ob_some, bI_0, bI_a, bI_t, bI_f, if_true, if_false, ite_true, ite_false, true_and, and_true, false_and, and_false, true_or, or_true, false_or, or_false, not_true_eq_false, not_false_eq_true, ite_not, ne_eq, Bool.true_eq_false, Bool.false_eq_true, reduceCtorEq, decide_true, decide_false, Bool.and_true, Bool.and_false, Bool.true_and, Bool.false_and, Bool.or_true, Bool.or_false, Bool.not_true, Bool.not_false, Nat.add_zero, Nat.zero_add, eq_self, Nat.not_lt_zero, Nat.reduceAdd, Nat.reduceMul, Nat.reduceSub, Nat.reduceDiv, Nat.reduceMod, Nat.reduceAnd, Nat.reduceXor, Nat.reduceEqDiff, Nat.reducePow, lt_T, lt_F, le_T, le_F, eq_F, m_in]
