/-! text: the reference's TOKENS; words as numbers. -/
/-- bytes packed, the first one highest -/
def pk8 (f : Nat → Nat) : Nat → Nat
  | 0 => 0
  | L + 1 => pk8 f L * 256 + f L
theorem pk8_lt {f : Nat → Nat} : ∀ L, (∀ i, i < L → f i < 256) → pk8 f L < 256 ^ L := by
  intro L
  induction L with
  | zero => intro _; exact Nat.zero_lt_one
  | succ L ih =>
    intro h
    have a := ih (fun i hi => h i (by omega))
    have b := h L (by omega)
    show pk8 f L * 256 + f L < 256 ^ L * 256
    omega
theorem pk8_inj {f g : Nat → Nat} : ∀ L M, (∀ i, i < L → 1 ≤ f i ∧ f i < 256) → (∀ i, i < M → 1 ≤ g i ∧ g i < 256) → pk8 f L = pk8 g M → L = M ∧ ∀ i, i < L → f i = g i := by
  intro L
  induction L with
  | zero =>
    intro M h1 h2 e
    cases M with
    | zero => exact ⟨rfl, fun i hi => absurd hi (by omega)⟩
    | succ M =>
      have := h2 M (by omega)
      have e' : 0 = pk8 g M * 256 + g M := e
      omega
  | succ L ih =>
    intro M h1 h2 e
    have a := h1 L (by omega)
    cases M with
    | zero =>
      have e' : pk8 f L * 256 + f L = 0 := e
      omega
    | succ M =>
      have b := h2 M (by omega)
      have e' : pk8 f L * 256 + f L = pk8 g M * 256 + g M := e
      obtain ⟨q1, q2⟩ := ih M (fun i hi => h1 i (by omega)) (fun i hi => h2 i (by omega)) (by omega)
      subst q1
      refine ⟨rfl, fun i hi => ?_⟩
      by_cases z : i = L
      · subst z; omega
      · exact q2 i (by omega)
/-- a word as a number; 0: none, or a longer one -/
def tW (B : Nat → Nat) (n p : Nat) : Nat := if tA B n p = 1 ∧ tE B n p - tS B n p ≤ 8 then pk8 (fun i => B (tS B n p + i)) (tE B n p - tS B n p) else 0
theorem tW_lt (B : Nat → Nat) (n p : Nat) : tW B n p < 2 ^ 64 := by
  unfold tW
  split
  · rename_i q
    have a := pk8_lt (f := fun i => B (tS B n p + i)) (tE B n p - tS B n p) (fun i hi => by
      have := kdB_1.mp ((t_row B (n := n) (p := p) (Or.inl q.1) (tS B n p + i) (by omega) (by omega)).trans q.1)
      omega)
    have b : 256 ^ (tE B n p - tS B n p) ≤ 256 ^ 8 := Nat.pow_le_pow_right (by omega) q.2
    have c : 256 ^ 8 = 2 ^ 64 := by decide
    omega
  · decide
theorem lc_i : ∀ c : Fin 256, (nI c.val).toInt64 = lN c.val := by decide +kernel
theorem lw_step {x c : Nat} (hx : x < 2 ^ 56) (hc : c < 256) : qm_lshl (lN x) (nI 8) ||| (nI c).toInt64 = lN (x * 256 + c) := by
  unfold qm_lshl
  rw [wb_shl x (show 8 < 64 by omega), lc_i ⟨c, hc⟩]
  exact g_or (k := 8) (p := 256) (by decide) hc (by omega)
def tpM (B : Nat → Nat) (n : Nat) (h : qm_H) : Prop := n ≤ 600 ∧ h.1 62 11 = nI n ∧ ∀ j, j < n → ytB (h.1 63 j) (B j)
theorem tpM.mv {B : Nat → Nat} {n : Nat} {h h' : qm_H} (T : tpM B n h) (e1 : h'.1 62 11 = h.1 62 11) (e2 : ∀ j, h'.1 63 j = h.1 63 j) : tpM B n h' := ⟨T.1, e1.trans T.2.1, fun j hj => by rw [e2]; exact T.2.2 j hj⟩
theorem m_see1 {B : Nat → Nat} {n b : Nat} {h : qm_H} (T : tpM B n h) (e : h.1 62 10 = nI b) (hb : b < n) : qX12_see 62 h = some (nI (B b), h) := by
  have hn := T.1
  have e1 := T.2.1
  have w := ytB_and' (T.2.2 b hb)
  unfold qX12_see
  simp (disch := omega) only [↓reduceIte, ↓q_m1, ↓q_m2, k_o, k_0, k_1, k_2, k_3, k_4, k_5, k_6, k_7, k_8, k_9, k_10, k_11, k_16, k_17, k_19, k_20, k_24, k_26, k_27, k_30, k_32, k_33, k_35, k_40, k_43, k_48, k_50, k_57, k_60, k_64, k_81, k_86, k_34, k_66, k_322, k_97, k_99, k_100, k_122, k_128, k_160, k_161, k_255, k_256, k_512, k_580, k_600, k_1000, k_4096, k_far, k_o, nI_add, n_mul, n_sub, n_div, n_rem, n_lt, n_le, n_eq, n_cl, n_and, n_or, n_xor, m1_lt, lt_m1, m1_eq, eq_m1, le_m1, m1_le, m2_eq, up_eq, up_ne, n_shl, n_shr, b2_some, let_e, ob_some, bI_0, bI_a, bI_t, bI_f, if_true, if_false, ite_true, ite_false, true_and, and_true, false_and, and_false, true_or, or_true, false_or, or_false, not_true_eq_false, not_false_eq_true, ite_not, ne_eq, Bool.true_eq_false, Bool.false_eq_true, reduceCtorEq, decide_true, decide_false, Bool.and_true, Bool.and_false, Bool.true_and, Bool.false_and, Bool.or_true, Bool.or_false, Bool.not_true, Bool.not_false, Nat.add_zero, Nat.zero_add, eq_self, Nat.not_lt_zero, Nat.reduceAdd, Nat.reduceMul, Nat.reduceSub, Nat.reduceDiv, Nat.reduceMod, Nat.reduceAnd, Nat.reduceXor, Nat.reduceEqDiff, Nat.reducePow, lt_T, lt_F, le_T, le_F, eq_F, e, e1, w]
theorem m_see0 {B : Nat → Nat} {n b : Nat} {h : qm_H} (T : tpM B n h) (e : h.1 62 10 = nI b) (hb : n ≤ b) (hb2 : b ≤ 600) : qX12_see 62 h = some (m1, h) := by
  have hn := T.1
  have e1 := T.2.1
  unfold qX12_see
  simp (disch := omega) only [↓reduceIte, ↓q_m1, ↓q_m2, k_o, k_0, k_1, k_2, k_3, k_4, k_5, k_6, k_7, k_8, k_9, k_10, k_11, k_16, k_17, k_19, k_20, k_24, k_26, k_27, k_30, k_32, k_33, k_35, k_40, k_43, k_48, k_50, k_57, k_60, k_64, k_81, k_86, k_34, k_66, k_322, k_97, k_99, k_100, k_122, k_128, k_160, k_161, k_255, k_256, k_512, k_580, k_600, k_1000, k_4096, k_far, k_o, nI_add, n_mul, n_sub, n_div, n_rem, n_lt, n_le, n_eq, n_cl, n_and, n_or, n_xor, m1_lt, lt_m1, m1_eq, eq_m1, le_m1, m1_le, m2_eq, up_eq, up_ne, n_shl, n_shr, b2_some, let_e, ob_some, bI_0, bI_a, bI_t, bI_f, if_true, if_false, ite_true, ite_false, true_and, and_true, false_and, and_false, true_or, or_true, false_or, or_false, not_true_eq_false, not_false_eq_true, ite_not, ne_eq, Bool.true_eq_false, Bool.false_eq_true, reduceCtorEq, decide_true, decide_false, Bool.and_true, Bool.and_false, Bool.true_and, Bool.false_and, Bool.or_true, Bool.or_false, Bool.not_true, Bool.not_false, Nat.add_zero, Nat.zero_add, eq_self, Nat.not_lt_zero, Nat.reduceAdd, Nat.reduceMul, Nat.reduceSub, Nat.reduceDiv, Nat.reduceMod, Nat.reduceAnd, Nat.reduceXor, Nat.reduceEqDiff, Nat.reducePow, lt_T, lt_F, le_T, le_F, eq_F, e, e1]
theorem m_tok0 {B : Nat → Nat} {n : Nat} : ∀ d b h fuel, n - b = d → d < fuel → b ≤ n → tpM B n h → h.1 62 10 = nI b → ∃ h1 f2, qX12_token_0 fuel 62 h = qX12_token_0 (f2 + 1) 62 h1 ∧ tpM B n h1 ∧ h1.1 62 10 = nI (tSk B n 4 (n - b) b) ∧ qFr (fun a k => a = 62 ∧ k = 10) h h1 := by
  intro d
  induction d with
  | zero =>
    intro b h fuel hd hf hb T e4
    obtain ⟨g, rfl⟩ : ∃ g, fuel = g + 1 := ⟨fuel - 1, by omega⟩
    refine ⟨h, g, rfl, T, ?_, qFr.refl _ _⟩
    rw [tSk_stay (by omega)]
    exact e4
  | succ d ih =>
    intro b h fuel hd hf hb T e4
    obtain ⟨g, rfl⟩ : ∃ g, fuel = g + 1 := ⟨fuel - 1, by omega⟩
    have hn := T.1
    have sb := m_see1 T e4 (show b < n by omega)
    by_cases q : kdB (B b) = 4
    · obtain ⟨h1, f2, a1, a2, a3, a4⟩ := ih (b + 1) (qm_seti h 62 10 (nI (b + 1))) g (by omega) (by omega) (by omega) (T.mv (sI_ne (by omega)) (fun j => sI_ne (by omega))) (sI_eq _ _ _ _)
      refine ⟨h1, f2, ?_, a2, ?_, (qFr.seti ⟨rfl, rfl⟩).trans a4⟩
      · rw [← a1]
        conv => { lhs; unfold qX12_token_0 }
        rcases kdB_4.mp q with z | z
        · rw [z] at sb
          simp (disch := omega) only [↓reduceIte, ↓q_m1, ↓q_m2, k_o, k_0, k_1, k_2, k_3, k_4, k_5, k_6, k_7, k_8, k_9, k_10, k_11, k_16, k_17, k_19, k_20, k_24, k_26, k_27, k_30, k_32, k_33, k_35, k_40, k_43, k_48, k_50, k_57, k_60, k_64, k_81, k_86, k_34, k_66, k_322, k_97, k_99, k_100, k_122, k_128, k_160, k_161, k_255, k_256, k_512, k_580, k_600, k_1000, k_4096, k_far, k_o, nI_add, n_mul, n_sub, n_div, n_rem, n_lt, n_le, n_eq, n_cl, n_and, n_or, n_xor, m1_lt, lt_m1, m1_eq, eq_m1, le_m1, m1_le, m2_eq, up_eq, up_ne, n_shl, n_shr, b2_some, let_e, ob_some, bI_0, bI_a, bI_t, bI_f, if_true, if_false, ite_true, ite_false, true_and, and_true, false_and, and_false, true_or, or_true, false_or, or_false, not_true_eq_false, not_false_eq_true, ite_not, ne_eq, Bool.true_eq_false, Bool.false_eq_true, reduceCtorEq, decide_true, decide_false, Bool.and_true, Bool.and_false, Bool.true_and, Bool.false_and, Bool.or_true, Bool.or_false, Bool.not_true, Bool.not_false, Nat.add_zero, Nat.zero_add, eq_self, Nat.not_lt_zero, Nat.reduceAdd, Nat.reduceMul, Nat.reduceSub, Nat.reduceDiv, Nat.reduceMod, Nat.reduceAnd, Nat.reduceXor, Nat.reduceEqDiff, Nat.reducePow, lt_T, lt_F, le_T, le_F, eq_F, sb, e4]
        · rw [z] at sb
          simp (disch := omega) only [↓reduceIte, ↓q_m1, ↓q_m2, k_o, k_0, k_1, k_2, k_3, k_4, k_5, k_6, k_7, k_8, k_9, k_10, k_11, k_16, k_17, k_19, k_20, k_24, k_26, k_27, k_30, k_32, k_33, k_35, k_40, k_43, k_48, k_50, k_57, k_60, k_64, k_81, k_86, k_34, k_66, k_322, k_97, k_99, k_100, k_122, k_128, k_160, k_161, k_255, k_256, k_512, k_580, k_600, k_1000, k_4096, k_far, k_o, nI_add, n_mul, n_sub, n_div, n_rem, n_lt, n_le, n_eq, n_cl, n_and, n_or, n_xor, m1_lt, lt_m1, m1_eq, eq_m1, le_m1, m1_le, m2_eq, up_eq, up_ne, n_shl, n_shr, b2_some, let_e, ob_some, bI_0, bI_a, bI_t, bI_f, if_true, if_false, ite_true, ite_false, true_and, and_true, false_and, and_false, true_or, or_true, false_or, or_false, not_true_eq_false, not_false_eq_true, ite_not, ne_eq, Bool.true_eq_false, Bool.false_eq_true, reduceCtorEq, decide_true, decide_false, Bool.and_true, Bool.and_false, Bool.true_and, Bool.false_and, Bool.or_true, Bool.or_false, Bool.not_true, Bool.not_false, Nat.add_zero, Nat.zero_add, eq_self, Nat.not_lt_zero, Nat.reduceAdd, Nat.reduceMul, Nat.reduceSub, Nat.reduceDiv, Nat.reduceMod, Nat.reduceAnd, Nat.reduceXor, Nat.reduceEqDiff, Nat.reducePow, lt_T, lt_F, le_T, le_F, eq_F, sb, e4]
      · rw [tSk_step (by omega) q]
        exact a3
    · refine ⟨h, g, rfl, T, ?_, qFr.refl _ _⟩
      rw [tSk_stay (fun z => q z.2)]
      exact e4
theorem sL_eq (h : qm_H) (a k : Nat) (x : Int64) : (qm_setl h a k x).2 a k = x := if_pos ⟨rfl, rfl⟩
theorem sL_1 (h : qm_H) (a k b j : Nat) (x : Int64) : (qm_setl h a k x).1 b j = h.1 b j := rfl
theorem sI_2 (h : qm_H) (a k b j : Nat) (x : Int32) : (qm_seti h a k x).2 b j = h.2 b j := rfl
/-- cells of the reference's TOKEN -/
def mtk (a k : Nat) : Prop := a = 62 ∧ (k = 10 ∨ (12 ≤ k ∧ k ≤ 15))
theorem m_tok74 {B : Nat → Nat} {n s e : Nat} (he : e ≤ n) (hs : s ≤ e) (D : ∀ j, s ≤ j → j < e → kdB (B j) = 1) (X : ¬ (e < n ∧ kdB (B e) = 1)) : ∀ d i h fuel, s + i + d = e → d < fuel → tpM B n h → h.1 62 10 = nI (s + i) → (i ≤ 8 → h.2 62 15 = lN (pk8 (fun i => B (s + i)) i)) → ∃ h', qX12_token_74 fuel 62 (nI i) h = some h' ∧ h'.1 62 10 = nI e ∧ h'.1 62 13 = nI 2 ∧ h'.2 62 15 = lN (if e - s ≤ 8 then pk8 (fun i => B (s + i)) (e - s) else 0) ∧ qFr (fun a k => a = 62 ∧ (k = 10 ∨ k = 13 ∨ k = 15)) h h' := by
  intro d
  induction d with
  | zero =>
    intro i h fuel hd hf T e4 w
    obtain ⟨g, rfl⟩ : ∃ g, fuel = g + 1 := ⟨fuel - 1, by omega⟩
    have hn := T.1
    obtain rfl : e = s + i := by omega
    have ei : s + i - s = i := by omega
    have main : ∀ x : Int64, x = (if i ≤ 8 then h.2 62 15 else 0) → qX12_token_74 (g + 1) 62 (nI i) h = some (qm_seti (qm_setl h 62 15 x) 62 13 (nI 2)) := by
      intro x hx
      unfold qX12_token_74
      by_cases q : s + i < n
      · have sb := m_see1 T e4 q
        have nb : ¬ (97 ≤ B (s + i) ∧ B (s + i) ≤ 122) := fun z => X ⟨q, kdB_1.mpr z⟩
        have b6 := ytB_lt (T.2.2 _ q)
        by_cases l : i ≤ 8
        · rw [if_pos l] at hx
          subst hx
          rcases (show B (s + i) < 97 ∨ 122 < B (s + i) by omega) with z | z
          · simp (disch := omega) only [↓reduceIte, ↓q_m1, ↓q_m2, k_o, k_0, k_1, k_2, k_3, k_4, k_5, k_6, k_7, k_8, k_9, k_10, k_11, k_16, k_17, k_19, k_20, k_24, k_26, k_27, k_30, k_32, k_33, k_35, k_40, k_43, k_48, k_50, k_57, k_60, k_64, k_81, k_86, k_34, k_66, k_322, k_97, k_99, k_100, k_122, k_128, k_160, k_161, k_255, k_256, k_512, k_580, k_600, k_1000, k_4096, k_far, k_o, nI_add, n_mul, n_sub, n_div, n_rem, n_lt, n_le, n_eq, n_cl, n_and, n_or, n_xor, m1_lt, lt_m1, m1_eq, eq_m1, le_m1, m1_le, m2_eq, up_eq, up_ne, n_shl, n_shr, b2_some, let_e, ob_some, bI_0, bI_a, bI_t, bI_f, if_true, if_false, ite_true, ite_false, true_and, and_true, false_and, and_false, true_or, or_true, false_or, or_false, not_true_eq_false, not_false_eq_true, ite_not, ne_eq, Bool.true_eq_false, Bool.false_eq_true, reduceCtorEq, decide_true, decide_false, Bool.and_true, Bool.and_false, Bool.true_and, Bool.false_and, Bool.or_true, Bool.or_false, Bool.not_true, Bool.not_false, Nat.add_zero, Nat.zero_add, eq_self, Nat.not_lt_zero, Nat.reduceAdd, Nat.reduceMul, Nat.reduceSub, Nat.reduceDiv, Nat.reduceMod, Nat.reduceAnd, Nat.reduceXor, Nat.reduceEqDiff, Nat.reducePow, lt_T, lt_F, le_T, le_F, eq_F, sb, m_in]
          · simp (disch := omega) only [↓reduceIte, ↓q_m1, ↓q_m2, k_o, k_0, k_1, k_2, k_3, k_4, k_5, k_6, k_7, k_8, k_9, k_10, k_11, k_16, k_17, k_19, k_20, k_24, k_26, k_27, k_30, k_32, k_33, k_35, k_40, k_43, k_48, k_50, k_57, k_60, k_64, k_81, k_86, k_34, k_66, k_322, k_97, k_99, k_100, k_122, k_128, k_160, k_161, k_255, k_256, k_512, k_580, k_600, k_1000, k_4096, k_far, k_o, nI_add, n_mul, n_sub, n_div, n_rem, n_lt, n_le, n_eq, n_cl, n_and, n_or, n_xor, m1_lt, lt_m1, m1_eq, eq_m1, le_m1, m1_le, m2_eq, up_eq, up_ne, n_shl, n_shr, b2_some, let_e, ob_some, bI_0, bI_a, bI_t, bI_f, if_true, if_false, ite_true, ite_false, true_and, and_true, false_and, and_false, true_or, or_true, false_or, or_false, not_true_eq_false, not_false_eq_true, ite_not, ne_eq, Bool.true_eq_false, Bool.false_eq_true, reduceCtorEq, decide_true, decide_false, Bool.and_true, Bool.and_false, Bool.true_and, Bool.false_and, Bool.or_true, Bool.or_false, Bool.not_true, Bool.not_false, Nat.add_zero, Nat.zero_add, eq_self, Nat.not_lt_zero, Nat.reduceAdd, Nat.reduceMul, Nat.reduceSub, Nat.reduceDiv, Nat.reduceMod, Nat.reduceAnd, Nat.reduceXor, Nat.reduceEqDiff, Nat.reducePow, lt_T, lt_F, le_T, le_F, eq_F, sb, m_in]
        · rw [if_neg l] at hx
          subst hx
          rcases (show B (s + i) < 97 ∨ 122 < B (s + i) by omega) with z | z
          · simp (disch := omega) only [↓reduceIte, ↓q_m1, ↓q_m2, k_o, k_0, k_1, k_2, k_3, k_4, k_5, k_6, k_7, k_8, k_9, k_10, k_11, k_16, k_17, k_19, k_20, k_24, k_26, k_27, k_30, k_32, k_33, k_35, k_40, k_43, k_48, k_50, k_57, k_60, k_64, k_81, k_86, k_34, k_66, k_322, k_97, k_99, k_100, k_122, k_128, k_160, k_161, k_255, k_256, k_512, k_580, k_600, k_1000, k_4096, k_far, k_o, nI_add, n_mul, n_sub, n_div, n_rem, n_lt, n_le, n_eq, n_cl, n_and, n_or, n_xor, m1_lt, lt_m1, m1_eq, eq_m1, le_m1, m1_le, m2_eq, up_eq, up_ne, n_shl, n_shr, b2_some, let_e, ob_some, bI_0, bI_a, bI_t, bI_f, if_true, if_false, ite_true, ite_false, true_and, and_true, false_and, and_false, true_or, or_true, false_or, or_false, not_true_eq_false, not_false_eq_true, ite_not, ne_eq, Bool.true_eq_false, Bool.false_eq_true, reduceCtorEq, decide_true, decide_false, Bool.and_true, Bool.and_false, Bool.true_and, Bool.false_and, Bool.or_true, Bool.or_false, Bool.not_true, Bool.not_false, Nat.add_zero, Nat.zero_add, eq_self, Nat.not_lt_zero, Nat.reduceAdd, Nat.reduceMul, Nat.reduceSub, Nat.reduceDiv, Nat.reduceMod, Nat.reduceAnd, Nat.reduceXor, Nat.reduceEqDiff, Nat.reducePow, lt_T, lt_F, le_T, le_F, eq_F, sb, m_in]
          · simp (disch := omega) only [↓reduceIte, ↓q_m1, ↓q_m2, k_o, k_0, k_1, k_2, k_3, k_4, k_5, k_6, k_7, k_8, k_9, k_10, k_11, k_16, k_17, k_19, k_20, k_24, k_26, k_27, k_30, k_32, k_33, k_35, k_40, k_43, k_48, k_50, k_57, k_60, k_64, k_81, k_86, k_34, k_66, k_322, k_97, k_99, k_100, k_122, k_128, k_160, k_161, k_255, k_256, k_512, k_580, k_600, k_1000, k_4096, k_far, k_o, nI_add, n_mul, n_sub, n_div, n_rem, n_lt, n_le, n_eq, n_cl, n_and, n_or, n_xor, m1_lt, lt_m1, m1_eq, eq_m1, le_m1, m1_le, m2_eq, up_eq, up_ne, n_shl, n_shr, b2_some, let_e, ob_some, bI_0, bI_a, bI_t, bI_f, if_true, if_false, ite_true, ite_false, true_and, and_true, false_and, and_false, true_or, or_true, false_or, or_false, not_true_eq_false, not_false_eq_true, ite_not, ne_eq, Bool.true_eq_false, Bool.false_eq_true, reduceCtorEq, decide_true, decide_false, Bool.and_true, Bool.and_false, Bool.true_and, Bool.false_and, Bool.or_true, Bool.or_false, Bool.not_true, Bool.not_false, Nat.add_zero, Nat.zero_add, eq_self, Nat.not_lt_zero, Nat.reduceAdd, Nat.reduceMul, Nat.reduceSub, Nat.reduceDiv, Nat.reduceMod, Nat.reduceAnd, Nat.reduceXor, Nat.reduceEqDiff, Nat.reducePow, lt_T, lt_F, le_T, le_F, eq_F, sb, m_in]
      · have sb := m_see0 T e4 (by omega) (by omega)
        by_cases l : i ≤ 8
        · rw [if_pos l] at hx
          subst hx
          simp (disch := omega) only [↓reduceIte, ↓q_m1, ↓q_m2, k_o, k_0, k_1, k_2, k_3, k_4, k_5, k_6, k_7, k_8, k_9, k_10, k_11, k_16, k_17, k_19, k_20, k_24, k_26, k_27, k_30, k_32, k_33, k_35, k_40, k_43, k_48, k_50, k_57, k_60, k_64, k_81, k_86, k_34, k_66, k_322, k_97, k_99, k_100, k_122, k_128, k_160, k_161, k_255, k_256, k_512, k_580, k_600, k_1000, k_4096, k_far, k_o, nI_add, n_mul, n_sub, n_div, n_rem, n_lt, n_le, n_eq, n_cl, n_and, n_or, n_xor, m1_lt, lt_m1, m1_eq, eq_m1, le_m1, m1_le, m2_eq, up_eq, up_ne, n_shl, n_shr, b2_some, let_e, ob_some, bI_0, bI_a, bI_t, bI_f, if_true, if_false, ite_true, ite_false, true_and, and_true, false_and, and_false, true_or, or_true, false_or, or_false, not_true_eq_false, not_false_eq_true, ite_not, ne_eq, Bool.true_eq_false, Bool.false_eq_true, reduceCtorEq, decide_true, decide_false, Bool.and_true, Bool.and_false, Bool.true_and, Bool.false_and, Bool.or_true, Bool.or_false, Bool.not_true, Bool.not_false, Nat.add_zero, Nat.zero_add, eq_self, Nat.not_lt_zero, Nat.reduceAdd, Nat.reduceMul, Nat.reduceSub, Nat.reduceDiv, Nat.reduceMod, Nat.reduceAnd, Nat.reduceXor, Nat.reduceEqDiff, Nat.reducePow, lt_T, lt_F, le_T, le_F, eq_F, sb, m_in]
        · rw [if_neg l] at hx
          subst hx
          simp (disch := omega) only [↓reduceIte, ↓q_m1, ↓q_m2, k_o, k_0, k_1, k_2, k_3, k_4, k_5, k_6, k_7, k_8, k_9, k_10, k_11, k_16, k_17, k_19, k_20, k_24, k_26, k_27, k_30, k_32, k_33, k_35, k_40, k_43, k_48, k_50, k_57, k_60, k_64, k_81, k_86, k_34, k_66, k_322, k_97, k_99, k_100, k_122, k_128, k_160, k_161, k_255, k_256, k_512, k_580, k_600, k_1000, k_4096, k_far, k_o, nI_add, n_mul, n_sub, n_div, n_rem, n_lt, n_le, n_eq, n_cl, n_and, n_or, n_xor, m1_lt, lt_m1, m1_eq, eq_m1, le_m1, m1_le, m2_eq, up_eq, up_ne, n_shl, n_shr, b2_some, let_e, ob_some, bI_0, bI_a, bI_t, bI_f, if_true, if_false, ite_true, ite_false, true_and, and_true, false_and, and_false, true_or, or_true, false_or, or_false, not_true_eq_false, not_false_eq_true, ite_not, ne_eq, Bool.true_eq_false, Bool.false_eq_true, reduceCtorEq, decide_true, decide_false, Bool.and_true, Bool.and_false, Bool.true_and, Bool.false_and, Bool.or_true, Bool.or_false, Bool.not_true, Bool.not_false, Nat.add_zero, Nat.zero_add, eq_self, Nat.not_lt_zero, Nat.reduceAdd, Nat.reduceMul, Nat.reduceSub, Nat.reduceDiv, Nat.reduceMod, Nat.reduceAnd, Nat.reduceXor, Nat.reduceEqDiff, Nat.reducePow, lt_T, lt_F, le_T, le_F, eq_F, sb, m_in]
    refine ⟨_, main _ rfl, ?_, sI_eq _ _ _ _, ?_, (qFr.setl ⟨rfl, by omega⟩).trans (qFr.seti ⟨rfl, by omega⟩)⟩
    · rw [sI_ne (by omega)]
      exact e4
    · rw [sI_2, sL_eq, ei]
      by_cases l : i ≤ 8
      · rw [if_pos l, if_pos l]
        exact w l
      · rw [if_neg l, if_neg l]
        rfl
  | succ d ih =>
    intro i h fuel hd hf T e4 w
    obtain ⟨g, rfl⟩ : ∃ g, fuel = g + 1 := ⟨fuel - 1, by omega⟩
    have hn := T.1
    have kb := kdB_1.mp (D (s + i) (by omega) (by omega))
    have sb := m_see1 T e4 (show s + i < n by omega)
    obtain ⟨h', a1, a2, a3, a4, a5⟩ := ih (i + 1) (qm_seti (qm_setl h 62 15 (qm_lshl (h.2 62 15) (nI 8) ||| (nI (B (s + i))).toInt64)) 62 10 (nI (s + i + 1))) g (by omega) (by omega) (T.mv (sI_ne (by omega)) (fun j => sI_ne (by omega))) (sI_eq _ _ _ _) (fun l => by
      rw [sI_2, sL_eq, w (by omega)]
      have y := pk8_lt (f := fun i => B (s + i)) i (fun j hj => by
        have := kdB_1.mp (D (s + j) (by omega) (by omega))
        omega)
      have y2 : 256 ^ i ≤ 256 ^ 7 := Nat.pow_le_pow_right (by omega) (by omega)
      have y3 : 256 ^ 7 = 2 ^ 56 := by decide
      exact lw_step (by omega) (by omega))
    refine ⟨h', ?_, a2, a3, a4, ((qFr.setl ⟨rfl, by omega⟩).trans (qFr.seti ⟨rfl, by omega⟩)).trans a5⟩
    unfold qX12_token_74
    simp (disch := omega) only [↓reduceIte, ↓q_m1, ↓q_m2, k_o, k_0, k_1, k_2, k_3, k_4, k_5, k_6, k_7, k_8, k_9, k_10, k_11, k_16, k_17, k_19, k_20, k_24, k_26, k_27, k_30, k_32, k_33, k_35, k_40, k_43, k_48, k_50, k_57, k_60, k_64, k_81, k_86, k_34, k_66, k_322, k_97, k_99, k_100, k_122, k_128, k_160, k_161, k_255, k_256, k_512, k_580, k_600, k_1000, k_4096, k_far, k_o, nI_add, n_mul, n_sub, n_div, n_rem, n_lt, n_le, n_eq, n_cl, n_and, n_or, n_xor, m1_lt, lt_m1, m1_eq, eq_m1, le_m1, m1_le, m2_eq, up_eq, up_ne, n_shl, n_shr, b2_some, let_e, ob_some, bI_0, bI_a, bI_t, bI_f, if_true, if_false, ite_true, ite_false, true_and, and_true, false_and, and_false, true_or, or_true, false_or, or_false, not_true_eq_false, not_false_eq_true, ite_not, ne_eq, Bool.true_eq_false, Bool.false_eq_true, reduceCtorEq, decide_true, decide_false, Bool.and_true, Bool.and_false, Bool.true_and, Bool.false_and, Bool.or_true, Bool.or_false, Bool.not_true, Bool.not_false, Nat.add_zero, Nat.zero_add, eq_self, Nat.not_lt_zero, Nat.reduceAdd, Nat.reduceMul, Nat.reduceSub, Nat.reduceDiv, Nat.reduceMod, Nat.reduceAnd, Nat.reduceXor, Nat.reduceEqDiff, Nat.reducePow, lt_T, lt_F, le_T, le_F, eq_F, sb, m_in, e4]
    exact a1
/-- the value of the first digits -/
def dgV (B : Nat → Nat) (s i : Nat) : Nat := if i = 0 then 0 else if i = 1 then B s - 48 else 10 * (B s - 48) + (B (s + 1) - 48)
theorem m_tok163 {B : Nat → Nat} {n s e : Nat} (he : e ≤ n) (hs : s ≤ e) (D : ∀ j, s ≤ j → j < e → kdB (B j) = 2) (X : ¬ (e < n ∧ kdB (B e) = 2)) : ∀ d i h fuel, s + i + d = e → d < fuel → tpM B n h → h.1 62 10 = nI (s + i) → h.1 62 14 = nI (dgV B s i) → ∃ h', qX12_token_163 fuel 62 (nI i) h = some h' ∧ h'.1 62 10 = nI e ∧ h'.1 62 13 = nI (if 2 < e - s then 1 else 3) ∧ h'.1 62 14 = nI (dgV B s (e - s)) ∧ qFr (fun a k => a = 62 ∧ (k = 10 ∨ k = 13 ∨ k = 14)) h h' := by
  intro d
  induction d with
  | zero =>
    intro i h fuel hd hf T e4 w
    obtain ⟨g, rfl⟩ : ∃ g, fuel = g + 1 := ⟨fuel - 1, by omega⟩
    have hn := T.1
    obtain rfl : e = s + i := by omega
    have ei : s + i - s = i := by omega
    have main : qX12_token_163 (g + 1) 62 (nI i) h = some (qm_seti h 62 13 (nI (if 2 < i then 1 else 3))) := by
      unfold qX12_token_163
      by_cases q : s + i < n
      · have sb := m_see1 T e4 q
        have nb : ¬ (48 ≤ B (s + i) ∧ B (s + i) ≤ 57) := fun z => X ⟨q, kdB_2.mpr z⟩
        have b6 := ytB_lt (T.2.2 _ q)
        by_cases l : 2 < i
        · rcases (show B (s + i) < 48 ∨ 57 < B (s + i) by omega) with z | z
          · simp (disch := omega) only [↓reduceIte, ↓q_m1, ↓q_m2, k_o, k_0, k_1, k_2, k_3, k_4, k_5, k_6, k_7, k_8, k_9, k_10, k_11, k_16, k_17, k_19, k_20, k_24, k_26, k_27, k_30, k_32, k_33, k_35, k_40, k_43, k_48, k_50, k_57, k_60, k_64, k_81, k_86, k_34, k_66, k_322, k_97, k_99, k_100, k_122, k_128, k_160, k_161, k_255, k_256, k_512, k_580, k_600, k_1000, k_4096, k_far, k_o, nI_add, n_mul, n_sub, n_div, n_rem, n_lt, n_le, n_eq, n_cl, n_and, n_or, n_xor, m1_lt, lt_m1, m1_eq, eq_m1, le_m1, m1_le, m2_eq, up_eq, up_ne, n_shl, n_shr, b2_some, let_e, ob_some, bI_0, bI_a, bI_t, bI_f, if_true, if_false, ite_true, ite_false, true_and, and_true, false_and, and_false, true_or, or_true, false_or, or_false, not_true_eq_false, not_false_eq_true, ite_not, ne_eq, Bool.true_eq_false, Bool.false_eq_true, reduceCtorEq, decide_true, decide_false, Bool.and_true, Bool.and_false, Bool.true_and, Bool.false_and, Bool.or_true, Bool.or_false, Bool.not_true, Bool.not_false, Nat.add_zero, Nat.zero_add, eq_self, Nat.not_lt_zero, Nat.reduceAdd, Nat.reduceMul, Nat.reduceSub, Nat.reduceDiv, Nat.reduceMod, Nat.reduceAnd, Nat.reduceXor, Nat.reduceEqDiff, Nat.reducePow, lt_T, lt_F, le_T, le_F, eq_F, sb, m_in]
          · simp (disch := omega) only [↓reduceIte, ↓q_m1, ↓q_m2, k_o, k_0, k_1, k_2, k_3, k_4, k_5, k_6, k_7, k_8, k_9, k_10, k_11, k_16, k_17, k_19, k_20, k_24, k_26, k_27, k_30, k_32, k_33, k_35, k_40, k_43, k_48, k_50, k_57, k_60, k_64, k_81, k_86, k_34, k_66, k_322, k_97, k_99, k_100, k_122, k_128, k_160, k_161, k_255, k_256, k_512, k_580, k_600, k_1000, k_4096, k_far, k_o, nI_add, n_mul, n_sub, n_div, n_rem, n_lt, n_le, n_eq, n_cl, n_and, n_or, n_xor, m1_lt, lt_m1, m1_eq, eq_m1, le_m1, m1_le, m2_eq, up_eq, up_ne, n_shl, n_shr, b2_some, let_e, ob_some, bI_0, bI_a, bI_t, bI_f, if_true, if_false, ite_true, ite_false, true_and, and_true, false_and, and_false, true_or, or_true, false_or, or_false, not_true_eq_false, not_false_eq_true, ite_not, ne_eq, Bool.true_eq_false, Bool.false_eq_true, reduceCtorEq, decide_true, decide_false, Bool.and_true, Bool.and_false, Bool.true_and, Bool.false_and, Bool.or_true, Bool.or_false, Bool.not_true, Bool.not_false, Nat.add_zero, Nat.zero_add, eq_self, Nat.not_lt_zero, Nat.reduceAdd, Nat.reduceMul, Nat.reduceSub, Nat.reduceDiv, Nat.reduceMod, Nat.reduceAnd, Nat.reduceXor, Nat.reduceEqDiff, Nat.reducePow, lt_T, lt_F, le_T, le_F, eq_F, sb, m_in]
        · rcases (show B (s + i) < 48 ∨ 57 < B (s + i) by omega) with z | z
          · simp (disch := omega) only [↓reduceIte, ↓q_m1, ↓q_m2, k_o, k_0, k_1, k_2, k_3, k_4, k_5, k_6, k_7, k_8, k_9, k_10, k_11, k_16, k_17, k_19, k_20, k_24, k_26, k_27, k_30, k_32, k_33, k_35, k_40, k_43, k_48, k_50, k_57, k_60, k_64, k_81, k_86, k_34, k_66, k_322, k_97, k_99, k_100, k_122, k_128, k_160, k_161, k_255, k_256, k_512, k_580, k_600, k_1000, k_4096, k_far, k_o, nI_add, n_mul, n_sub, n_div, n_rem, n_lt, n_le, n_eq, n_cl, n_and, n_or, n_xor, m1_lt, lt_m1, m1_eq, eq_m1, le_m1, m1_le, m2_eq, up_eq, up_ne, n_shl, n_shr, b2_some, let_e, ob_some, bI_0, bI_a, bI_t, bI_f, if_true, if_false, ite_true, ite_false, true_and, and_true, false_and, and_false, true_or, or_true, false_or, or_false, not_true_eq_false, not_false_eq_true, ite_not, ne_eq, Bool.true_eq_false, Bool.false_eq_true, reduceCtorEq, decide_true, decide_false, Bool.and_true, Bool.and_false, Bool.true_and, Bool.false_and, Bool.or_true, Bool.or_false, Bool.not_true, Bool.not_false, Nat.add_zero, Nat.zero_add, eq_self, Nat.not_lt_zero, Nat.reduceAdd, Nat.reduceMul, Nat.reduceSub, Nat.reduceDiv, Nat.reduceMod, Nat.reduceAnd, Nat.reduceXor, Nat.reduceEqDiff, Nat.reducePow, lt_T, lt_F, le_T, le_F, eq_F, sb, m_in]
          · simp (disch := omega) only [↓reduceIte, ↓q_m1, ↓q_m2, k_o, k_0, k_1, k_2, k_3, k_4, k_5, k_6, k_7, k_8, k_9, k_10, k_11, k_16, k_17, k_19, k_20, k_24, k_26, k_27, k_30, k_32, k_33, k_35, k_40, k_43, k_48, k_50, k_57, k_60, k_64, k_81, k_86, k_34, k_66, k_322, k_97, k_99, k_100, k_122, k_128, k_160, k_161, k_255, k_256, k_512, k_580, k_600, k_1000, k_4096, k_far, k_o, nI_add, n_mul, n_sub, n_div, n_rem, n_lt, n_le, n_eq, n_cl, n_and, n_or, n_xor, m1_lt, lt_m1, m1_eq, eq_m1, le_m1, m1_le, m2_eq, up_eq, up_ne, n_shl, n_shr, b2_some, let_e, ob_some, bI_0, bI_a, bI_t, bI_f, if_true, if_false, ite_true, ite_false, true_and, and_true, false_and, and_false, true_or, or_true, false_or, or_false, not_true_eq_false, not_false_eq_true, ite_not, ne_eq, Bool.true_eq_false, Bool.false_eq_true, reduceCtorEq, decide_true, decide_false, Bool.and_true, Bool.and_false, Bool.true_and, Bool.false_and, Bool.or_true, Bool.or_false, Bool.not_true, Bool.not_false, Nat.add_zero, Nat.zero_add, eq_self, Nat.not_lt_zero, Nat.reduceAdd, Nat.reduceMul, Nat.reduceSub, Nat.reduceDiv, Nat.reduceMod, Nat.reduceAnd, Nat.reduceXor, Nat.reduceEqDiff, Nat.reducePow, lt_T, lt_F, le_T, le_F, eq_F, sb, m_in]
      · have sb := m_see0 T e4 (by omega) (by omega)
        by_cases l : 2 < i
        · simp (disch := omega) only [↓reduceIte, ↓q_m1, ↓q_m2, k_o, k_0, k_1, k_2, k_3, k_4, k_5, k_6, k_7, k_8, k_9, k_10, k_11, k_16, k_17, k_19, k_20, k_24, k_26, k_27, k_30, k_32, k_33, k_35, k_40, k_43, k_48, k_50, k_57, k_60, k_64, k_81, k_86, k_34, k_66, k_322, k_97, k_99, k_100, k_122, k_128, k_160, k_161, k_255, k_256, k_512, k_580, k_600, k_1000, k_4096, k_far, k_o, nI_add, n_mul, n_sub, n_div, n_rem, n_lt, n_le, n_eq, n_cl, n_and, n_or, n_xor, m1_lt, lt_m1, m1_eq, eq_m1, le_m1, m1_le, m2_eq, up_eq, up_ne, n_shl, n_shr, b2_some, let_e, ob_some, bI_0, bI_a, bI_t, bI_f, if_true, if_false, ite_true, ite_false, true_and, and_true, false_and, and_false, true_or, or_true, false_or, or_false, not_true_eq_false, not_false_eq_true, ite_not, ne_eq, Bool.true_eq_false, Bool.false_eq_true, reduceCtorEq, decide_true, decide_false, Bool.and_true, Bool.and_false, Bool.true_and, Bool.false_and, Bool.or_true, Bool.or_false, Bool.not_true, Bool.not_false, Nat.add_zero, Nat.zero_add, eq_self, Nat.not_lt_zero, Nat.reduceAdd, Nat.reduceMul, Nat.reduceSub, Nat.reduceDiv, Nat.reduceMod, Nat.reduceAnd, Nat.reduceXor, Nat.reduceEqDiff, Nat.reducePow, lt_T, lt_F, le_T, le_F, eq_F, sb, m_in]
        · simp (disch := omega) only [↓reduceIte, ↓q_m1, ↓q_m2, k_o, k_0, k_1, k_2, k_3, k_4, k_5, k_6, k_7, k_8, k_9, k_10, k_11, k_16, k_17, k_19, k_20, k_24, k_26, k_27, k_30, k_32, k_33, k_35, k_40, k_43, k_48, k_50, k_57, k_60, k_64, k_81, k_86, k_34, k_66, k_322, k_97, k_99, k_100, k_122, k_128, k_160, k_161, k_255, k_256, k_512, k_580, k_600, k_1000, k_4096, k_far, k_o, nI_add, n_mul, n_sub, n_div, n_rem, n_lt, n_le, n_eq, n_cl, n_and, n_or, n_xor, m1_lt, lt_m1, m1_eq, eq_m1, le_m1, m1_le, m2_eq, up_eq, up_ne, n_shl, n_shr, b2_some, let_e, ob_some, bI_0, bI_a, bI_t, bI_f, if_true, if_false, ite_true, ite_false, true_and, and_true, false_and, and_false, true_or, or_true, false_or, or_false, not_true_eq_false, not_false_eq_true, ite_not, ne_eq, Bool.true_eq_false, Bool.false_eq_true, reduceCtorEq, decide_true, decide_false, Bool.and_true, Bool.and_false, Bool.true_and, Bool.false_and, Bool.or_true, Bool.or_false, Bool.not_true, Bool.not_false, Nat.add_zero, Nat.zero_add, eq_self, Nat.not_lt_zero, Nat.reduceAdd, Nat.reduceMul, Nat.reduceSub, Nat.reduceDiv, Nat.reduceMod, Nat.reduceAnd, Nat.reduceXor, Nat.reduceEqDiff, Nat.reducePow, lt_T, lt_F, le_T, le_F, eq_F, sb, m_in]
    refine ⟨_, main, ?_, ?_, ?_, qFr.seti ⟨rfl, by omega⟩⟩
    · rw [sI_ne (by omega)]
      exact e4
    · rw [sI_eq, ei]
    · rw [sI_ne (by omega), ei]
      exact w
  | succ d ih =>
    intro i h fuel hd hf T e4 w
    obtain ⟨g, rfl⟩ : ∃ g, fuel = g + 1 := ⟨fuel - 1, by omega⟩
    have hn := T.1
    have kb := kdB_2.mp (D (s + i) (by omega) (by omega))
    have sb := m_see1 T e4 (show s + i < n by omega)
    have vb : dgV B s i < 1000 := by
      unfold dgV
      split
      · omega
      · have z0 := kdB_2.mp (D s (by omega) (by omega))
        split
        · omega
        · have z1 := kdB_2.mp (D (s + 1) (by omega) (by omega))
          omega
    by_cases l : i < 2
    · have v2 : 10 * dgV B s i + B (s + i) - 48 = dgV B s (i + 1) := by
        unfold dgV
        rcases (show i = 0 ∨ i = 1 by omega) with rfl | rfl
        · rw [if_pos rfl, if_neg (by omega), if_pos rfl, Nat.add_zero]
          omega
        · rw [if_neg (by omega), if_pos rfl, if_neg (by omega), if_neg (by omega)]
          omega
      obtain ⟨h', a1, a2, a3, a4, a5⟩ := ih (i + 1) (qm_seti (qm_seti h 62 14 (nI (10 * dgV B s i + B (s + i) - 48))) 62 10 (nI (s + i + 1))) g (by omega) (by omega) (T.mv (by rw [sI_ne (by omega), sI_ne (by omega)]) (fun j => by rw [sI_ne (by omega), sI_ne (by omega)])) (sI_eq _ _ _ _) (by rw [sI_ne (by omega), sI_eq, v2])
      refine ⟨h', ?_, a2, a3, a4, ((qFr.seti ⟨rfl, by omega⟩).trans (qFr.seti ⟨rfl, by omega⟩)).trans a5⟩
      unfold qX12_token_163
      simp (disch := omega) only [↓reduceIte, ↓q_m1, ↓q_m2, k_o, k_0, k_1, k_2, k_3, k_4, k_5, k_6, k_7, k_8, k_9, k_10, k_11, k_16, k_17, k_19, k_20, k_24, k_26, k_27, k_30, k_32, k_33, k_35, k_40, k_43, k_48, k_50, k_57, k_60, k_64, k_81, k_86, k_34, k_66, k_322, k_97, k_99, k_100, k_122, k_128, k_160, k_161, k_255, k_256, k_512, k_580, k_600, k_1000, k_4096, k_far, k_o, nI_add, n_mul, n_sub, n_div, n_rem, n_lt, n_le, n_eq, n_cl, n_and, n_or, n_xor, m1_lt, lt_m1, m1_eq, eq_m1, le_m1, m1_le, m2_eq, up_eq, up_ne, n_shl, n_shr, b2_some, let_e, ob_some, bI_0, bI_a, bI_t, bI_f, if_true, if_false, ite_true, ite_false, true_and, and_true, false_and, and_false, true_or, or_true, false_or, or_false, not_true_eq_false, not_false_eq_true, ite_not, ne_eq, Bool.true_eq_false, Bool.false_eq_true, reduceCtorEq, decide_true, decide_false, Bool.and_true, Bool.and_false, Bool.true_and, Bool.false_and, Bool.or_true, Bool.or_false, Bool.not_true, Bool.not_false, Nat.add_zero, Nat.zero_add, eq_self, Nat.not_lt_zero, Nat.reduceAdd, Nat.reduceMul, Nat.reduceSub, Nat.reduceDiv, Nat.reduceMod, Nat.reduceAnd, Nat.reduceXor, Nat.reduceEqDiff, Nat.reducePow, lt_T, lt_F, le_T, le_F, eq_F, sb, m_in, e4, w]
      exact a1
    · have v2 : dgV B s i = dgV B s (i + 1) := by
        unfold dgV
        rw [if_neg (by omega), if_neg (by omega), if_neg (by omega), if_neg (by omega)]
      obtain ⟨h', a1, a2, a3, a4, a5⟩ := ih (i + 1) (qm_seti (qm_seti h 62 14 (nI (dgV B s i))) 62 10 (nI (s + i + 1))) g (by omega) (by omega) (T.mv (by rw [sI_ne (by omega), sI_ne (by omega)]) (fun j => by rw [sI_ne (by omega), sI_ne (by omega)])) (sI_eq _ _ _ _) (by rw [sI_ne (by omega), sI_eq, v2])
      refine ⟨h', ?_, a2, a3, a4, ((qFr.seti ⟨rfl, by omega⟩).trans (qFr.seti ⟨rfl, by omega⟩)).trans a5⟩
      unfold qX12_token_163
      simp (disch := omega) only [↓reduceIte, ↓q_m1, ↓q_m2, k_o, k_0, k_1, k_2, k_3, k_4, k_5, k_6, k_7, k_8, k_9, k_10, k_11, k_16, k_17, k_19, k_20, k_24, k_26, k_27, k_30, k_32, k_33, k_35, k_40, k_43, k_48, k_50, k_57, k_60, k_64, k_81, k_86, k_34, k_66, k_322, k_97, k_99, k_100, k_122, k_128, k_160, k_161, k_255, k_256, k_512, k_580, k_600, k_1000, k_4096, k_far, k_o, nI_add, n_mul, n_sub, n_div, n_rem, n_lt, n_le, n_eq, n_cl, n_and, n_or, n_xor, m1_lt, lt_m1, m1_eq, eq_m1, le_m1, m1_le, m2_eq, up_eq, up_ne, n_shl, n_shr, b2_some, let_e, ob_some, bI_0, bI_a, bI_t, bI_f, if_true, if_false, ite_true, ite_false, true_and, and_true, false_and, and_false, true_or, or_true, false_or, or_false, not_true_eq_false, not_false_eq_true, ite_not, ne_eq, Bool.true_eq_false, Bool.false_eq_true, reduceCtorEq, decide_true, decide_false, Bool.and_true, Bool.and_false, Bool.true_and, Bool.false_and, Bool.or_true, Bool.or_false, Bool.not_true, Bool.not_false, Nat.add_zero, Nat.zero_add, eq_self, Nat.not_lt_zero, Nat.reduceAdd, Nat.reduceMul, Nat.reduceSub, Nat.reduceDiv, Nat.reduceMod, Nat.reduceAnd, Nat.reduceXor, Nat.reduceEqDiff, Nat.reducePow, lt_T, lt_F, le_T, le_F, eq_F, sb, m_in, e4, w]
      exact a1
/-- a kind as the reference names it -/
def mkd (k : Nat) : Nat := if k = 0 then 0 else if k = 1 then 2 else if k = 2 then 3 else if k = 3 then 4 else 1
/-- the reference's TOKEN -/
def tM (B : Nat → Nat) (n p : Nat) (h : qm_H) : Prop := h.1 62 10 = nI (tE B n p) ∧ h.1 62 12 = nI (tS B n p) ∧ h.1 62 13 = nI (mkd (tK B n p)) ∧ (tK B n p = 2 → h.1 62 14 = nI (tV B n p)) ∧ h.2 62 15 = lN (tW B n p)
theorem m1_0 : (m1 < nI 0) = True := eq_true (by decide)
theorem m_tok {B : Nat → Nat} {n p : Nat} {h : qm_H} (T : tpM B n h) (hp : p ≤ n) (e4 : h.1 62 10 = nI p) : ∃ h', qX12_token 62 h = some h' ∧ tM B n p h' ∧ qFr mtk h h' := by
  have hn := T.1
  have s1 := t_S B hp
  have E1 := t_E B hp
  obtain ⟨h1, f2, a1, T1, a3, a4⟩ := m_tok0 (n - p) p h qm_N rfl (by unfold qm_N; omega) hp T e4
  have a3 : h1.1 62 10 = nI (tS B n p) := a3
  have F1 : qFr mtk h h1 := a4.mono (fun a k z => ⟨z.1, by omega⟩)
  unfold qX12_token
  rw [a1]
  clear a1 a4
  have T2 : tpM B n (qm_setl (qm_seti h1 62 12 (nI (tS B n p))) 62 15 0) := T1.mv (by rw [sL_1, sI_ne (by omega)]) (fun j => by rw [sL_1, sI_ne (by omega)])
  have F2 : qFr mtk h (qm_setl (qm_seti h1 62 12 (nI (tS B n p))) 62 15 0) := (F1.trans (qFr.seti ⟨rfl, by omega⟩)).trans (qFr.setl ⟨rfl, by omega⟩)
  have T2' : tpM B n (qm_seti h1 62 12 (nI (tS B n p))) := T1.mv (sI_ne (by omega)) (fun j => sI_ne (by omega))
  have e2' : (qm_seti h1 62 12 (nI (tS B n p))).1 62 10 = nI (tS B n p) := by rw [sI_ne (by omega)]; exact a3
  rcases t_A B n p with ⟨a, b⟩ | ⟨a, b, c, d, e⟩
  · have kv : tK B n p = 0 := by unfold tK; rw [if_neg (by omega)]; exact a
    have ev : tE B n p = tS B n p := by unfold tE; rw [if_pos a]
    have wv : tW B n p = 0 := by unfold tW; rw [if_neg (by omega)]
    have sb := m_see0 T1 a3 b (by omega)
    have sb2 := m_see0 T2' e2' b (by omega)
    refine ⟨qm_seti (qm_setl (qm_seti h1 62 12 (nI (tS B n p))) 62 15 0) 62 13 (nI 0), ?_, ⟨?_, ?_, ?_, fun z => by omega, ?_⟩, F2.trans (qFr.seti ⟨rfl, by omega⟩)⟩
    · unfold qX12_token_0
      simp (disch := omega) only [↓reduceIte, ↓q_m1, ↓q_m2, k_o, k_0, k_1, k_2, k_3, k_4, k_5, k_6, k_7, k_8, k_9, k_10, k_11, k_16, k_17, k_19, k_20, k_24, k_26, k_27, k_30, k_32, k_33, k_35, k_40, k_43, k_48, k_50, k_57, k_60, k_64, k_81, k_86, k_34, k_66, k_322, k_97, k_99, k_100, k_122, k_128, k_160, k_161, k_255, k_256, k_512, k_580, k_600, k_1000, k_4096, k_far, k_o, nI_add, n_mul, n_sub, n_div, n_rem, n_lt, n_le, n_eq, n_cl, n_and, n_or, n_xor, m1_lt, lt_m1, m1_eq, eq_m1, le_m1, m1_le, m2_eq, up_eq, up_ne, n_shl, n_shr, b2_some, let_e, ob_some, bI_0, bI_a, bI_t, bI_f, if_true, if_false, ite_true, ite_false, true_and, and_true, false_and, and_false, true_or, or_true, false_or, or_false, not_true_eq_false, not_false_eq_true, ite_not, ne_eq, Bool.true_eq_false, Bool.false_eq_true, reduceCtorEq, decide_true, decide_false, Bool.and_true, Bool.and_false, Bool.true_and, Bool.false_and, Bool.or_true, Bool.or_false, Bool.not_true, Bool.not_false, Nat.add_zero, Nat.zero_add, eq_self, Nat.not_lt_zero, Nat.reduceAdd, Nat.reduceMul, Nat.reduceSub, Nat.reduceDiv, Nat.reduceMod, Nat.reduceAnd, Nat.reduceXor, Nat.reduceEqDiff, Nat.reducePow, lt_T, lt_F, le_T, le_F, eq_F, sb, sb2, a3, m1_0]
    · rw [ev, sI_ne (by omega), sL_1, sI_ne (by omega)]; exact a3
    · rw [sI_ne (by omega), sL_1]; exact sI_eq _ _ _ _
    · rw [sI_eq, kv]; rfl
    · rw [sI_2, sL_eq, wv]; rfl
  · have bb := ytB_lt (T.2.2 _ a)
    have sb := m_see1 T1 a3 a
    have sb2 := m_see1 T2' e2' a
    have n10 : B (tS B n p) ≠ 10 := fun z => e (b.trans (kdB_4.mpr (Or.inl z)))
    have n32 : B (tS B n p) ≠ 32 := fun z => e (b.trans (kdB_4.mpr (Or.inr z)))
    by_cases r1 : tA B n p = 1
    · have rb := kdB_1.mp (b.symm.trans r1)
      have kv : tK B n p = 1 := by unfold tK; rw [if_neg (by omega)]; exact r1
      have ev : tE B n p = tSk B n 1 (n - (tS B n p + 1)) (tS B n p + 1) := by unfold tE; rw [if_neg (by omega), if_pos (Or.inl r1), r1]
      have X := tSk_end B n 1 (n - (tS B n p + 1)) (tS B n p + 1) (Nat.le_refl _)
      rw [← ev] at X
      have D := t_row B (n := n) (p := p) (Or.inl r1)
      rw [r1] at D
      obtain ⟨h2, b1, b2, b3, b4, b5⟩ := m_tok74 (s := tS B n p) (e := tE B n p) E1.1 E1.2.1 D X (tE B n p - tS B n p) 0 _ qm_N (by omega) (by unfold qm_N; omega) T2 (by rw [sL_1, Nat.add_zero]; exact e2') (fun _ => sL_eq _ _ _ _)
      refine ⟨h2, ?_, ⟨b2, ?_, by rw [b3, kv]; rfl, fun z => by omega, ?_⟩, F2.trans (b5.mono (fun x y z => ⟨z.1, by omega⟩))⟩
      · rw [← b1]
        conv => { lhs; unfold qX12_token_0 }
        simp (disch := omega) only [↓reduceIte, ↓q_m1, ↓q_m2, k_o, k_0, k_1, k_2, k_3, k_4, k_5, k_6, k_7, k_8, k_9, k_10, k_11, k_16, k_17, k_19, k_20, k_24, k_26, k_27, k_30, k_32, k_33, k_35, k_40, k_43, k_48, k_50, k_57, k_60, k_64, k_81, k_86, k_34, k_66, k_322, k_97, k_99, k_100, k_122, k_128, k_160, k_161, k_255, k_256, k_512, k_580, k_600, k_1000, k_4096, k_far, k_o, nI_add, n_mul, n_sub, n_div, n_rem, n_lt, n_le, n_eq, n_cl, n_and, n_or, n_xor, m1_lt, lt_m1, m1_eq, eq_m1, le_m1, m1_le, m2_eq, up_eq, up_ne, n_shl, n_shr, b2_some, let_e, ob_some, bI_0, bI_a, bI_t, bI_f, if_true, if_false, ite_true, ite_false, true_and, and_true, false_and, and_false, true_or, or_true, false_or, or_false, not_true_eq_false, not_false_eq_true, ite_not, ne_eq, Bool.true_eq_false, Bool.false_eq_true, reduceCtorEq, decide_true, decide_false, Bool.and_true, Bool.and_false, Bool.true_and, Bool.false_and, Bool.or_true, Bool.or_false, Bool.not_true, Bool.not_false, Nat.add_zero, Nat.zero_add, eq_self, Nat.not_lt_zero, Nat.reduceAdd, Nat.reduceMul, Nat.reduceSub, Nat.reduceDiv, Nat.reduceMod, Nat.reduceAnd, Nat.reduceXor, Nat.reduceEqDiff, Nat.reducePow, lt_T, lt_F, le_T, le_F, eq_F, sb, sb2, a3, m_in]
      · rw [(b5 62 12 (by omega)).1, sL_1]; exact sI_eq _ _ _ _
      · rw [b4]
        unfold tW
        congr 1
        by_cases l : tE B n p - tS B n p ≤ 8
        · rw [if_pos l, if_pos ⟨r1, l⟩]
        · rw [if_neg l, if_neg (fun z => l z.2)]
    · have wv : tW B n p = 0 := by unfold tW; rw [if_neg (by omega)]
      have nb : ¬ (97 ≤ B (tS B n p) ∧ B (tS B n p) ≤ 122) := fun z => r1 (b.trans (kdB_1.mpr z))
      by_cases r2 : tA B n p = 2
      · have rb := kdB_2.mp (b.symm.trans r2)
        have ev : tE B n p = tSk B n 2 (n - (tS B n p + 1)) (tS B n p + 1) := by unfold tE; rw [if_neg (by omega), if_pos (Or.inr r2), r2]
        have X := tSk_end B n 2 (n - (tS B n p + 1)) (tS B n p + 1) (Nat.le_refl _)
        rw [← ev] at X
        have D := t_row B (n := n) (p := p) (Or.inr r2)
        rw [r2] at D
        have T3 : tpM B n (qm_seti (qm_setl (qm_seti h1 62 12 (nI (tS B n p))) 62 15 0) 62 14 (nI 0)) := T2.mv (sI_ne (by omega)) (fun j => sI_ne (by omega))
        obtain ⟨h2, b1, b2, b3, b4, b5⟩ := m_tok163 (s := tS B n p) (e := tE B n p) E1.1 E1.2.1 D X (tE B n p - tS B n p) 0 _ qm_N (by omega) (by unfold qm_N; omega) T3 (by rw [sI_ne (by omega), sL_1, Nat.add_zero]; exact e2') (sI_eq _ _ _ _)
        refine ⟨h2, ?_, ⟨b2, ?_, ?_, fun z => ?_, ?_⟩, (F2.trans (qFr.seti ⟨rfl, by omega⟩)).trans (b5.mono (fun x y z => ⟨z.1, by omega⟩))⟩
        · rw [← b1]
          conv => { lhs; unfold qX12_token_0 }
          simp (disch := omega) only [↓reduceIte, ↓q_m1, ↓q_m2, k_o, k_0, k_1, k_2, k_3, k_4, k_5, k_6, k_7, k_8, k_9, k_10, k_11, k_16, k_17, k_19, k_20, k_24, k_26, k_27, k_30, k_32, k_33, k_35, k_40, k_43, k_48, k_50, k_57, k_60, k_64, k_81, k_86, k_34, k_66, k_322, k_97, k_99, k_100, k_122, k_128, k_160, k_161, k_255, k_256, k_512, k_580, k_600, k_1000, k_4096, k_far, k_o, nI_add, n_mul, n_sub, n_div, n_rem, n_lt, n_le, n_eq, n_cl, n_and, n_or, n_xor, m1_lt, lt_m1, m1_eq, eq_m1, le_m1, m1_le, m2_eq, up_eq, up_ne, n_shl, n_shr, b2_some, let_e, ob_some, bI_0, bI_a, bI_t, bI_f, if_true, if_false, ite_true, ite_false, true_and, and_true, false_and, and_false, true_or, or_true, false_or, or_false, not_true_eq_false, not_false_eq_true, ite_not, ne_eq, Bool.true_eq_false, Bool.false_eq_true, reduceCtorEq, decide_true, decide_false, Bool.and_true, Bool.and_false, Bool.true_and, Bool.false_and, Bool.or_true, Bool.or_false, Bool.not_true, Bool.not_false, Nat.add_zero, Nat.zero_add, eq_self, Nat.not_lt_zero, Nat.reduceAdd, Nat.reduceMul, Nat.reduceSub, Nat.reduceDiv, Nat.reduceMod, Nat.reduceAnd, Nat.reduceXor, Nat.reduceEqDiff, Nat.reducePow, lt_T, lt_F, le_T, le_F, eq_F, sb, sb2, a3, m_in]
        · rw [(b5 62 12 (by omega)).1, sI_ne (by omega), sL_1]; exact sI_eq _ _ _ _
        · rw [b3]
          unfold tK
          by_cases l : 2 < tE B n p - tS B n p
          · rw [if_pos l, if_pos ⟨r2, l⟩]; rfl
          · rw [if_neg l, if_neg (fun z => l z.2), r2]; rfl
        · rw [b4]
          unfold dgV tV
          have := E1.2.2 (by omega)
          rw [if_neg (by omega)]
        · rw [(b5 62 15 (by omega)).2, sI_2, sL_eq, wv]; rfl
      · have nb2 : ¬ (48 ≤ B (tS B n p) ∧ B (tS B n p) ≤ 57) := fun z => r2 (b.trans (kdB_2.mpr z))
        have kv : tK B n p = tA B n p := by unfold tK; rw [if_neg (by omega)]
        have ev : tE B n p = tS B n p + 1 := by unfold tE; rw [if_neg (by omega), if_neg (by omega)]
        have main : qX12_token_0 (f2 + 1) 62 h1 = some (qm_seti (qm_seti (qm_setl (qm_seti h1 62 12 (nI (tS B n p))) 62 15 0) 62 10 (nI (tS B n p + 1))) 62 13 (nI (mkd (tK B n p)))) := by
          unfold qX12_token_0
          rw [show (59 : Int32) = nI 59 from rfl]
          by_cases r3 : tA B n p = 3
          · have rb := kdB_3.mp (b.symm.trans r3)
            have mv : mkd (tK B n p) = 4 := by rw [kv, r3]; rfl
            rw [mv]
            rw [rb] at sb sb2
            simp (disch := omega) only [↓reduceIte, ↓q_m1, ↓q_m2, k_o, k_0, k_1, k_2, k_3, k_4, k_5, k_6, k_7, k_8, k_9, k_10, k_11, k_16, k_17, k_19, k_20, k_24, k_26, k_27, k_30, k_32, k_33, k_35, k_40, k_43, k_48, k_50, k_57, k_60, k_64, k_81, k_86, k_34, k_66, k_322, k_97, k_99, k_100, k_122, k_128, k_160, k_161, k_255, k_256, k_512, k_580, k_600, k_1000, k_4096, k_far, k_o, nI_add, n_mul, n_sub, n_div, n_rem, n_lt, n_le, n_eq, n_cl, n_and, n_or, n_xor, m1_lt, lt_m1, m1_eq, eq_m1, le_m1, m1_le, m2_eq, up_eq, up_ne, n_shl, n_shr, b2_some, let_e, ob_some, bI_0, bI_a, bI_t, bI_f, if_true, if_false, ite_true, ite_false, true_and, and_true, false_and, and_false, true_or, or_true, false_or, or_false, not_true_eq_false, not_false_eq_true, ite_not, ne_eq, Bool.true_eq_false, Bool.false_eq_true, reduceCtorEq, decide_true, decide_false, Bool.and_true, Bool.and_false, Bool.true_and, Bool.false_and, Bool.or_true, Bool.or_false, Bool.not_true, Bool.not_false, Nat.add_zero, Nat.zero_add, eq_self, Nat.not_lt_zero, Nat.reduceAdd, Nat.reduceMul, Nat.reduceSub, Nat.reduceDiv, Nat.reduceMod, Nat.reduceAnd, Nat.reduceXor, Nat.reduceEqDiff, Nat.reducePow, lt_T, lt_F, le_T, le_F, eq_F, sb, sb2, a3, m_in]
          · have n59 : B (tS B n p) ≠ 59 := fun z => r3 (b.trans (kdB_3.mpr z))
            have mv : mkd (tK B n p) = 1 := by
              rw [kv]
              unfold mkd
              rw [if_neg (by omega), if_neg r1, if_neg r2, if_neg r3]
            rw [mv]
            rcases (show B (tS B n p) < 48 ∨ (57 < B (tS B n p) ∧ B (tS B n p) < 97) ∨ 122 < B (tS B n p) by omega) with z | z | z
            · simp (disch := omega) only [↓reduceIte, ↓q_m1, ↓q_m2, k_o, k_0, k_1, k_2, k_3, k_4, k_5, k_6, k_7, k_8, k_9, k_10, k_11, k_16, k_17, k_19, k_20, k_24, k_26, k_27, k_30, k_32, k_33, k_35, k_40, k_43, k_48, k_50, k_57, k_60, k_64, k_81, k_86, k_34, k_66, k_322, k_97, k_99, k_100, k_122, k_128, k_160, k_161, k_255, k_256, k_512, k_580, k_600, k_1000, k_4096, k_far, k_o, nI_add, n_mul, n_sub, n_div, n_rem, n_lt, n_le, n_eq, n_cl, n_and, n_or, n_xor, m1_lt, lt_m1, m1_eq, eq_m1, le_m1, m1_le, m2_eq, up_eq, up_ne, n_shl, n_shr, b2_some, let_e, ob_some, bI_0, bI_a, bI_t, bI_f, if_true, if_false, ite_true, ite_false, true_and, and_true, false_and, and_false, true_or, or_true, false_or, or_false, not_true_eq_false, not_false_eq_true, ite_not, ne_eq, Bool.true_eq_false, Bool.false_eq_true, reduceCtorEq, decide_true, decide_false, Bool.and_true, Bool.and_false, Bool.true_and, Bool.false_and, Bool.or_true, Bool.or_false, Bool.not_true, Bool.not_false, Nat.add_zero, Nat.zero_add, eq_self, Nat.not_lt_zero, Nat.reduceAdd, Nat.reduceMul, Nat.reduceSub, Nat.reduceDiv, Nat.reduceMod, Nat.reduceAnd, Nat.reduceXor, Nat.reduceEqDiff, Nat.reducePow, lt_T, lt_F, le_T, le_F, eq_F, sb, sb2, a3, m_in]
            · simp (disch := omega) only [↓reduceIte, ↓q_m1, ↓q_m2, k_o, k_0, k_1, k_2, k_3, k_4, k_5, k_6, k_7, k_8, k_9, k_10, k_11, k_16, k_17, k_19, k_20, k_24, k_26, k_27, k_30, k_32, k_33, k_35, k_40, k_43, k_48, k_50, k_57, k_60, k_64, k_81, k_86, k_34, k_66, k_322, k_97, k_99, k_100, k_122, k_128, k_160, k_161, k_255, k_256, k_512, k_580, k_600, k_1000, k_4096, k_far, k_o, nI_add, n_mul, n_sub, n_div, n_rem, n_lt, n_le, n_eq, n_cl, n_and, n_or, n_xor, m1_lt, lt_m1, m1_eq, eq_m1, le_m1, m1_le, m2_eq, up_eq, up_ne, n_shl, n_shr, b2_some, let_e, ob_some, bI_0, bI_a, bI_t, bI_f, if_true, if_false, ite_true, ite_false, true_and, and_true, false_and, and_false, true_or, or_true, false_or, or_false, not_true_eq_false, not_false_eq_true, ite_not, ne_eq, Bool.true_eq_false, Bool.false_eq_true, reduceCtorEq, decide_true, decide_false, Bool.and_true, Bool.and_false, Bool.true_and, Bool.false_and, Bool.or_true, Bool.or_false, Bool.not_true, Bool.not_false, Nat.add_zero, Nat.zero_add, eq_self, Nat.not_lt_zero, Nat.reduceAdd, Nat.reduceMul, Nat.reduceSub, Nat.reduceDiv, Nat.reduceMod, Nat.reduceAnd, Nat.reduceXor, Nat.reduceEqDiff, Nat.reducePow, lt_T, lt_F, le_T, le_F, eq_F, sb, sb2, a3, m_in]
            · simp (disch := omega) only [↓reduceIte, ↓q_m1, ↓q_m2, k_o, k_0, k_1, k_2, k_3, k_4, k_5, k_6, k_7, k_8, k_9, k_10, k_11, k_16, k_17, k_19, k_20, k_24, k_26, k_27, k_30, k_32, k_33, k_35, k_40, k_43, k_48, k_50, k_57, k_60, k_64, k_81, k_86, k_34, k_66, k_322, k_97, k_99, k_100, k_122, k_128, k_160, k_161, k_255, k_256, k_512, k_580, k_600, k_1000, k_4096, k_far, k_o, nI_add, n_mul, n_sub, n_div, n_rem, n_lt, n_le, n_eq, n_cl, n_and, n_or, n_xor, m1_lt, lt_m1, m1_eq, eq_m1, le_m1, m1_le, m2_eq, up_eq, up_ne, n_shl, n_shr, b2_some, let_e, ob_some, bI_0, bI_a, bI_t, bI_f, if_true, if_false, ite_true, ite_false, true_and, and_true, false_and, and_false, true_or, or_true, false_or, or_false, not_true_eq_false, not_false_eq_true, ite_not, ne_eq, Bool.true_eq_false, Bool.false_eq_true, reduceCtorEq, decide_true, decide_false, Bool.and_true, Bool.and_false, Bool.true_and, Bool.false_and, Bool.or_true, Bool.or_false, Bool.not_true, Bool.not_false, Nat.add_zero, Nat.zero_add, eq_self, Nat.not_lt_zero, Nat.reduceAdd, Nat.reduceMul, Nat.reduceSub, Nat.reduceDiv, Nat.reduceMod, Nat.reduceAnd, Nat.reduceXor, Nat.reduceEqDiff, Nat.reducePow, lt_T, lt_F, le_T, le_F, eq_F, sb, sb2, a3, m_in]
        refine ⟨_, main, ⟨?_, ?_, sI_eq _ _ _ _, fun z => by omega, ?_⟩, (F2.trans (qFr.seti ⟨rfl, by omega⟩)).trans (qFr.seti ⟨rfl, by omega⟩)⟩
        · rw [sI_ne (by omega), sI_eq, ev]
        · rw [sI_ne (by omega), sI_ne (by omega), sL_1]; exact sI_eq _ _ _ _
        · rw [sI_2, sI_2, sL_eq, wv]; rfl
