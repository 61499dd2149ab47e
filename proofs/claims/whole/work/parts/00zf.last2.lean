/-! last: the class's, the reference's, the pair. -/
def bstS (i : Nat) (o : Option Nat) (s : Option (Nat × Nat)) : Option (Nat × Nat) := match o with
    | none => s
    | some v => match s with
      | none => some (i, v)
      | some p => if p.2 < v then some (i, v) else some p
theorem bstS_n {i : Nat} {s : Option (Nat × Nat)} : bstS i none s = s := rfl
theorem bstS_sn {i v : Nat} : bstS i (some v) none = some (i, v) := rfl
theorem bstS_ss {i v : Nat} {p : Nat × Nat} : bstS i (some v) (some p) = if p.2 < v then some (i, v) else some p := rfl
theorem bst_S {f : Nat → Option Nat} {d i : Nat} {s : Option (Nat × Nat)} : bst f (d + 1) i s = bst f d (i + 1) (bstS i (f i) s) := rfl
theorem bst_lt {f : Nat → Option Nat} : ∀ {d i N : Nat} {s : Option (Nat × Nat)}, i + d ≤ N → (∀ p, s = some p → p.1 < N ∧ f p.1 = some p.2) → ∀ p, bst f d i s = some p → p.1 < N ∧ f p.1 = some p.2 := by
  intro d
  induction d with
  | zero => intro i N s _ H p e; exact H p e
  | succ d ih =>
    intro i N s hN H p e
    rw [bst_S] at e
    refine ih (i := i + 1) (by omega) ?_ p e
    intro p' e'
    cases q : f i with
    | none =>
      rw [q, bstS_n] at e'
      exact H p' e'
    | some v =>
      cases s with
      | none =>
        rw [q, bstS_sn] at e'
        cases e'
        exact ⟨by show i < N; omega, q⟩
      | some p0 =>
        rw [q, bstS_ss] at e'
        by_cases z : p0.2 < v
        · rw [if_pos z] at e'
          cases e'
          exact ⟨by show i < N; omega, q⟩
        · rw [if_neg z] at e'
          exact H p' e'
theorem bst_max {f : Nat → Option Nat} : ∀ {d i : Nat} {s : Option (Nat × Nat)}, (∀ p, s = some p → p.1 < i) → (bst f d i s = none → s = none ∧ ∀ k, i ≤ k → k < i + d → f k = none) ∧ ∀ p, bst f d i s = some p → (∀ p0, s = some p0 → p0.2 < p.2 ∨ (p0.2 = p.2 ∧ p.1 ≤ p0.1)) ∧ ∀ k v, i ≤ k → k < i + d → f k = some v → v < p.2 ∨ (v = p.2 ∧ p.1 ≤ k) := by
  intro d
  induction d with
  | zero =>
    intro i s _
    refine ⟨fun e => ⟨e, fun k h1 h2 => by omega⟩, fun p e => ⟨fun p0 e0 => ?_, fun k v h1 h2 => by omega⟩⟩
    have e' : s = some p := e
    rw [e0] at e'
    cases e'
    exact Or.inr ⟨rfl, Nat.le_refl _⟩
  | succ d ih =>
    intro i s hs
    cases q : f i with
    | none =>
      have e : bst f (d + 1) i s = bst f d (i + 1) s := by
        rw [bst_S, q, bstS_n]
      rw [e]
      obtain ⟨a, b⟩ := ih (i := i + 1) (s := s) (fun p hp => by have := hs p hp; omega)
      refine ⟨fun z => ⟨(a z).1, fun k h1 h2 => ?_⟩, fun p z => ⟨(b p z).1, fun k v h1 h2 hk => ?_⟩⟩
      · by_cases y : k = i
        · rw [y]; exact q
        · exact (a z).2 k (by omega) (by omega)
      · by_cases y : k = i
        · rw [y, q] at hk; cases hk
        · exact (b p z).2 k v (by omega) (by omega) hk
    | some v =>
      cases s with
      | none =>
        have e : bst f (d + 1) i none = bst f d (i + 1) (some (i, v)) := by
          rw [bst_S, q, bstS_sn]
        rw [e]
        obtain ⟨a, b⟩ := ih (i := i + 1) (s := some (i, v)) (fun p hp => by cases hp; show i < i + 1; omega)
        refine ⟨fun z => absurd (a z).1 (by simp), fun p z => ⟨(fun p0 e0 => by cases e0), fun k v' h1 h2 hk => ?_⟩⟩
        by_cases y : k = i
        · rw [y, q] at hk
          cases hk
          have := (b p z).1 (i, v) rfl
          rw [y]
          exact this
        · exact (b p z).2 k v' (by omega) (by omega) hk
      | some p1 =>
        by_cases y1 : p1.2 < v
        · have e : bst f (d + 1) i (some p1) = bst f d (i + 1) (some (i, v)) := by
            rw [bst_S, q, bstS_ss, if_pos y1]
          rw [e]
          obtain ⟨a, b⟩ := ih (i := i + 1) (s := some (i, v)) (fun p hp => by cases hp; show i < i + 1; omega)
          refine ⟨fun z => absurd (a z).1 (by simp), fun p z => ⟨fun p0 e0 => ?_, fun k v' h1 h2 hk => ?_⟩⟩
          · cases e0
            have := (b p z).1 (i, v) rfl
            simp only at this
            omega
          · by_cases y : k = i
            · rw [y, q] at hk
              cases hk
              have := (b p z).1 (i, v) rfl
              rw [y]
              exact this
            · exact (b p z).2 k v' (by omega) (by omega) hk
        · have e : bst f (d + 1) i (some p1) = bst f d (i + 1) (some p1) := by
            rw [bst_S, q, bstS_ss, if_neg y1]
          rw [e]
          have h1' := hs p1 rfl
          obtain ⟨a, b⟩ := ih (i := i + 1) (s := some p1) (fun p hp => by cases hp; omega)
          refine ⟨fun z => absurd (a z).1 (by simp), fun p z => ⟨(b p z).1, fun k v' h1 h2 hk => ?_⟩⟩
          by_cases y : k = i
          · rw [y, q] at hk
            cases hk
            have := (b p z).1 p1 rfl
            rw [y]
            omega
          · exact (b p z).2 k v' (by omega) (by omega) hk
/-- RODS that may still be mended -/
def mfF (w : Nat → Nat) (M r : Nat) : Option Nat := if M.testBit r = true ∨ w r = 0 then none else some (w r)
theorem mf_n {w : Nat → Nat} {M r : Nat} (h : M.testBit r = true ∨ w r = 0) : mfF w M r = none := if_pos h
theorem mf_s {w : Nat → Nat} {M r : Nat} (h : ¬ (M.testBit r = true ∨ w r = 0)) : mfF w M r = some (w r) := if_neg h
section LA
variable {β : qB} {b : Nat} {h : qm_H}
theorem c_mf15 (k : bOK β) (C : bC b β h) {n M i0 : Nat} (hM : M < 256) (K : Nat → Int32 → Int32 → Int32 → qm_H → Option (Int32 × qm_H)) : ∀ d i s fuel, i + d = bh β → d < fuel → (∀ p, s = some p → p.1 < 8 ∧ p.2 = bR β p.1) → qX0_mendedFirst_15 K fuel b (nI n) (nI M) (nI i0) (s1 s) (nI i) h = (match bst (mfF (bR β) M) d i s with
    | none => K b (nI n) (nI M) (nI (i0 + 1)) h
    | some p => K b (nI n) (nI (M ||| 2 ^ p.1)) (nI (i0 + 1)) h) := by
  have hH := k.H
  intro d
  induction d with
  | zero =>
    intro i s fuel hi hf hs
    obtain ⟨g, rfl⟩ : ∃ g, fuel = g + 1 := ⟨fuel - 1, by omega⟩
    unfold qX0_mendedFirst_15
    cases s with
    | none =>
      simp only [show s1 none = m1 from rfl]
      simp (disch := omega) only [↓reduceIte, ↓q_m1, ↓q_m2, k_o, k_0, k_1, k_2, k_3, k_4, k_5, k_6, k_7, k_8, k_9, k_10, k_11, k_16, k_17, k_19, k_20, k_24, k_26, k_27, k_30, k_32, k_33, k_35, k_40, k_43, k_48, k_50, k_57, k_60, k_64, k_81, k_86, k_34, k_66, k_322, k_97, k_99, k_100, k_122, k_128, k_160, k_161, k_255, k_256, k_512, k_580, k_600, k_1000, k_4096, k_far, k_o, nI_add, n_mul, n_sub, n_div, n_rem, n_lt, n_le, n_eq, n_cl, n_and, n_or, n_xor, m1_lt, lt_m1, m1_eq, eq_m1, le_m1, m1_le, m2_eq, up_eq, up_ne, n_shl, n_shr, b2_some, let_e, ob_some, bI_0, bI_a, bI_t, bI_f, if_true, if_false, ite_true, ite_false, true_and, and_true, false_and, and_false, true_or, or_true, false_or, or_false, not_true_eq_false, not_false_eq_true, ite_not, ne_eq, Bool.true_eq_false, Bool.false_eq_true, reduceCtorEq, decide_true, decide_false, Bool.and_true, Bool.and_false, Bool.true_and, Bool.false_and, Bool.or_true, Bool.or_false, Bool.not_true, Bool.not_false, Nat.add_zero, Nat.zero_add, eq_self, Nat.not_lt_zero, Nat.reduceAdd, Nat.reduceMul, Nat.reduceSub, Nat.reduceDiv, Nat.reduceMod, Nat.reduceAnd, Nat.reduceXor, Nat.reduceEqDiff, Nat.reducePow, lt_T, lt_F, le_T, le_F, eq_F, C.2.1]
      rfl
    | some p =>
      have hp := hs p rfl
      have sh : qm_ishl (nI 1) (nI p.1) = nI (2 ^ p.1) := by
        rw [n_shl (by omega), Nat.one_mul]
        rw [Nat.one_mul]
        exact Nat.lt_of_le_of_lt (Nat.pow_le_pow_right (by omega) (show p.1 ≤ 7 by omega)) (by decide)
      simp only [show s1 (some p) = nI p.1 from rfl]
      simp (disch := omega) only [↓reduceIte, ↓q_m1, ↓q_m2, k_o, k_0, k_1, k_2, k_3, k_4, k_5, k_6, k_7, k_8, k_9, k_10, k_11, k_16, k_17, k_19, k_20, k_24, k_26, k_27, k_30, k_32, k_33, k_35, k_40, k_43, k_48, k_50, k_57, k_60, k_64, k_81, k_86, k_34, k_66, k_322, k_97, k_99, k_100, k_122, k_128, k_160, k_161, k_255, k_256, k_512, k_580, k_600, k_1000, k_4096, k_far, k_o, nI_add, n_mul, n_sub, n_div, n_rem, n_lt, n_le, n_eq, n_cl, n_and, n_or, n_xor, m1_lt, lt_m1, m1_eq, eq_m1, le_m1, m1_le, m2_eq, up_eq, up_ne, n_shl, n_shr, b2_some, let_e, ob_some, bI_0, bI_a, bI_t, bI_f, if_true, if_false, ite_true, ite_false, true_and, and_true, false_and, and_false, true_or, or_true, false_or, or_false, not_true_eq_false, not_false_eq_true, ite_not, ne_eq, Bool.true_eq_false, Bool.false_eq_true, reduceCtorEq, decide_true, decide_false, Bool.and_true, Bool.and_false, Bool.true_and, Bool.false_and, Bool.or_true, Bool.or_false, Bool.not_true, Bool.not_false, Nat.add_zero, Nat.zero_add, eq_self, Nat.not_lt_zero, Nat.reduceAdd, Nat.reduceMul, Nat.reduceSub, Nat.reduceDiv, Nat.reduceMod, Nat.reduceAnd, Nat.reduceXor, Nat.reduceEqDiff, Nat.reducePow, lt_T, lt_F, le_T, le_F, eq_F, C.2.1, sh]
      rfl
  | succ d ih =>
    intro i s fuel hi hf hs
    obtain ⟨g, rfl⟩ : ∃ g, fuel = g + 1 := ⟨fuel - 1, by omega⟩
    have e1 := (C.2.2.2.1 i (by omega)).2
    have hR := (k.2.2.2.2.2.1 i (by omega)).2
    unfold qX0_mendedFirst_15 qX0_mendedFirst_55
    by_cases q : M.testBit i = true ∨ bR β i = 0
    · rw [bst_S, mf_n q, bstS_n]
      have K1 := ih (i + 1) s g (by omega) (by omega) hs
      rw [← K1]
      generalize eF : qX0_mendedFirst_15 K g = F
      rcases q with q | q
      · simp (disch := omega) only [↓reduceIte, ↓q_m1, ↓q_m2, k_o, k_0, k_1, k_2, k_3, k_4, k_5, k_6, k_7, k_8, k_9, k_10, k_11, k_16, k_17, k_19, k_20, k_24, k_26, k_27, k_30, k_32, k_33, k_35, k_40, k_43, k_48, k_50, k_57, k_60, k_64, k_81, k_86, k_34, k_66, k_322, k_97, k_99, k_100, k_122, k_128, k_160, k_161, k_255, k_256, k_512, k_580, k_600, k_1000, k_4096, k_far, k_o, nI_add, n_mul, n_sub, n_div, n_rem, n_lt, n_le, n_eq, n_cl, n_and, n_or, n_xor, m1_lt, lt_m1, m1_eq, eq_m1, le_m1, m1_le, m2_eq, up_eq, up_ne, n_shl, n_shr, b2_some, let_e, ob_some, bI_0, bI_a, bI_t, bI_f, if_true, if_false, ite_true, ite_false, true_and, and_true, false_and, and_false, true_or, or_true, false_or, or_false, not_true_eq_false, not_false_eq_true, ite_not, ne_eq, Bool.true_eq_false, Bool.false_eq_true, reduceCtorEq, decide_true, decide_false, Bool.and_true, Bool.and_false, Bool.true_and, Bool.false_and, Bool.or_true, Bool.or_false, Bool.not_true, Bool.not_false, Nat.add_zero, Nat.zero_add, eq_self, Nat.not_lt_zero, Nat.reduceAdd, Nat.reduceMul, Nat.reduceSub, Nat.reduceDiv, Nat.reduceMod, Nat.reduceAnd, Nat.reduceXor, Nat.reduceEqDiff, Nat.reducePow, lt_T, lt_F, le_T, le_F, eq_F, C.2.1, bit1, q, eF]
      · cases q2 : M.testBit i
        · simp (disch := omega) only [↓reduceIte, ↓q_m1, ↓q_m2, k_o, k_0, k_1, k_2, k_3, k_4, k_5, k_6, k_7, k_8, k_9, k_10, k_11, k_16, k_17, k_19, k_20, k_24, k_26, k_27, k_30, k_32, k_33, k_35, k_40, k_43, k_48, k_50, k_57, k_60, k_64, k_81, k_86, k_34, k_66, k_322, k_97, k_99, k_100, k_122, k_128, k_160, k_161, k_255, k_256, k_512, k_580, k_600, k_1000, k_4096, k_far, k_o, nI_add, n_mul, n_sub, n_div, n_rem, n_lt, n_le, n_eq, n_cl, n_and, n_or, n_xor, m1_lt, lt_m1, m1_eq, eq_m1, le_m1, m1_le, m2_eq, up_eq, up_ne, n_shl, n_shr, b2_some, let_e, ob_some, bI_0, bI_a, bI_t, bI_f, if_true, if_false, ite_true, ite_false, true_and, and_true, false_and, and_false, true_or, or_true, false_or, or_false, not_true_eq_false, not_false_eq_true, ite_not, ne_eq, Bool.true_eq_false, Bool.false_eq_true, reduceCtorEq, decide_true, decide_false, Bool.and_true, Bool.and_false, Bool.true_and, Bool.false_and, Bool.or_true, Bool.or_false, Bool.not_true, Bool.not_false, Nat.add_zero, Nat.zero_add, eq_self, Nat.not_lt_zero, Nat.reduceAdd, Nat.reduceMul, Nat.reduceSub, Nat.reduceDiv, Nat.reduceMod, Nat.reduceAnd, Nat.reduceXor, Nat.reduceEqDiff, Nat.reducePow, lt_T, lt_F, le_T, le_F, eq_F, C.2.1, bit1, q2, e1, q, eF]
        · simp (disch := omega) only [↓reduceIte, ↓q_m1, ↓q_m2, k_o, k_0, k_1, k_2, k_3, k_4, k_5, k_6, k_7, k_8, k_9, k_10, k_11, k_16, k_17, k_19, k_20, k_24, k_26, k_27, k_30, k_32, k_33, k_35, k_40, k_43, k_48, k_50, k_57, k_60, k_64, k_81, k_86, k_34, k_66, k_322, k_97, k_99, k_100, k_122, k_128, k_160, k_161, k_255, k_256, k_512, k_580, k_600, k_1000, k_4096, k_far, k_o, nI_add, n_mul, n_sub, n_div, n_rem, n_lt, n_le, n_eq, n_cl, n_and, n_or, n_xor, m1_lt, lt_m1, m1_eq, eq_m1, le_m1, m1_le, m2_eq, up_eq, up_ne, n_shl, n_shr, b2_some, let_e, ob_some, bI_0, bI_a, bI_t, bI_f, if_true, if_false, ite_true, ite_false, true_and, and_true, false_and, and_false, true_or, or_true, false_or, or_false, not_true_eq_false, not_false_eq_true, ite_not, ne_eq, Bool.true_eq_false, Bool.false_eq_true, reduceCtorEq, decide_true, decide_false, Bool.and_true, Bool.and_false, Bool.true_and, Bool.false_and, Bool.or_true, Bool.or_false, Bool.not_true, Bool.not_false, Nat.add_zero, Nat.zero_add, eq_self, Nat.not_lt_zero, Nat.reduceAdd, Nat.reduceMul, Nat.reduceSub, Nat.reduceDiv, Nat.reduceMod, Nat.reduceAnd, Nat.reduceXor, Nat.reduceEqDiff, Nat.reducePow, lt_T, lt_F, le_T, le_F, eq_F, C.2.1, bit1, q2, eF]
    · rw [bst_S, mf_s q]
      have q1 : M.testBit i = false := by
        cases z : M.testBit i
        · rfl
        · exact absurd (Or.inl z) q
      have q2 : bR β i ≠ 0 := fun z => q (Or.inr z)
      cases s with
      | none =>
        have K1 := ih (i + 1) (some (i, bR β i)) g (by omega) (by omega) (fun p hp => by cases hp; exact ⟨by show i < 8; omega, rfl⟩)
        rw [bstS_sn, ← K1]
        generalize eF : qX0_mendedFirst_15 K g = F
        simp only [show s1 none = m1 from rfl, show s1 (some (i, bR β i)) = nI i from rfl]
        simp (disch := omega) only [↓reduceIte, ↓q_m1, ↓q_m2, k_o, k_0, k_1, k_2, k_3, k_4, k_5, k_6, k_7, k_8, k_9, k_10, k_11, k_16, k_17, k_19, k_20, k_24, k_26, k_27, k_30, k_32, k_33, k_35, k_40, k_43, k_48, k_50, k_57, k_60, k_64, k_81, k_86, k_34, k_66, k_322, k_97, k_99, k_100, k_122, k_128, k_160, k_161, k_255, k_256, k_512, k_580, k_600, k_1000, k_4096, k_far, k_o, nI_add, n_mul, n_sub, n_div, n_rem, n_lt, n_le, n_eq, n_cl, n_and, n_or, n_xor, m1_lt, lt_m1, m1_eq, eq_m1, le_m1, m1_le, m2_eq, up_eq, up_ne, n_shl, n_shr, b2_some, let_e, ob_some, bI_0, bI_a, bI_t, bI_f, if_true, if_false, ite_true, ite_false, true_and, and_true, false_and, and_false, true_or, or_true, false_or, or_false, not_true_eq_false, not_false_eq_true, ite_not, ne_eq, Bool.true_eq_false, Bool.false_eq_true, reduceCtorEq, decide_true, decide_false, Bool.and_true, Bool.and_false, Bool.true_and, Bool.false_and, Bool.or_true, Bool.or_false, Bool.not_true, Bool.not_false, Nat.add_zero, Nat.zero_add, eq_self, Nat.not_lt_zero, Nat.reduceAdd, Nat.reduceMul, Nat.reduceSub, Nat.reduceDiv, Nat.reduceMod, Nat.reduceAnd, Nat.reduceXor, Nat.reduceEqDiff, Nat.reducePow, lt_T, lt_F, le_T, le_F, eq_F, C.2.1, bit1, q1, e1, eF]
      | some p =>
        have hp := hs p rfl
        have e2 := (C.2.2.2.1 p.1 (by omega)).2
        have hR2 := (k.2.2.2.2.2.1 p.1 (by omega)).2
        by_cases z : p.2 < bR β i
        · have K1 := ih (i + 1) (some (i, bR β i)) g (by omega) (by omega) (fun p hp => by cases hp; exact ⟨by show i < 8; omega, rfl⟩)
          rw [bstS_ss, if_pos z, ← K1]
          generalize eF : qX0_mendedFirst_15 K g = F
          rw [hp.2] at z
          simp only [show s1 (some p) = nI p.1 from rfl, show s1 (some (i, bR β i)) = nI i from rfl]
          simp (disch := omega) only [↓reduceIte, ↓q_m1, ↓q_m2, k_o, k_0, k_1, k_2, k_3, k_4, k_5, k_6, k_7, k_8, k_9, k_10, k_11, k_16, k_17, k_19, k_20, k_24, k_26, k_27, k_30, k_32, k_33, k_35, k_40, k_43, k_48, k_50, k_57, k_60, k_64, k_81, k_86, k_34, k_66, k_322, k_97, k_99, k_100, k_122, k_128, k_160, k_161, k_255, k_256, k_512, k_580, k_600, k_1000, k_4096, k_far, k_o, nI_add, n_mul, n_sub, n_div, n_rem, n_lt, n_le, n_eq, n_cl, n_and, n_or, n_xor, m1_lt, lt_m1, m1_eq, eq_m1, le_m1, m1_le, m2_eq, up_eq, up_ne, n_shl, n_shr, b2_some, let_e, ob_some, bI_0, bI_a, bI_t, bI_f, if_true, if_false, ite_true, ite_false, true_and, and_true, false_and, and_false, true_or, or_true, false_or, or_false, not_true_eq_false, not_false_eq_true, ite_not, ne_eq, Bool.true_eq_false, Bool.false_eq_true, reduceCtorEq, decide_true, decide_false, Bool.and_true, Bool.and_false, Bool.true_and, Bool.false_and, Bool.or_true, Bool.or_false, Bool.not_true, Bool.not_false, Nat.add_zero, Nat.zero_add, eq_self, Nat.not_lt_zero, Nat.reduceAdd, Nat.reduceMul, Nat.reduceSub, Nat.reduceDiv, Nat.reduceMod, Nat.reduceAnd, Nat.reduceXor, Nat.reduceEqDiff, Nat.reducePow, lt_T, lt_F, le_T, le_F, eq_F, C.2.1, bit1, q1, e1, e2, eF]
        · have K1 := ih (i + 1) (some p) g (by omega) (by omega) hs
          rw [bstS_ss, if_neg z, ← K1]
          generalize eF : qX0_mendedFirst_15 K g = F
          rw [hp.2] at z
          simp only [show s1 (some p) = nI p.1 from rfl]
          simp (disch := omega) only [↓reduceIte, ↓q_m1, ↓q_m2, k_o, k_0, k_1, k_2, k_3, k_4, k_5, k_6, k_7, k_8, k_9, k_10, k_11, k_16, k_17, k_19, k_20, k_24, k_26, k_27, k_30, k_32, k_33, k_35, k_40, k_43, k_48, k_50, k_57, k_60, k_64, k_81, k_86, k_34, k_66, k_322, k_97, k_99, k_100, k_122, k_128, k_160, k_161, k_255, k_256, k_512, k_580, k_600, k_1000, k_4096, k_far, k_o, nI_add, n_mul, n_sub, n_div, n_rem, n_lt, n_le, n_eq, n_cl, n_and, n_or, n_xor, m1_lt, lt_m1, m1_eq, eq_m1, le_m1, m1_le, m2_eq, up_eq, up_ne, n_shl, n_shr, b2_some, let_e, ob_some, bI_0, bI_a, bI_t, bI_f, if_true, if_false, ite_true, ite_false, true_and, and_true, false_and, and_false, true_or, or_true, false_or, or_false, not_true_eq_false, not_false_eq_true, ite_not, ne_eq, Bool.true_eq_false, Bool.false_eq_true, reduceCtorEq, decide_true, decide_false, Bool.and_true, Bool.and_false, Bool.true_and, Bool.false_and, Bool.or_true, Bool.or_false, Bool.not_true, Bool.not_false, Nat.add_zero, Nat.zero_add, eq_self, Nat.not_lt_zero, Nat.reduceAdd, Nat.reduceMul, Nat.reduceSub, Nat.reduceDiv, Nat.reduceMod, Nat.reduceAnd, Nat.reduceXor, Nat.reduceEqDiff, Nat.reducePow, lt_T, lt_F, le_T, le_F, eq_F, C.2.1, bit1, q1, e1, e2, eF]
/-- what a set that was mended first is like -/
def gdI (w : Nat → Nat) (H i M : Nat) : Prop := M < 256 ∧ (∀ r, H ≤ r → M.testBit r = false) ∧ (∀ r, r < H → M.testBit r = true → 0 < w r) ∧ (∀ r r', r < H → r' < H → M.testBit r = true → M.testBit r' = false → w r' < w r ∨ (w r' = w r ∧ r < r')) ∧ fb_ct (fun r => M.testBit r) H ≤ i ∧ (fb_ct (fun r => M.testBit r) H < i → ∀ r, r < H → M.testBit r = false → w r = 0)
theorem gd_step {w : Nat → Nat} {H i M : Nat} (hH : H ≤ 8) (I : gdI w H i M) : gdI w H (i + 1) (match bst (mfF w M) H 0 none with
    | none => M
    | some p => M ||| 2 ^ p.1) := by
  obtain ⟨a1, a2, a3, a4, a5, a6⟩ := I
  have bm := bst_max (f := mfF w M) (d := H) (i := 0) (s := none) (fun p hp => by cases hp)
  cases q : bst (mfF w M) H 0 none with
  | none =>
    have z := (bm.1 q).2
    refine ⟨a1, a2, a3, a4, by show fb_ct (fun r => M.testBit r) H ≤ i + 1; omega, fun _ r hr hb => ?_⟩
    have := z r (by omega) (by omega)
    by_cases y : M.testBit r = true ∨ w r = 0
    · rcases y with y | y
      · rw [hb] at y; cases y
      · exact y
    · rw [mf_s y] at this; cases this
  | some p =>
    have z := (bm.2 p q).2
    have hp := bst_lt (f := mfF w M) (d := H) (i := 0) (N := H) (s := none) (by omega) (fun p hp => by cases hp) p q
    have y : ¬ (M.testBit p.1 = true ∨ w p.1 = 0) := fun y => by
      have := hp.2
      rw [mf_n y] at this
      cases this
    have e2 : w p.1 = p.2 := by
      have := hp.2
      rw [mf_s y] at this
      exact Option.some.inj this
    have y1 : M.testBit p.1 = false := by
      cases z : M.testBit p.1
      · rfl
      · exact absurd (Or.inl z) y
    have y2 : w p.1 ≠ 0 := fun z => y (Or.inr z)
    have tb : ∀ r, (M ||| 2 ^ p.1).testBit r = up1 (fun r => M.testBit r) p.1 true r := fun r => by
      rw [Nat.testBit_or, Nat.testBit_two_pow]
      by_cases c : r = p.1
      · rw [c, up1_eq, decide_eq_true rfl, Bool.or_true]
      · rw [up1_ne c, decide_eq_false (fun y => c y.symm), Bool.or_false]
    have ct := ct_up1 (fun r => M.testBit r) true hp.1
    rw [y1] at ct
    have ct' : fb_ct (up1 (fun r => M.testBit r) p.1 true) H = fb_ct (fun r => M.testBit r) H + 1 := ct
    have ce : fb_ct (fun r => (M ||| 2 ^ p.1).testBit r) H = fb_ct (fun r => M.testBit r) H + 1 := by
      rw [← ct']
      exact fb_ct_cong (fun r _ => tb r)
    show gdI w H (i + 1) (M ||| 2 ^ p.1)
    refine ⟨Nat.or_lt_two_pow (n := 8) a1 (Nat.pow_lt_pow_right (by omega) (by omega)), fun r hr => ?_, fun r hr hb => ?_, fun r r' hr hr' hb hb' => ?_, by omega, fun hlt r hr hb => ?_⟩
    · rw [tb, up1_ne (by omega)]
      exact a2 r hr
    · rw [tb] at hb
      by_cases c : r = p.1
      · rw [c]; omega
      · rw [up1_ne c] at hb
        exact a3 r hr hb
    · rw [tb] at hb hb'
      have c' : r' ≠ p.1 := fun c => by rw [c, up1_eq] at hb'; cases hb'
      rw [up1_ne c'] at hb'
      by_cases c : r = p.1
      · rw [c, e2]
        by_cases c2 : w r' = 0
        · rw [c2]
          exact Or.inl (by omega)
        · have := z r' (w r') (by omega) (by omega) (mf_s (fun y => by
            rcases y with y | y
            · rw [hb'] at y; cases y
            · exact c2 y))
          rcases this with t | ⟨t1, t2⟩
          · exact Or.inl t
          · exact Or.inr ⟨t1, by omega⟩
      · rw [up1_ne c] at hb
        exact a4 r r' hr hr' hb hb'
    · exact absurd (a6 (by omega) p.1 hp.1 y1) y2
theorem c_mf4 (k : bOK β) (C : bC b β h) {n : Nat} (hn : n ≤ 8) : ∀ d i M fuel, i + d = n → d < fuel → gdI (bR β) (bh β) i M → ∃ G, qX0_mendedFirst_4 fuel b (nI n) (nI M) (nI i) h = some (nI G, h) ∧ gdI (bR β) (bh β) n G := by
  have hH := k.H
  intro d
  induction d with
  | zero =>
    intro i M fuel hi hf I
    obtain ⟨g, rfl⟩ : ∃ g, fuel = g + 1 := ⟨fuel - 1, by omega⟩
    have : i = n := by omega
    subst this
    refine ⟨M, ?_, I⟩
    unfold qX0_mendedFirst_4
    simp (disch := omega) only [↓reduceIte, ↓q_m1, ↓q_m2, k_o, k_0, k_1, k_2, k_3, k_4, k_5, k_6, k_7, k_8, k_9, k_10, k_11, k_16, k_17, k_19, k_20, k_24, k_26, k_27, k_30, k_32, k_33, k_35, k_40, k_43, k_48, k_50, k_57, k_60, k_64, k_81, k_86, k_34, k_66, k_322, k_97, k_99, k_100, k_122, k_128, k_160, k_161, k_255, k_256, k_512, k_580, k_600, k_1000, k_4096, k_far, k_o, nI_add, n_mul, n_sub, n_div, n_rem, n_lt, n_le, n_eq, n_cl, n_and, n_or, n_xor, m1_lt, lt_m1, m1_eq, eq_m1, le_m1, m1_le, m2_eq, up_eq, up_ne, n_shl, n_shr, b2_some, let_e, ob_some, bI_0, bI_a, bI_t, bI_f, if_true, if_false, ite_true, ite_false, true_and, and_true, false_and, and_false, true_or, or_true, false_or, or_false, not_true_eq_false, not_false_eq_true, ite_not, ne_eq, Bool.true_eq_false, Bool.false_eq_true, reduceCtorEq, decide_true, decide_false, Bool.and_true, Bool.and_false, Bool.true_and, Bool.false_and, Bool.or_true, Bool.or_false, Bool.not_true, Bool.not_false, Nat.add_zero, Nat.zero_add, eq_self, Nat.not_lt_zero, Nat.reduceAdd, Nat.reduceMul, Nat.reduceSub, Nat.reduceDiv, Nat.reduceMod, Nat.reduceAnd, Nat.reduceXor, Nat.reduceEqDiff, Nat.reducePow, lt_T, lt_F, le_T, le_F, eq_F]
  | succ d ih =>
    intro i M fuel hi hf I
    obtain ⟨g, rfl⟩ : ∃ g, fuel = g + 1 := ⟨fuel - 1, by omega⟩
    have o := c_mf15 k C (n := n) (M := M) (i0 := i) I.1 (qX0_mendedFirst_4 g) (bh β) 0 none qm_N (by omega) (by unfold qm_N; omega) (fun p hp => by cases hp)
    have I2 := gd_step (by omega) I
    obtain ⟨G, e1, e2⟩ := ih (i + 1) _ g (by omega) (by omega) I2
    refine ⟨G, ?_, e2⟩
    unfold qX0_mendedFirst_4
    simp (disch := omega) only [↓reduceIte, ↓q_m1, ↓q_m2, k_o, k_0, k_1, k_2, k_3, k_4, k_5, k_6, k_7, k_8, k_9, k_10, k_11, k_16, k_17, k_19, k_20, k_24, k_26, k_27, k_30, k_32, k_33, k_35, k_40, k_43, k_48, k_50, k_57, k_60, k_64, k_81, k_86, k_34, k_66, k_322, k_97, k_99, k_100, k_122, k_128, k_160, k_161, k_255, k_256, k_512, k_580, k_600, k_1000, k_4096, k_far, k_o, nI_add, n_mul, n_sub, n_div, n_rem, n_lt, n_le, n_eq, n_cl, n_and, n_or, n_xor, m1_lt, lt_m1, m1_eq, eq_m1, le_m1, m1_le, m2_eq, up_eq, up_ne, n_shl, n_shr, b2_some, let_e, ob_some, bI_0, bI_a, bI_t, bI_f, if_true, if_false, ite_true, ite_false, true_and, and_true, false_and, and_false, true_or, or_true, false_or, or_false, not_true_eq_false, not_false_eq_true, ite_not, ne_eq, Bool.true_eq_false, Bool.false_eq_true, reduceCtorEq, decide_true, decide_false, Bool.and_true, Bool.and_false, Bool.true_and, Bool.false_and, Bool.or_true, Bool.or_false, Bool.not_true, Bool.not_false, Nat.add_zero, Nat.zero_add, eq_self, Nat.not_lt_zero, Nat.reduceAdd, Nat.reduceMul, Nat.reduceSub, Nat.reduceDiv, Nat.reduceMod, Nat.reduceAnd, Nat.reduceXor, Nat.reduceEqDiff, Nat.reducePow, lt_T, lt_F, le_T, le_F, eq_F]
    rw [show m1 = s1 none from rfl, o]
    cases q : bst (mfF (bR β) M) (bh β) 0 none with
    | none =>
      rw [q] at e1
      exact e1
    | some p =>
      rw [q] at e1
      exact e1
def vlS (β : qB) (S : Nat) : Nat := vl (bR β) (bh β) (fun r => S.testBit r)
theorem vlS_b (k : bOK β) (S : Nat) : 0 < vlS β S ∧ vlS β S ≤ 100000000 := by
  have hH := k.H
  refine ⟨pr_pos (fun r hr => fac_pos (fun q hq => (k.2.2.2.2.2.1 q (by omega)).2) _ hr), ?_⟩
  have h1 : vlS β S ≤ 10 ^ bh β := pr_le (fun r hr => by unfold fac; split <;> omega)
  exact Nat.le_trans h1 (Nat.le_trans (Nat.pow_le_pow_right (by omega) hH.2) (by decide))
theorem c_sound_l (k : bOK β) (C : bC b β h) {S : Nat} (hS : S < 256) : ∀ d i fuel, i + d = bh β → d < fuel → qX0_soundWays_5 fuel b (nI S) (lN (pr (fac (bR β) (fun r => S.testBit r)) i)) (nI i) h = some (lN (vlS β S), h) := by
  have hH := k.H
  intro d
  induction d with
  | zero =>
    intro i fuel hi hf
    obtain ⟨g, rfl⟩ : ∃ g, fuel = g + 1 := ⟨fuel - 1, by omega⟩
    have : i = bh β := by omega
    subst this
    unfold qX0_soundWays_5
    simp (disch := omega) only [↓reduceIte, ↓q_m1, ↓q_m2, k_o, k_0, k_1, k_2, k_3, k_4, k_5, k_6, k_7, k_8, k_9, k_10, k_11, k_16, k_17, k_19, k_20, k_24, k_26, k_27, k_30, k_32, k_33, k_35, k_40, k_43, k_48, k_50, k_57, k_60, k_64, k_81, k_86, k_34, k_66, k_322, k_97, k_99, k_100, k_122, k_128, k_160, k_161, k_255, k_256, k_512, k_580, k_600, k_1000, k_4096, k_far, k_o, nI_add, n_mul, n_sub, n_div, n_rem, n_lt, n_le, n_eq, n_cl, n_and, n_or, n_xor, m1_lt, lt_m1, m1_eq, eq_m1, le_m1, m1_le, m2_eq, up_eq, up_ne, n_shl, n_shr, b2_some, let_e, ob_some, bI_0, bI_a, bI_t, bI_f, if_true, if_false, ite_true, ite_false, true_and, and_true, false_and, and_false, true_or, or_true, false_or, or_false, not_true_eq_false, not_false_eq_true, ite_not, ne_eq, Bool.true_eq_false, Bool.false_eq_true, reduceCtorEq, decide_true, decide_false, Bool.and_true, Bool.and_false, Bool.true_and, Bool.false_and, Bool.or_true, Bool.or_false, Bool.not_true, Bool.not_false, Nat.add_zero, Nat.zero_add, eq_self, Nat.not_lt_zero, Nat.reduceAdd, Nat.reduceMul, Nat.reduceSub, Nat.reduceDiv, Nat.reduceMod, Nat.reduceAnd, Nat.reduceXor, Nat.reduceEqDiff, Nat.reducePow, lt_T, lt_F, le_T, le_F, eq_F, C.2.1]
    rfl
  | succ d ih =>
    intro i fuel hi hf
    obtain ⟨g, rfl⟩ : ∃ g, fuel = g + 1 := ⟨fuel - 1, by omega⟩
    have e1 := (C.2.2.2.1 i (by omega)).2
    have hR := (k.2.2.2.2.2.1 i (by omega)).2
    have K := ih (i + 1) g (by omega) (by omega)
    unfold qX0_soundWays_5
    cases q : S.testBit i
    · have ef : fac (bR β) (fun r => S.testBit r) i = 10 - bR β i := by
        show (if S.testBit i = true then 10 else 10 - bR β i) = _
        rw [q]; rfl
      have ep : pr (fac (bR β) (fun r => S.testBit r)) (i + 1) = pr (fac (bR β) (fun r => S.testBit r)) i * (10 - bR β i) := by rw [← ef]; rfl
      rw [ep] at K
      simp (disch := omega) only [↓reduceIte, ↓q_m1, ↓q_m2, k_o, k_0, k_1, k_2, k_3, k_4, k_5, k_6, k_7, k_8, k_9, k_10, k_11, k_16, k_17, k_19, k_20, k_24, k_26, k_27, k_30, k_32, k_33, k_35, k_40, k_43, k_48, k_50, k_57, k_60, k_64, k_81, k_86, k_34, k_66, k_322, k_97, k_99, k_100, k_122, k_128, k_160, k_161, k_255, k_256, k_512, k_580, k_600, k_1000, k_4096, k_far, k_o, nI_add, n_mul, n_sub, n_div, n_rem, n_lt, n_le, n_eq, n_cl, n_and, n_or, n_xor, m1_lt, lt_m1, m1_eq, eq_m1, le_m1, m1_le, m2_eq, up_eq, up_ne, n_shl, n_shr, b2_some, let_e, ob_some, bI_0, bI_a, bI_t, bI_f, if_true, if_false, ite_true, ite_false, true_and, and_true, false_and, and_false, true_or, or_true, false_or, or_false, not_true_eq_false, not_false_eq_true, ite_not, ne_eq, Bool.true_eq_false, Bool.false_eq_true, reduceCtorEq, decide_true, decide_false, Bool.and_true, Bool.and_false, Bool.true_and, Bool.false_and, Bool.or_true, Bool.or_false, Bool.not_true, Bool.not_false, Nat.add_zero, Nat.zero_add, eq_self, Nat.not_lt_zero, Nat.reduceAdd, Nat.reduceMul, Nat.reduceSub, Nat.reduceDiv, Nat.reduceMod, Nat.reduceAnd, Nat.reduceXor, Nat.reduceEqDiff, Nat.reducePow, lt_T, lt_F, le_T, le_F, eq_F, C.2.1, bit1, q, e1, nI_l, lN_mul]
      exact K
    · have ef : fac (bR β) (fun r => S.testBit r) i = 10 := by
        show (if S.testBit i = true then 10 else 10 - bR β i) = _
        rw [q]; rfl
      have ep : pr (fac (bR β) (fun r => S.testBit r)) (i + 1) = pr (fac (bR β) (fun r => S.testBit r)) i * 10 := by rw [← ef]; rfl
      rw [ep] at K
      simp (disch := omega) only [↓reduceIte, ↓q_m1, ↓q_m2, k_o, k_0, k_1, k_2, k_3, k_4, k_5, k_6, k_7, k_8, k_9, k_10, k_11, k_16, k_17, k_19, k_20, k_24, k_26, k_27, k_30, k_32, k_33, k_35, k_40, k_43, k_48, k_50, k_57, k_60, k_64, k_81, k_86, k_34, k_66, k_322, k_97, k_99, k_100, k_122, k_128, k_160, k_161, k_255, k_256, k_512, k_580, k_600, k_1000, k_4096, k_far, k_o, nI_add, n_mul, n_sub, n_div, n_rem, n_lt, n_le, n_eq, n_cl, n_and, n_or, n_xor, m1_lt, lt_m1, m1_eq, eq_m1, le_m1, m1_le, m2_eq, up_eq, up_ne, n_shl, n_shr, b2_some, let_e, ob_some, bI_0, bI_a, bI_t, bI_f, if_true, if_false, ite_true, ite_false, true_and, and_true, false_and, and_false, true_or, or_true, false_or, or_false, not_true_eq_false, not_false_eq_true, ite_not, ne_eq, Bool.true_eq_false, Bool.false_eq_true, reduceCtorEq, decide_true, decide_false, Bool.and_true, Bool.and_false, Bool.true_and, Bool.false_and, Bool.or_true, Bool.or_false, Bool.not_true, Bool.not_false, Nat.add_zero, Nat.zero_add, eq_self, Nat.not_lt_zero, Nat.reduceAdd, Nat.reduceMul, Nat.reduceSub, Nat.reduceDiv, Nat.reduceMod, Nat.reduceAnd, Nat.reduceXor, Nat.reduceEqDiff, Nat.reducePow, lt_T, lt_F, le_T, le_F, eq_F, C.2.1, bit1, q, show (10 : Int64) = lN 10 from rfl, lN_mul]
      exact K
theorem c_all_l (k : bOK β) (C : bC b β h) : ∀ d i fuel, i + d = bh β → d < fuel → qX0_allWays_4 fuel b (lN (10 ^ i)) (nI i) h = some (lN (10 ^ bh β), h) := by
  have hH := k.H
  intro d
  induction d with
  | zero =>
    intro i fuel hi hf
    obtain ⟨g, rfl⟩ : ∃ g, fuel = g + 1 := ⟨fuel - 1, by omega⟩
    have : i = bh β := by omega
    subst this
    unfold qX0_allWays_4
    simp (disch := omega) only [↓reduceIte, ↓q_m1, ↓q_m2, k_o, k_0, k_1, k_2, k_3, k_4, k_5, k_6, k_7, k_8, k_9, k_10, k_11, k_16, k_17, k_19, k_20, k_24, k_26, k_27, k_30, k_32, k_33, k_35, k_40, k_43, k_48, k_50, k_57, k_60, k_64, k_81, k_86, k_34, k_66, k_322, k_97, k_99, k_100, k_122, k_128, k_160, k_161, k_255, k_256, k_512, k_580, k_600, k_1000, k_4096, k_far, k_o, nI_add, n_mul, n_sub, n_div, n_rem, n_lt, n_le, n_eq, n_cl, n_and, n_or, n_xor, m1_lt, lt_m1, m1_eq, eq_m1, le_m1, m1_le, m2_eq, up_eq, up_ne, n_shl, n_shr, b2_some, let_e, ob_some, bI_0, bI_a, bI_t, bI_f, if_true, if_false, ite_true, ite_false, true_and, and_true, false_and, and_false, true_or, or_true, false_or, or_false, not_true_eq_false, not_false_eq_true, ite_not, ne_eq, Bool.true_eq_false, Bool.false_eq_true, reduceCtorEq, decide_true, decide_false, Bool.and_true, Bool.and_false, Bool.true_and, Bool.false_and, Bool.or_true, Bool.or_false, Bool.not_true, Bool.not_false, Nat.add_zero, Nat.zero_add, eq_self, Nat.not_lt_zero, Nat.reduceAdd, Nat.reduceMul, Nat.reduceSub, Nat.reduceDiv, Nat.reduceMod, Nat.reduceAnd, Nat.reduceXor, Nat.reduceEqDiff, Nat.reducePow, lt_T, lt_F, le_T, le_F, eq_F, C.2.1]
  | succ d ih =>
    intro i fuel hi hf
    obtain ⟨g, rfl⟩ : ∃ g, fuel = g + 1 := ⟨fuel - 1, by omega⟩
    have K := ih (i + 1) g (by omega) (by omega)
    rw [Nat.pow_succ] at K
    unfold qX0_allWays_4
    simp (disch := omega) only [↓reduceIte, ↓q_m1, ↓q_m2, k_o, k_0, k_1, k_2, k_3, k_4, k_5, k_6, k_7, k_8, k_9, k_10, k_11, k_16, k_17, k_19, k_20, k_24, k_26, k_27, k_30, k_32, k_33, k_35, k_40, k_43, k_48, k_50, k_57, k_60, k_64, k_81, k_86, k_34, k_66, k_322, k_97, k_99, k_100, k_122, k_128, k_160, k_161, k_255, k_256, k_512, k_580, k_600, k_1000, k_4096, k_far, k_o, nI_add, n_mul, n_sub, n_div, n_rem, n_lt, n_le, n_eq, n_cl, n_and, n_or, n_xor, m1_lt, lt_m1, m1_eq, eq_m1, le_m1, m1_le, m2_eq, up_eq, up_ne, n_shl, n_shr, b2_some, let_e, ob_some, bI_0, bI_a, bI_t, bI_f, if_true, if_false, ite_true, ite_false, true_and, and_true, false_and, and_false, true_or, or_true, false_or, or_false, not_true_eq_false, not_false_eq_true, ite_not, ne_eq, Bool.true_eq_false, Bool.false_eq_true, reduceCtorEq, decide_true, decide_false, Bool.and_true, Bool.and_false, Bool.true_and, Bool.false_and, Bool.or_true, Bool.or_false, Bool.not_true, Bool.not_false, Nat.add_zero, Nat.zero_add, eq_self, Nat.not_lt_zero, Nat.reduceAdd, Nat.reduceMul, Nat.reduceSub, Nat.reduceDiv, Nat.reduceMod, Nat.reduceAnd, Nat.reduceXor, Nat.reduceEqDiff, Nat.reducePow, lt_T, lt_F, le_T, le_F, eq_F, C.2.1, show (10 : Int64) = lN 10 from rfl, lN_mul]
    exact K
theorem m_tens_l {n : Nat} (hn : n ≤ 8) (h : qm_H) : ∀ d i fuel, i + d = n → d < fuel → qX12_tens_4 fuel (nI n) (lN (10 ^ i)) (nI i) h = some (lN (10 ^ n), h) := by
  intro d
  induction d with
  | zero =>
    intro i fuel hi hf
    obtain ⟨g, rfl⟩ : ∃ g, fuel = g + 1 := ⟨fuel - 1, by omega⟩
    have : i = n := by omega
    subst this
    unfold qX12_tens_4
    simp (disch := omega) only [↓reduceIte, ↓q_m1, ↓q_m2, k_o, k_0, k_1, k_2, k_3, k_4, k_5, k_6, k_7, k_8, k_9, k_10, k_11, k_16, k_17, k_19, k_20, k_24, k_26, k_27, k_30, k_32, k_33, k_35, k_40, k_43, k_48, k_50, k_57, k_60, k_64, k_81, k_86, k_34, k_66, k_322, k_97, k_99, k_100, k_122, k_128, k_160, k_161, k_255, k_256, k_512, k_580, k_600, k_1000, k_4096, k_far, k_o, nI_add, n_mul, n_sub, n_div, n_rem, n_lt, n_le, n_eq, n_cl, n_and, n_or, n_xor, m1_lt, lt_m1, m1_eq, eq_m1, le_m1, m1_le, m2_eq, up_eq, up_ne, n_shl, n_shr, b2_some, let_e, ob_some, bI_0, bI_a, bI_t, bI_f, if_true, if_false, ite_true, ite_false, true_and, and_true, false_and, and_false, true_or, or_true, false_or, or_false, not_true_eq_false, not_false_eq_true, ite_not, ne_eq, Bool.true_eq_false, Bool.false_eq_true, reduceCtorEq, decide_true, decide_false, Bool.and_true, Bool.and_false, Bool.true_and, Bool.false_and, Bool.or_true, Bool.or_false, Bool.not_true, Bool.not_false, Nat.add_zero, Nat.zero_add, eq_self, Nat.not_lt_zero, Nat.reduceAdd, Nat.reduceMul, Nat.reduceSub, Nat.reduceDiv, Nat.reduceMod, Nat.reduceAnd, Nat.reduceXor, Nat.reduceEqDiff, Nat.reducePow, lt_T, lt_F, le_T, le_F, eq_F]
  | succ d ih =>
    intro i fuel hi hf
    obtain ⟨g, rfl⟩ : ∃ g, fuel = g + 1 := ⟨fuel - 1, by omega⟩
    have K := ih (i + 1) g (by omega) (by omega)
    rw [Nat.pow_succ] at K
    unfold qX12_tens_4
    simp (disch := omega) only [↓reduceIte, ↓q_m1, ↓q_m2, k_o, k_0, k_1, k_2, k_3, k_4, k_5, k_6, k_7, k_8, k_9, k_10, k_11, k_16, k_17, k_19, k_20, k_24, k_26, k_27, k_30, k_32, k_33, k_35, k_40, k_43, k_48, k_50, k_57, k_60, k_64, k_81, k_86, k_34, k_66, k_322, k_97, k_99, k_100, k_122, k_128, k_160, k_161, k_255, k_256, k_512, k_580, k_600, k_1000, k_4096, k_far, k_o, nI_add, n_mul, n_sub, n_div, n_rem, n_lt, n_le, n_eq, n_cl, n_and, n_or, n_xor, m1_lt, lt_m1, m1_eq, eq_m1, le_m1, m1_le, m2_eq, up_eq, up_ne, n_shl, n_shr, b2_some, let_e, ob_some, bI_0, bI_a, bI_t, bI_f, if_true, if_false, ite_true, ite_false, true_and, and_true, false_and, and_false, true_or, or_true, false_or, or_false, not_true_eq_false, not_false_eq_true, ite_not, ne_eq, Bool.true_eq_false, Bool.false_eq_true, reduceCtorEq, decide_true, decide_false, Bool.and_true, Bool.and_false, Bool.true_and, Bool.false_and, Bool.or_true, Bool.or_false, Bool.not_true, Bool.not_false, Nat.add_zero, Nat.zero_add, eq_self, Nat.not_lt_zero, Nat.reduceAdd, Nat.reduceMul, Nat.reduceSub, Nat.reduceDiv, Nat.reduceMod, Nat.reduceAnd, Nat.reduceXor, Nat.reduceEqDiff, Nat.reducePow, lt_T, lt_F, le_T, le_F, eq_F, show (10 : Int64) = lN 10 from rfl, lN_mul]
    exact K
theorem m_lasts_l (k : bOK β) (M : bM β h) {S : Nat} (hS : S < 256) : ∀ d i fuel, i + d = bh β → d < fuel → qX12_lastsBy_5 fuel 62 (nI S) (lN (pr (fac (bR β) (fun r => S.testBit r)) i)) (nI i) h = some (lN (vlS β S), h) := by
  have hH := k.H
  intro d
  induction d with
  | zero =>
    intro i fuel hi hf
    obtain ⟨g, rfl⟩ : ∃ g, fuel = g + 1 := ⟨fuel - 1, by omega⟩
    have : i = bh β := by omega
    subst this
    unfold qX12_lastsBy_5
    simp (disch := omega) only [↓reduceIte, ↓q_m1, ↓q_m2, k_o, k_0, k_1, k_2, k_3, k_4, k_5, k_6, k_7, k_8, k_9, k_10, k_11, k_16, k_17, k_19, k_20, k_24, k_26, k_27, k_30, k_32, k_33, k_35, k_40, k_43, k_48, k_50, k_57, k_60, k_64, k_81, k_86, k_34, k_66, k_322, k_97, k_99, k_100, k_122, k_128, k_160, k_161, k_255, k_256, k_512, k_580, k_600, k_1000, k_4096, k_far, k_o, nI_add, n_mul, n_sub, n_div, n_rem, n_lt, n_le, n_eq, n_cl, n_and, n_or, n_xor, m1_lt, lt_m1, m1_eq, eq_m1, le_m1, m1_le, m2_eq, up_eq, up_ne, n_shl, n_shr, b2_some, let_e, ob_some, bI_0, bI_a, bI_t, bI_f, if_true, if_false, ite_true, ite_false, true_and, and_true, false_and, and_false, true_or, or_true, false_or, or_false, not_true_eq_false, not_false_eq_true, ite_not, ne_eq, Bool.true_eq_false, Bool.false_eq_true, reduceCtorEq, decide_true, decide_false, Bool.and_true, Bool.and_false, Bool.true_and, Bool.false_and, Bool.or_true, Bool.or_false, Bool.not_true, Bool.not_false, Nat.add_zero, Nat.zero_add, eq_self, Nat.not_lt_zero, Nat.reduceAdd, Nat.reduceMul, Nat.reduceSub, Nat.reduceDiv, Nat.reduceMod, Nat.reduceAnd, Nat.reduceXor, Nat.reduceEqDiff, Nat.reducePow, lt_T, lt_F, le_T, le_F, eq_F, M.2.1]
    rfl
  | succ d ih =>
    intro i fuel hi hf
    obtain ⟨g, rfl⟩ : ∃ g, fuel = g + 1 := ⟨fuel - 1, by omega⟩
    have e1 := (M.2.2.2.2.1 i (by omega)).2
    have hR := (k.2.2.2.2.2.1 i (by omega)).2
    have K := ih (i + 1) g (by omega) (by omega)
    have o := m_has (s := S) (k := i) (by omega) (by omega) h
    unfold qX12_lastsBy_5
    cases q : S.testBit i
    · have ef : fac (bR β) (fun r => S.testBit r) i = 10 - bR β i := by
        show (if S.testBit i = true then 10 else 10 - bR β i) = _
        rw [q]; rfl
      have ep : pr (fac (bR β) (fun r => S.testBit r)) (i + 1) = pr (fac (bR β) (fun r => S.testBit r)) i * (10 - bR β i) := by rw [← ef]; rfl
      rw [ep] at K
      rw [q] at o
      simp (disch := omega) only [↓reduceIte, ↓q_m1, ↓q_m2, k_o, k_0, k_1, k_2, k_3, k_4, k_5, k_6, k_7, k_8, k_9, k_10, k_11, k_16, k_17, k_19, k_20, k_24, k_26, k_27, k_30, k_32, k_33, k_35, k_40, k_43, k_48, k_50, k_57, k_60, k_64, k_81, k_86, k_34, k_66, k_322, k_97, k_99, k_100, k_122, k_128, k_160, k_161, k_255, k_256, k_512, k_580, k_600, k_1000, k_4096, k_far, k_o, nI_add, n_mul, n_sub, n_div, n_rem, n_lt, n_le, n_eq, n_cl, n_and, n_or, n_xor, m1_lt, lt_m1, m1_eq, eq_m1, le_m1, m1_le, m2_eq, up_eq, up_ne, n_shl, n_shr, b2_some, let_e, ob_some, bI_0, bI_a, bI_t, bI_f, if_true, if_false, ite_true, ite_false, true_and, and_true, false_and, and_false, true_or, or_true, false_or, or_false, not_true_eq_false, not_false_eq_true, ite_not, ne_eq, Bool.true_eq_false, Bool.false_eq_true, reduceCtorEq, decide_true, decide_false, Bool.and_true, Bool.and_false, Bool.true_and, Bool.false_and, Bool.or_true, Bool.or_false, Bool.not_true, Bool.not_false, Nat.add_zero, Nat.zero_add, eq_self, Nat.not_lt_zero, Nat.reduceAdd, Nat.reduceMul, Nat.reduceSub, Nat.reduceDiv, Nat.reduceMod, Nat.reduceAnd, Nat.reduceXor, Nat.reduceEqDiff, Nat.reducePow, lt_T, lt_F, le_T, le_F, eq_F, M.2.1, o, e1, nI_l, lN_mul]
      exact K
    · have ef : fac (bR β) (fun r => S.testBit r) i = 10 := by
        show (if S.testBit i = true then 10 else 10 - bR β i) = _
        rw [q]; rfl
      have ep : pr (fac (bR β) (fun r => S.testBit r)) (i + 1) = pr (fac (bR β) (fun r => S.testBit r)) i * 10 := by rw [← ef]; rfl
      rw [ep] at K
      rw [q] at o
      simp (disch := omega) only [↓reduceIte, ↓q_m1, ↓q_m2, k_o, k_0, k_1, k_2, k_3, k_4, k_5, k_6, k_7, k_8, k_9, k_10, k_11, k_16, k_17, k_19, k_20, k_24, k_26, k_27, k_30, k_32, k_33, k_35, k_40, k_43, k_48, k_50, k_57, k_60, k_64, k_81, k_86, k_34, k_66, k_322, k_97, k_99, k_100, k_122, k_128, k_160, k_161, k_255, k_256, k_512, k_580, k_600, k_1000, k_4096, k_far, k_o, nI_add, n_mul, n_sub, n_div, n_rem, n_lt, n_le, n_eq, n_cl, n_and, n_or, n_xor, m1_lt, lt_m1, m1_eq, eq_m1, le_m1, m1_le, m2_eq, up_eq, up_ne, n_shl, n_shr, b2_some, let_e, ob_some, bI_0, bI_a, bI_t, bI_f, if_true, if_false, ite_true, ite_false, true_and, and_true, false_and, and_false, true_or, or_true, false_or, or_false, not_true_eq_false, not_false_eq_true, ite_not, ne_eq, Bool.true_eq_false, Bool.false_eq_true, reduceCtorEq, decide_true, decide_false, Bool.and_true, Bool.and_false, Bool.true_and, Bool.false_and, Bool.or_true, Bool.or_false, Bool.not_true, Bool.not_false, Nat.add_zero, Nat.zero_add, eq_self, Nat.not_lt_zero, Nat.reduceAdd, Nat.reduceMul, Nat.reduceSub, Nat.reduceDiv, Nat.reduceMod, Nat.reduceAnd, Nat.reduceXor, Nat.reduceEqDiff, Nat.reducePow, lt_T, lt_F, le_T, le_F, eq_F, M.2.1, o, show (10 : Int64) = lN 10 from rfl, lN_mul]
      exact K
theorem m_lasts (k : bOK β) (M : bM β h) {S : Nat} (hS : S < 256) : qX12_lastsBy 62 (nI S) h = some (lN (vlS β S), h) := by
  have hH := k.H
  unfold qX12_lastsBy
  exact m_lasts_l k M hS (bh β) 0 qm_N (by omega) (by unfold qm_N; omega)
def laV (β : qB) (f S : Nat) : Int64 := if f = 2 then lN S else if f = 0 then lN (vlS β S / Nat.gcd (vlS β S) (10 ^ bh β)) else lN (10 ^ bh β / Nat.gcd (vlS β S) (10 ^ bh β))
theorem p10_b (k : bOK β) : 10 ^ bh β ≤ 100000000 ∧ 0 < 10 ^ bh β := ⟨Nat.le_trans (Nat.pow_le_pow_right (by omega) k.H.2) (by decide), Nat.pow_pos (by omega)⟩
theorem m_last42 (k : bOK β) (M : bM β h) {n f : Nat} (hn : n ≤ 8) (hf2 : f ≤ 2) : ∀ d s B fuel, s + d = 2 ^ bh β → d < fuel → B < 256 → qX12_last_42 fuel 62 (nI n) (nI f) (nI B) (nI s) h = some (laV β f (ls (vlS β) ones8 n d s B), h) := by
  have hH := k.H
  have eP : 2 ^ bh β ≤ 256 := Nat.pow_le_pow_right (show 0 < 2 by omega) hH.2
  have eH : qm_ishl (nI 1) (nI (bh β)) = nI (2 ^ bh β) := by
    rw [n_shl (by omega), Nat.one_mul]
    rw [Nat.one_mul]
    omega
  intro d
  induction d with
  | zero =>
    intro s B fuel hs hf hB
    obtain ⟨g, rfl⟩ : ∃ g, fuel = g + 1 := ⟨fuel - 1, by omega⟩
    have o1 := m_lasts k M hB
    have b1 := vlS_b k B
    have b2 := p10_b k
    have o2 : qX12_tens (nI (bh β)) h = some (lN (10 ^ bh β), h) := by
      unfold qX12_tens
      exact m_tens_l (by omega) h (bh β) 0 qm_N (by omega) (by unfold qm_N; omega)
    have o3 := m_gcd (x := 10 ^ bh β) (y := vlS β B) (by simp only [Nat.reducePow]; omega) (by simp only [Nat.reducePow]; omega) h
    rw [Nat.gcd_comm] at o3
    have g0 : 0 < Nat.gcd (vlS β B) (10 ^ bh β) := Nat.gcd_pos_of_pos_left _ b1.1
    have g1 : Nat.gcd (vlS β B) (10 ^ bh β) ≤ vlS β B := Nat.gcd_le_left _ b1.1
    have ne : ¬ lN (Nat.gcd (vlS β B) (10 ^ bh β)) = (0 : Int64) := by
      rw [l_k0, lN_eq (by simp only [Nat.reducePow]; omega) (by omega)]
      omega
    show _ = some (laV β f B, h)
    unfold qX12_last_42 laV
    by_cases q2 : f = 2
    · subst q2
      simp (disch := omega) only [↓reduceIte, ↓q_m1, ↓q_m2, k_o, k_0, k_1, k_2, k_3, k_4, k_5, k_6, k_7, k_8, k_9, k_10, k_11, k_16, k_17, k_19, k_20, k_24, k_26, k_27, k_30, k_32, k_33, k_35, k_40, k_43, k_48, k_50, k_57, k_60, k_64, k_81, k_86, k_34, k_66, k_322, k_97, k_99, k_100, k_122, k_128, k_160, k_161, k_255, k_256, k_512, k_580, k_600, k_1000, k_4096, k_far, k_o, nI_add, n_mul, n_sub, n_div, n_rem, n_lt, n_le, n_eq, n_cl, n_and, n_or, n_xor, m1_lt, lt_m1, m1_eq, eq_m1, le_m1, m1_le, m2_eq, up_eq, up_ne, n_shl, n_shr, b2_some, let_e, ob_some, bI_0, bI_a, bI_t, bI_f, if_true, if_false, ite_true, ite_false, true_and, and_true, false_and, and_false, true_or, or_true, false_or, or_false, not_true_eq_false, not_false_eq_true, ite_not, ne_eq, Bool.true_eq_false, Bool.false_eq_true, reduceCtorEq, decide_true, decide_false, Bool.and_true, Bool.and_false, Bool.true_and, Bool.false_and, Bool.or_true, Bool.or_false, Bool.not_true, Bool.not_false, Nat.add_zero, Nat.zero_add, eq_self, Nat.not_lt_zero, Nat.reduceAdd, Nat.reduceMul, Nat.reduceSub, Nat.reduceDiv, Nat.reduceMod, Nat.reduceAnd, Nat.reduceXor, Nat.reduceEqDiff, Nat.reducePow, lt_T, lt_F, le_T, le_F, eq_F, M.2.1, eH, o1, o2, o3]
      rw [nI_l (by simp only [Nat.reducePow]; omega)]
    · by_cases q0 : f = 0
      · subst q0
        simp (disch := omega) only [↓reduceIte, ↓q_m1, ↓q_m2, k_o, k_0, k_1, k_2, k_3, k_4, k_5, k_6, k_7, k_8, k_9, k_10, k_11, k_16, k_17, k_19, k_20, k_24, k_26, k_27, k_30, k_32, k_33, k_35, k_40, k_43, k_48, k_50, k_57, k_60, k_64, k_81, k_86, k_34, k_66, k_322, k_97, k_99, k_100, k_122, k_128, k_160, k_161, k_255, k_256, k_512, k_580, k_600, k_1000, k_4096, k_far, k_o, nI_add, n_mul, n_sub, n_div, n_rem, n_lt, n_le, n_eq, n_cl, n_and, n_or, n_xor, m1_lt, lt_m1, m1_eq, eq_m1, le_m1, m1_le, m2_eq, up_eq, up_ne, n_shl, n_shr, b2_some, let_e, ob_some, bI_0, bI_a, bI_t, bI_f, if_true, if_false, ite_true, ite_false, true_and, and_true, false_and, and_false, true_or, or_true, false_or, or_false, not_true_eq_false, not_false_eq_true, ite_not, ne_eq, Bool.true_eq_false, Bool.false_eq_true, reduceCtorEq, decide_true, decide_false, Bool.and_true, Bool.and_false, Bool.true_and, Bool.false_and, Bool.or_true, Bool.or_false, Bool.not_true, Bool.not_false, Nat.add_zero, Nat.zero_add, eq_self, Nat.not_lt_zero, Nat.reduceAdd, Nat.reduceMul, Nat.reduceSub, Nat.reduceDiv, Nat.reduceMod, Nat.reduceAnd, Nat.reduceXor, Nat.reduceEqDiff, Nat.reducePow, lt_T, lt_F, le_T, le_F, eq_F, M.2.1, eH, o1, o2, o3, ne]
        rw [lN_div (by simp only [Nat.reducePow]; omega) (by simp only [Nat.reducePow]; omega)]
      · have : f = 1 := by omega
        subst this
        simp (disch := omega) only [↓reduceIte, ↓q_m1, ↓q_m2, k_o, k_0, k_1, k_2, k_3, k_4, k_5, k_6, k_7, k_8, k_9, k_10, k_11, k_16, k_17, k_19, k_20, k_24, k_26, k_27, k_30, k_32, k_33, k_35, k_40, k_43, k_48, k_50, k_57, k_60, k_64, k_81, k_86, k_34, k_66, k_322, k_97, k_99, k_100, k_122, k_128, k_160, k_161, k_255, k_256, k_512, k_580, k_600, k_1000, k_4096, k_far, k_o, nI_add, n_mul, n_sub, n_div, n_rem, n_lt, n_le, n_eq, n_cl, n_and, n_or, n_xor, m1_lt, lt_m1, m1_eq, eq_m1, le_m1, m1_le, m2_eq, up_eq, up_ne, n_shl, n_shr, b2_some, let_e, ob_some, bI_0, bI_a, bI_t, bI_f, if_true, if_false, ite_true, ite_false, true_and, and_true, false_and, and_false, true_or, or_true, false_or, or_false, not_true_eq_false, not_false_eq_true, ite_not, ne_eq, Bool.true_eq_false, Bool.false_eq_true, reduceCtorEq, decide_true, decide_false, Bool.and_true, Bool.and_false, Bool.true_and, Bool.false_and, Bool.or_true, Bool.or_false, Bool.not_true, Bool.not_false, Nat.add_zero, Nat.zero_add, eq_self, Nat.not_lt_zero, Nat.reduceAdd, Nat.reduceMul, Nat.reduceSub, Nat.reduceDiv, Nat.reduceMod, Nat.reduceAnd, Nat.reduceXor, Nat.reduceEqDiff, Nat.reducePow, lt_T, lt_F, le_T, le_F, eq_F, M.2.1, eH, o1, o2, o3, ne]
        rw [lN_div (by simp only [Nat.reducePow]; omega) (by simp only [Nat.reducePow]; omega)]
  | succ d ih =>
    intro s B fuel hs hf hB
    obtain ⟨g, rfl⟩ : ∃ g, fuel = g + 1 := ⟨fuel - 1, by omega⟩
    have o1 := m_lasts k M (S := s) (by omega)
    have o2 := m_lasts k M hB
    have b1 := vlS_b k s
    have b2 := vlS_b k B
    have o3 := m_ones (s := s) (by omega) h
    have o4 := m_ones (s := B) (by omega) h
    have l1 := ones8_le s
    have l2 := ones8_le B
    have t1 : vlS β s < 2 ^ 31 := by simp only [Nat.reducePow]; omega
    have t2 : vlS β B < 2 ^ 31 := by simp only [Nat.reducePow]; omega
    have el : ls (vlS β) ones8 n (d + 1) s B = ls (vlS β) ones8 n d (s + 1) (lsI (vlS β) ones8 n s B) := rfl
    have K := ih (s + 1) (lsI (vlS β) ones8 n s B) g (by omega) (by omega) (by unfold lsI; split <;> omega)
    rw [el, ← K]
    have eY : (ones8 s ≤ n ∧ (vlS β B < vlS β s ∨ (vlS β s = vlS β B ∧ ones8 s < ones8 B))) → lsI (vlS β) ones8 n s B = s := fun z => if_pos z
    have eN : ¬ (ones8 s ≤ n ∧ (vlS β B < vlS β s ∨ (vlS β s = vlS β B ∧ ones8 s < ones8 B))) → lsI (vlS β) ones8 n s B = B := fun z => if_neg z
    generalize eF : qX12_last_42 g = F
    unfold qX12_last_42
    by_cases q1 : n < ones8 s
    · rw [eN (by omega)]
      simp (disch := omega) only [↓reduceIte, ↓q_m1, ↓q_m2, k_o, k_0, k_1, k_2, k_3, k_4, k_5, k_6, k_7, k_8, k_9, k_10, k_11, k_16, k_17, k_19, k_20, k_24, k_26, k_27, k_30, k_32, k_33, k_35, k_40, k_43, k_48, k_50, k_57, k_60, k_64, k_81, k_86, k_34, k_66, k_322, k_97, k_99, k_100, k_122, k_128, k_160, k_161, k_255, k_256, k_512, k_580, k_600, k_1000, k_4096, k_far, k_o, nI_add, n_mul, n_sub, n_div, n_rem, n_lt, n_le, n_eq, n_cl, n_and, n_or, n_xor, m1_lt, lt_m1, m1_eq, eq_m1, le_m1, m1_le, m2_eq, up_eq, up_ne, n_shl, n_shr, b2_some, let_e, ob_some, bI_0, bI_a, bI_t, bI_f, if_true, if_false, ite_true, ite_false, true_and, and_true, false_and, and_false, true_or, or_true, false_or, or_false, not_true_eq_false, not_false_eq_true, ite_not, ne_eq, Bool.true_eq_false, Bool.false_eq_true, reduceCtorEq, decide_true, decide_false, Bool.and_true, Bool.and_false, Bool.true_and, Bool.false_and, Bool.or_true, Bool.or_false, Bool.not_true, Bool.not_false, Nat.add_zero, Nat.zero_add, eq_self, Nat.not_lt_zero, Nat.reduceAdd, Nat.reduceMul, Nat.reduceSub, Nat.reduceDiv, Nat.reduceMod, Nat.reduceAnd, Nat.reduceXor, Nat.reduceEqDiff, Nat.reducePow, lt_T, lt_F, le_T, le_F, eq_F, M.2.1, eH, o1, o2, o3, eF]
    · by_cases q2 : vlS β B < vlS β s
      · rw [eY ⟨by omega, Or.inl q2⟩]
        simp (disch := omega) only [↓reduceIte, ↓q_m1, ↓q_m2, k_o, k_0, k_1, k_2, k_3, k_4, k_5, k_6, k_7, k_8, k_9, k_10, k_11, k_16, k_17, k_19, k_20, k_24, k_26, k_27, k_30, k_32, k_33, k_35, k_40, k_43, k_48, k_50, k_57, k_60, k_64, k_81, k_86, k_34, k_66, k_322, k_97, k_99, k_100, k_122, k_128, k_160, k_161, k_255, k_256, k_512, k_580, k_600, k_1000, k_4096, k_far, k_o, nI_add, n_mul, n_sub, n_div, n_rem, n_lt, n_le, n_eq, n_cl, n_and, n_or, n_xor, m1_lt, lt_m1, m1_eq, eq_m1, le_m1, m1_le, m2_eq, up_eq, up_ne, n_shl, n_shr, b2_some, let_e, ob_some, bI_0, bI_a, bI_t, bI_f, if_true, if_false, ite_true, ite_false, true_and, and_true, false_and, and_false, true_or, or_true, false_or, or_false, not_true_eq_false, not_false_eq_true, ite_not, ne_eq, Bool.true_eq_false, Bool.false_eq_true, reduceCtorEq, decide_true, decide_false, Bool.and_true, Bool.and_false, Bool.true_and, Bool.false_and, Bool.or_true, Bool.or_false, Bool.not_true, Bool.not_false, Nat.add_zero, Nat.zero_add, eq_self, Nat.not_lt_zero, Nat.reduceAdd, Nat.reduceMul, Nat.reduceSub, Nat.reduceDiv, Nat.reduceMod, Nat.reduceAnd, Nat.reduceXor, Nat.reduceEqDiff, Nat.reducePow, lt_T, lt_F, le_T, le_F, eq_F, M.2.1, eH, o1, o2, o3, l_cmpg, l_gt t1 t2, q2, eF]
      · by_cases q3 : vlS β s = vlS β B
        · by_cases q4 : ones8 s < ones8 B
          · rw [eY ⟨by omega, Or.inr ⟨q3, q4⟩⟩]
            simp (disch := omega) only [↓reduceIte, ↓q_m1, ↓q_m2, k_o, k_0, k_1, k_2, k_3, k_4, k_5, k_6, k_7, k_8, k_9, k_10, k_11, k_16, k_17, k_19, k_20, k_24, k_26, k_27, k_30, k_32, k_33, k_35, k_40, k_43, k_48, k_50, k_57, k_60, k_64, k_81, k_86, k_34, k_66, k_322, k_97, k_99, k_100, k_122, k_128, k_160, k_161, k_255, k_256, k_512, k_580, k_600, k_1000, k_4096, k_far, k_o, nI_add, n_mul, n_sub, n_div, n_rem, n_lt, n_le, n_eq, n_cl, n_and, n_or, n_xor, m1_lt, lt_m1, m1_eq, eq_m1, le_m1, m1_le, m2_eq, up_eq, up_ne, n_shl, n_shr, b2_some, let_e, ob_some, bI_0, bI_a, bI_t, bI_f, if_true, if_false, ite_true, ite_false, true_and, and_true, false_and, and_false, true_or, or_true, false_or, or_false, not_true_eq_false, not_false_eq_true, ite_not, ne_eq, Bool.true_eq_false, Bool.false_eq_true, reduceCtorEq, decide_true, decide_false, Bool.and_true, Bool.and_false, Bool.true_and, Bool.false_and, Bool.or_true, Bool.or_false, Bool.not_true, Bool.not_false, Nat.add_zero, Nat.zero_add, eq_self, Nat.not_lt_zero, Nat.reduceAdd, Nat.reduceMul, Nat.reduceSub, Nat.reduceDiv, Nat.reduceMod, Nat.reduceAnd, Nat.reduceXor, Nat.reduceEqDiff, Nat.reducePow, lt_T, lt_F, le_T, le_F, eq_F, M.2.1, eH, o1, o2, o3, o4, l_cmpg, l_gt t1 t2, q2, l_cmp0, l_eq0 t1 t2, eq_true q3, eF]
          · rw [eN (by omega)]
            simp (disch := omega) only [↓reduceIte, ↓q_m1, ↓q_m2, k_o, k_0, k_1, k_2, k_3, k_4, k_5, k_6, k_7, k_8, k_9, k_10, k_11, k_16, k_17, k_19, k_20, k_24, k_26, k_27, k_30, k_32, k_33, k_35, k_40, k_43, k_48, k_50, k_57, k_60, k_64, k_81, k_86, k_34, k_66, k_322, k_97, k_99, k_100, k_122, k_128, k_160, k_161, k_255, k_256, k_512, k_580, k_600, k_1000, k_4096, k_far, k_o, nI_add, n_mul, n_sub, n_div, n_rem, n_lt, n_le, n_eq, n_cl, n_and, n_or, n_xor, m1_lt, lt_m1, m1_eq, eq_m1, le_m1, m1_le, m2_eq, up_eq, up_ne, n_shl, n_shr, b2_some, let_e, ob_some, bI_0, bI_a, bI_t, bI_f, if_true, if_false, ite_true, ite_false, true_and, and_true, false_and, and_false, true_or, or_true, false_or, or_false, not_true_eq_false, not_false_eq_true, ite_not, ne_eq, Bool.true_eq_false, Bool.false_eq_true, reduceCtorEq, decide_true, decide_false, Bool.and_true, Bool.and_false, Bool.true_and, Bool.false_and, Bool.or_true, Bool.or_false, Bool.not_true, Bool.not_false, Nat.add_zero, Nat.zero_add, eq_self, Nat.not_lt_zero, Nat.reduceAdd, Nat.reduceMul, Nat.reduceSub, Nat.reduceDiv, Nat.reduceMod, Nat.reduceAnd, Nat.reduceXor, Nat.reduceEqDiff, Nat.reducePow, lt_T, lt_F, le_T, le_F, eq_F, M.2.1, eH, o1, o2, o3, o4, l_cmpg, l_gt t1 t2, q2, l_cmp0, l_eq0 t1 t2, eq_true q3, eF]
        · rw [eN (by omega)]
          simp (disch := omega) only [↓reduceIte, ↓q_m1, ↓q_m2, k_o, k_0, k_1, k_2, k_3, k_4, k_5, k_6, k_7, k_8, k_9, k_10, k_11, k_16, k_17, k_19, k_20, k_24, k_26, k_27, k_30, k_32, k_33, k_35, k_40, k_43, k_48, k_50, k_57, k_60, k_64, k_81, k_86, k_34, k_66, k_322, k_97, k_99, k_100, k_122, k_128, k_160, k_161, k_255, k_256, k_512, k_580, k_600, k_1000, k_4096, k_far, k_o, nI_add, n_mul, n_sub, n_div, n_rem, n_lt, n_le, n_eq, n_cl, n_and, n_or, n_xor, m1_lt, lt_m1, m1_eq, eq_m1, le_m1, m1_le, m2_eq, up_eq, up_ne, n_shl, n_shr, b2_some, let_e, ob_some, bI_0, bI_a, bI_t, bI_f, if_true, if_false, ite_true, ite_false, true_and, and_true, false_and, and_false, true_or, or_true, false_or, or_false, not_true_eq_false, not_false_eq_true, ite_not, ne_eq, Bool.true_eq_false, Bool.false_eq_true, reduceCtorEq, decide_true, decide_false, Bool.and_true, Bool.and_false, Bool.true_and, Bool.false_and, Bool.or_true, Bool.or_false, Bool.not_true, Bool.not_false, Nat.add_zero, Nat.zero_add, eq_self, Nat.not_lt_zero, Nat.reduceAdd, Nat.reduceMul, Nat.reduceSub, Nat.reduceDiv, Nat.reduceMod, Nat.reduceAnd, Nat.reduceXor, Nat.reduceEqDiff, Nat.reducePow, lt_T, lt_F, le_T, le_F, eq_F, M.2.1, eH, o1, o2, o3, l_cmpg, l_gt t1 t2, q2, l_cmp0, l_eq0 t1 t2, eq_false q3, eF]
end LA
theorem ones8_H {S H : Nat} (hH : H ≤ 8) (h : ∀ r, H ≤ r → S.testBit r = false) : ones8 S = fb_ct (fun r => S.testBit r) H := ct_skip hH (fun u h1 _ => h u h1)
theorem last_eq {β : qB} (k : bOK β) {n G : Nat} (I : gdI (bR β) (bh β) n G) : ls (vlS β) ones8 n (2 ^ bh β - 1) 1 0 = G := by
  have hH := k.H
  obtain ⟨a1, a2, a3, a4, a5, a6⟩ := I
  have hp : 0 < 2 ^ bh β := Nat.pow_pos (by omega)
  obtain ⟨b1, b2, b3⟩ := ls_best (V := vlS β) (C := ones8) (n := n) (d := 2 ^ bh β - 1) (i := 1) (b := 0) (by omega) (by show fb_ct (fun k => (0 : Nat).testBit k) 8 ≤ n; rw [fb_ct_zero.mpr (fun k _ => Nat.zero_testBit k)]; omega) (fun s hs hc => by
    have : s = 0 := by omega
    subst this
    exact Or.inr ⟨rfl, Or.inr ⟨rfl, Nat.le_refl _⟩⟩)
  rw [show 1 + (2 ^ bh β - 1) = 2 ^ bh β by omega] at b1 b3
  generalize ls (vlS β) ones8 n (2 ^ bh β - 1) 1 0 = X at *
  have hG : G < 2 ^ bh β := by
    by_cases z : G < 2 ^ bh β
    · exact z
    · obtain ⟨i, hi1, hi2⟩ := Nat.exists_ge_and_testBit_of_ge_two_pow (Nat.not_lt.mp z)
      rw [a2 i hi1] at hi2
      cases hi2
  have hX0 : ∀ r, bh β ≤ r → X.testBit r = false := fun r hr => Nat.testBit_lt_two_pow (Nat.lt_of_lt_of_le b1 (Nat.pow_le_pow_right (by omega) hr))
  have oG := ones8_H hH.2 a2
  have oX := ones8_H hH.2 hX0
  have best := ex_best (w := bR β) (H := bh β) (n := n) (G := fun r => G.testBit r) hH.2 (fun r hr => (k.2.2.2.2.2.1 r (by omega)).2) a2 a3 a4 a5 a6 _ (fun r => X.testBit r) hX0 (by rw [← oX]; exact b2) rfl
  have gb := b3 G hG (by rw [oG]; exact a5)
  have eX : rowB (fun r => X.testBit r) = X := (rowB_eq (Nat.lt_of_lt_of_le b1 (Nat.le_trans (Nat.pow_le_pow_right (by omega) hH.2) (by decide))) (fun _ _ => rfl)).symm
  have eG : rowB (fun r => G.testBit r) = G := (rowB_eq a1 (fun _ _ => rfl)).symm
  unfold btr at best
  rw [eX, eG, ← oX, ← oG] at best
  have vX : vl (bR β) (bh β) (fun r => X.testBit r) = vlS β X := rfl
  have vG : vl (bR β) (bh β) (fun r => G.testBit r) = vlS β G := rfl
  rw [vX, vG] at best
  omega
theorem P_14 : ∀ h, qR h → ∀ x1 x2 x3 : Int32, ∃ (r : Int64) (h1 h2 : qm_H), qX11_last 0 x1 x2 x3 h = some (r, h1) ∧ qX12_last 62 x1 x2 x3 h1 = some (r, h2) ∧ qR h2 := by
  intro h R x1 x2 x3
  have hE := e0 (qFr.refl qScr h)
  rcases c_bask R x1 with ⟨y1, y2, _⟩ | ⟨i, β, hi, rfl, k, C, Z, y1, y2, _⟩
  · refine ⟨-1, h, qm_seti h 62 0 (nI 0), ?_, ?_, R.mvm (em0 h)⟩
    · unfold qX11_last
      simp (disch := omega) only [↓q_m1, ↓q_m2, k_o, k_0, k_1, k_2, k_3, k_4, k_5, k_6, k_7, k_8, k_9, k_10, k_11, k_16, k_17, k_19, k_20, k_24, k_26, k_27, k_30, k_32, k_33, k_35, k_40, k_43, k_48, k_50, k_57, k_60, k_64, k_81, k_86, k_34, k_66, k_322, k_97, k_99, k_100, k_122, k_128, k_160, k_161, k_255, k_256, k_512, k_580, k_600, k_1000, k_4096, k_far, k_o, nI_add, n_mul, n_sub, n_div, n_rem, n_lt, n_le, n_eq, n_cl, n_and, n_or, n_xor, m1_lt, lt_m1, m1_eq, eq_m1, le_m1, m1_le, m2_eq, up_eq, up_ne, n_shl, n_shr, b2_some, let_e, ob_some, bI_0, bI_a, bI_t, bI_f, if_true, if_false, ite_true, ite_false, true_and, and_true, false_and, and_false, true_or, or_true, false_or, or_false, not_true_eq_false, not_false_eq_true, ite_not, ne_eq, Bool.true_eq_false, Bool.false_eq_true, reduceCtorEq, decide_true, decide_false, Bool.and_true, Bool.and_false, Bool.true_and, Bool.false_and, Bool.or_true, Bool.or_false, Bool.not_true, Bool.not_false, Nat.add_zero, Nat.zero_add, eq_self, Nat.not_lt_zero, Nat.reduceAdd, Nat.reduceMul, Nat.reduceSub, Nat.reduceDiv, Nat.reduceMod, Nat.reduceAnd, Nat.reduceXor, Nat.reduceEqDiff, Nat.reducePow, y1, om_n]
    · unfold qX12_last
      simp (disch := omega) only [↓q_m1, ↓q_m2, k_o, k_0, k_1, k_2, k_3, k_4, k_5, k_6, k_7, k_8, k_9, k_10, k_11, k_16, k_17, k_19, k_20, k_24, k_26, k_27, k_30, k_32, k_33, k_35, k_40, k_43, k_48, k_50, k_57, k_60, k_64, k_81, k_86, k_34, k_66, k_322, k_97, k_99, k_100, k_122, k_128, k_160, k_161, k_255, k_256, k_512, k_580, k_600, k_1000, k_4096, k_far, k_o, nI_add, n_mul, n_sub, n_div, n_rem, n_lt, n_le, n_eq, n_cl, n_and, n_or, n_xor, m1_lt, lt_m1, m1_eq, eq_m1, le_m1, m1_le, m2_eq, up_eq, up_ne, n_shl, n_shr, b2_some, let_e, ob_some, bI_0, bI_a, bI_t, bI_f, if_true, if_false, ite_true, ite_false, true_and, and_true, false_and, and_false, true_or, or_true, false_or, or_false, not_true_eq_false, not_false_eq_true, ite_not, ne_eq, Bool.true_eq_false, Bool.false_eq_true, reduceCtorEq, decide_true, decide_false, Bool.and_true, Bool.and_false, Bool.true_and, Bool.false_and, Bool.or_true, Bool.or_false, Bool.not_true, Bool.not_false, Nat.add_zero, Nat.zero_add, eq_self, Nat.not_lt_zero, Nat.reduceAdd, Nat.reduceMul, Nat.reduceSub, Nat.reduceDiv, Nat.reduceMod, Nat.reduceAnd, Nat.reduceXor, Nat.reduceEqDiff, Nat.reducePow, y2 _ hE]
  · obtain ⟨h2, w1, w2, M, S, w3⟩ := y2 _ hE
    have hR : qR h2 := R.mvm ((em0 h).trans (qHd.e w2))
    rcases i_cases x2 with hx | ⟨n, hn, rfl⟩
    · refine ⟨-1, h, h2, ?_, ?_, hR⟩
      · unfold qX11_last
        simp (disch := omega) only [↓reduceIte, ↓q_m1, ↓q_m2, k_o, k_0, k_1, k_2, k_3, k_4, k_5, k_6, k_7, k_8, k_9, k_10, k_11, k_16, k_17, k_19, k_20, k_24, k_26, k_27, k_30, k_32, k_33, k_35, k_40, k_43, k_48, k_50, k_57, k_60, k_64, k_81, k_86, k_34, k_66, k_322, k_97, k_99, k_100, k_122, k_128, k_160, k_161, k_255, k_256, k_512, k_580, k_600, k_1000, k_4096, k_far, k_o, nI_add, n_mul, n_sub, n_div, n_rem, n_lt, n_le, n_eq, n_cl, n_and, n_or, n_xor, m1_lt, lt_m1, m1_eq, eq_m1, le_m1, m1_le, m2_eq, up_eq, up_ne, n_shl, n_shr, b2_some, let_e, ob_some, bI_0, bI_a, bI_t, bI_f, if_true, if_false, ite_true, ite_false, true_and, and_true, false_and, and_false, true_or, or_true, false_or, or_false, not_true_eq_false, not_false_eq_true, ite_not, ne_eq, Bool.true_eq_false, Bool.false_eq_true, reduceCtorEq, decide_true, decide_false, Bool.and_true, Bool.and_false, Bool.true_and, Bool.false_and, Bool.or_true, Bool.or_false, Bool.not_true, Bool.not_false, Nat.add_zero, Nat.zero_add, eq_self, Nat.not_lt_zero, Nat.reduceAdd, Nat.reduceMul, Nat.reduceSub, Nat.reduceDiv, Nat.reduceMod, Nat.reduceAnd, Nat.reduceXor, Nat.reduceEqDiff, Nat.reducePow, lt_T, lt_F, le_T, le_F, eq_F, y1, om_s, ng_lt hx]
      · unfold qX12_last
        simp (disch := omega) only [↓reduceIte, ↓q_m1, ↓q_m2, k_o, k_0, k_1, k_2, k_3, k_4, k_5, k_6, k_7, k_8, k_9, k_10, k_11, k_16, k_17, k_19, k_20, k_24, k_26, k_27, k_30, k_32, k_33, k_35, k_40, k_43, k_48, k_50, k_57, k_60, k_64, k_81, k_86, k_34, k_66, k_322, k_97, k_99, k_100, k_122, k_128, k_160, k_161, k_255, k_256, k_512, k_580, k_600, k_1000, k_4096, k_far, k_o, nI_add, n_mul, n_sub, n_div, n_rem, n_lt, n_le, n_eq, n_cl, n_and, n_or, n_xor, m1_lt, lt_m1, m1_eq, eq_m1, le_m1, m1_le, m2_eq, up_eq, up_ne, n_shl, n_shr, b2_some, let_e, ob_some, bI_0, bI_a, bI_t, bI_f, if_true, if_false, ite_true, ite_false, true_and, and_true, false_and, and_false, true_or, or_true, false_or, or_false, not_true_eq_false, not_false_eq_true, ite_not, ne_eq, Bool.true_eq_false, Bool.false_eq_true, reduceCtorEq, decide_true, decide_false, Bool.and_true, Bool.and_false, Bool.true_and, Bool.false_and, Bool.or_true, Bool.or_false, Bool.not_true, Bool.not_false, Nat.add_zero, Nat.zero_add, eq_self, Nat.not_lt_zero, Nat.reduceAdd, Nat.reduceMul, Nat.reduceSub, Nat.reduceDiv, Nat.reduceMod, Nat.reduceAnd, Nat.reduceXor, Nat.reduceEqDiff, Nat.reducePow, lt_T, lt_F, le_T, le_F, eq_F, w1, m_in, ng_le hx]
    · by_cases q1 : 8 < n
      · refine ⟨-1, h, h2, ?_, ?_, hR⟩
        · unfold qX11_last
          simp (disch := omega) only [↓reduceIte, ↓q_m1, ↓q_m2, k_o, k_0, k_1, k_2, k_3, k_4, k_5, k_6, k_7, k_8, k_9, k_10, k_11, k_16, k_17, k_19, k_20, k_24, k_26, k_27, k_30, k_32, k_33, k_35, k_40, k_43, k_48, k_50, k_57, k_60, k_64, k_81, k_86, k_34, k_66, k_322, k_97, k_99, k_100, k_122, k_128, k_160, k_161, k_255, k_256, k_512, k_580, k_600, k_1000, k_4096, k_far, k_o, nI_add, n_mul, n_sub, n_div, n_rem, n_lt, n_le, n_eq, n_cl, n_and, n_or, n_xor, m1_lt, lt_m1, m1_eq, eq_m1, le_m1, m1_le, m2_eq, up_eq, up_ne, n_shl, n_shr, b2_some, let_e, ob_some, bI_0, bI_a, bI_t, bI_f, if_true, if_false, ite_true, ite_false, true_and, and_true, false_and, and_false, true_or, or_true, false_or, or_false, not_true_eq_false, not_false_eq_true, ite_not, ne_eq, Bool.true_eq_false, Bool.false_eq_true, reduceCtorEq, decide_true, decide_false, Bool.and_true, Bool.and_false, Bool.true_and, Bool.false_and, Bool.or_true, Bool.or_false, Bool.not_true, Bool.not_false, Nat.add_zero, Nat.zero_add, eq_self, Nat.not_lt_zero, Nat.reduceAdd, Nat.reduceMul, Nat.reduceSub, Nat.reduceDiv, Nat.reduceMod, Nat.reduceAnd, Nat.reduceXor, Nat.reduceEqDiff, Nat.reducePow, lt_T, lt_F, le_T, le_F, eq_F, y1, om_s]
        · unfold qX12_last
          simp (disch := omega) only [↓reduceIte, ↓q_m1, ↓q_m2, k_o, k_0, k_1, k_2, k_3, k_4, k_5, k_6, k_7, k_8, k_9, k_10, k_11, k_16, k_17, k_19, k_20, k_24, k_26, k_27, k_30, k_32, k_33, k_35, k_40, k_43, k_48, k_50, k_57, k_60, k_64, k_81, k_86, k_34, k_66, k_322, k_97, k_99, k_100, k_122, k_128, k_160, k_161, k_255, k_256, k_512, k_580, k_600, k_1000, k_4096, k_far, k_o, nI_add, n_mul, n_sub, n_div, n_rem, n_lt, n_le, n_eq, n_cl, n_and, n_or, n_xor, m1_lt, lt_m1, m1_eq, eq_m1, le_m1, m1_le, m2_eq, up_eq, up_ne, n_shl, n_shr, b2_some, let_e, ob_some, bI_0, bI_a, bI_t, bI_f, if_true, if_false, ite_true, ite_false, true_and, and_true, false_and, and_false, true_or, or_true, false_or, or_false, not_true_eq_false, not_false_eq_true, ite_not, ne_eq, Bool.true_eq_false, Bool.false_eq_true, reduceCtorEq, decide_true, decide_false, Bool.and_true, Bool.and_false, Bool.true_and, Bool.false_and, Bool.or_true, Bool.or_false, Bool.not_true, Bool.not_false, Nat.add_zero, Nat.zero_add, eq_self, Nat.not_lt_zero, Nat.reduceAdd, Nat.reduceMul, Nat.reduceSub, Nat.reduceDiv, Nat.reduceMod, Nat.reduceAnd, Nat.reduceXor, Nat.reduceEqDiff, Nat.reducePow, lt_T, lt_F, le_T, le_F, eq_F, w1, m_in]
      · rcases i_cases x3 with hx | ⟨f, hf, rfl⟩
        · refine ⟨-1, h, h2, ?_, ?_, hR⟩
          · unfold qX11_last
            simp (disch := omega) only [↓reduceIte, ↓q_m1, ↓q_m2, k_o, k_0, k_1, k_2, k_3, k_4, k_5, k_6, k_7, k_8, k_9, k_10, k_11, k_16, k_17, k_19, k_20, k_24, k_26, k_27, k_30, k_32, k_33, k_35, k_40, k_43, k_48, k_50, k_57, k_60, k_64, k_81, k_86, k_34, k_66, k_322, k_97, k_99, k_100, k_122, k_128, k_160, k_161, k_255, k_256, k_512, k_580, k_600, k_1000, k_4096, k_far, k_o, nI_add, n_mul, n_sub, n_div, n_rem, n_lt, n_le, n_eq, n_cl, n_and, n_or, n_xor, m1_lt, lt_m1, m1_eq, eq_m1, le_m1, m1_le, m2_eq, up_eq, up_ne, n_shl, n_shr, b2_some, let_e, ob_some, bI_0, bI_a, bI_t, bI_f, if_true, if_false, ite_true, ite_false, true_and, and_true, false_and, and_false, true_or, or_true, false_or, or_false, not_true_eq_false, not_false_eq_true, ite_not, ne_eq, Bool.true_eq_false, Bool.false_eq_true, reduceCtorEq, decide_true, decide_false, Bool.and_true, Bool.and_false, Bool.true_and, Bool.false_and, Bool.or_true, Bool.or_false, Bool.not_true, Bool.not_false, Nat.add_zero, Nat.zero_add, eq_self, Nat.not_lt_zero, Nat.reduceAdd, Nat.reduceMul, Nat.reduceSub, Nat.reduceDiv, Nat.reduceMod, Nat.reduceAnd, Nat.reduceXor, Nat.reduceEqDiff, Nat.reducePow, lt_T, lt_F, le_T, le_F, eq_F, y1, om_s, ng_lt hx]
          · unfold qX12_last
            simp (disch := omega) only [↓reduceIte, ↓q_m1, ↓q_m2, k_o, k_0, k_1, k_2, k_3, k_4, k_5, k_6, k_7, k_8, k_9, k_10, k_11, k_16, k_17, k_19, k_20, k_24, k_26, k_27, k_30, k_32, k_33, k_35, k_40, k_43, k_48, k_50, k_57, k_60, k_64, k_81, k_86, k_34, k_66, k_322, k_97, k_99, k_100, k_122, k_128, k_160, k_161, k_255, k_256, k_512, k_580, k_600, k_1000, k_4096, k_far, k_o, nI_add, n_mul, n_sub, n_div, n_rem, n_lt, n_le, n_eq, n_cl, n_and, n_or, n_xor, m1_lt, lt_m1, m1_eq, eq_m1, le_m1, m1_le, m2_eq, up_eq, up_ne, n_shl, n_shr, b2_some, let_e, ob_some, bI_0, bI_a, bI_t, bI_f, if_true, if_false, ite_true, ite_false, true_and, and_true, false_and, and_false, true_or, or_true, false_or, or_false, not_true_eq_false, not_false_eq_true, ite_not, ne_eq, Bool.true_eq_false, Bool.false_eq_true, reduceCtorEq, decide_true, decide_false, Bool.and_true, Bool.and_false, Bool.true_and, Bool.false_and, Bool.or_true, Bool.or_false, Bool.not_true, Bool.not_false, Nat.add_zero, Nat.zero_add, eq_self, Nat.not_lt_zero, Nat.reduceAdd, Nat.reduceMul, Nat.reduceSub, Nat.reduceDiv, Nat.reduceMod, Nat.reduceAnd, Nat.reduceXor, Nat.reduceEqDiff, Nat.reducePow, lt_T, lt_F, le_T, le_F, eq_F, w1, m_in, ng_le hx]
        · by_cases q2 : 2 < f
          · refine ⟨-1, h, h2, ?_, ?_, hR⟩
            · unfold qX11_last
              simp (disch := omega) only [↓reduceIte, ↓q_m1, ↓q_m2, k_o, k_0, k_1, k_2, k_3, k_4, k_5, k_6, k_7, k_8, k_9, k_10, k_11, k_16, k_17, k_19, k_20, k_24, k_26, k_27, k_30, k_32, k_33, k_35, k_40, k_43, k_48, k_50, k_57, k_60, k_64, k_81, k_86, k_34, k_66, k_322, k_97, k_99, k_100, k_122, k_128, k_160, k_161, k_255, k_256, k_512, k_580, k_600, k_1000, k_4096, k_far, k_o, nI_add, n_mul, n_sub, n_div, n_rem, n_lt, n_le, n_eq, n_cl, n_and, n_or, n_xor, m1_lt, lt_m1, m1_eq, eq_m1, le_m1, m1_le, m2_eq, up_eq, up_ne, n_shl, n_shr, b2_some, let_e, ob_some, bI_0, bI_a, bI_t, bI_f, if_true, if_false, ite_true, ite_false, true_and, and_true, false_and, and_false, true_or, or_true, false_or, or_false, not_true_eq_false, not_false_eq_true, ite_not, ne_eq, Bool.true_eq_false, Bool.false_eq_true, reduceCtorEq, decide_true, decide_false, Bool.and_true, Bool.and_false, Bool.true_and, Bool.false_and, Bool.or_true, Bool.or_false, Bool.not_true, Bool.not_false, Nat.add_zero, Nat.zero_add, eq_self, Nat.not_lt_zero, Nat.reduceAdd, Nat.reduceMul, Nat.reduceSub, Nat.reduceDiv, Nat.reduceMod, Nat.reduceAnd, Nat.reduceXor, Nat.reduceEqDiff, Nat.reducePow, lt_T, lt_F, le_T, le_F, eq_F, y1, om_s]
            · unfold qX12_last
              simp (disch := omega) only [↓reduceIte, ↓q_m1, ↓q_m2, k_o, k_0, k_1, k_2, k_3, k_4, k_5, k_6, k_7, k_8, k_9, k_10, k_11, k_16, k_17, k_19, k_20, k_24, k_26, k_27, k_30, k_32, k_33, k_35, k_40, k_43, k_48, k_50, k_57, k_60, k_64, k_81, k_86, k_34, k_66, k_322, k_97, k_99, k_100, k_122, k_128, k_160, k_161, k_255, k_256, k_512, k_580, k_600, k_1000, k_4096, k_far, k_o, nI_add, n_mul, n_sub, n_div, n_rem, n_lt, n_le, n_eq, n_cl, n_and, n_or, n_xor, m1_lt, lt_m1, m1_eq, eq_m1, le_m1, m1_le, m2_eq, up_eq, up_ne, n_shl, n_shr, b2_some, let_e, ob_some, bI_0, bI_a, bI_t, bI_f, if_true, if_false, ite_true, ite_false, true_and, and_true, false_and, and_false, true_or, or_true, false_or, or_false, not_true_eq_false, not_false_eq_true, ite_not, ne_eq, Bool.true_eq_false, Bool.false_eq_true, reduceCtorEq, decide_true, decide_false, Bool.and_true, Bool.and_false, Bool.true_and, Bool.false_and, Bool.or_true, Bool.or_false, Bool.not_true, Bool.not_false, Nat.add_zero, Nat.zero_add, eq_self, Nat.not_lt_zero, Nat.reduceAdd, Nat.reduceMul, Nat.reduceSub, Nat.reduceDiv, Nat.reduceMod, Nat.reduceAnd, Nat.reduceXor, Nat.reduceEqDiff, Nat.reducePow, lt_T, lt_F, le_T, le_F, eq_F, w1, m_in]
          · have hH := k.H
            obtain ⟨G, o1, I⟩ := c_mf4 k C (n := n) (by omega) n 0 0 qm_N (by omega) (by unfold qm_N; omega) ⟨by omega, fun r _ => Nat.zero_testBit r, fun r _ z => (by rw [Nat.zero_testBit] at z; cases z), fun r r' _ _ z => (by rw [Nat.zero_testBit] at z; cases z), by rw [fb_ct_zero.mpr (fun r _ => Nat.zero_testBit r)]; omega, fun z => absurd z (Nat.not_lt_zero _)⟩
            have eP : 2 ^ bh β ≤ 256 := Nat.pow_le_pow_right (show 0 < 2 by omega) hH.2
            have hp : 0 < 2 ^ bh β := Nat.pow_pos (by omega)
            have o2 := m_last42 k M (n := n) (f := f) (by omega) (by omega) (2 ^ bh β - 1) 1 0 qm_N (by omega) (by unfold qm_N; omega) (by omega)
            rw [last_eq k I] at o2
            have b1 := vlS_b k G
            have b2 := p10_b k
            refine ⟨laV β f G, h, h2, ?_, ?_, hR⟩
            · have o3 : qX0_soundWays (8 + 11 * i) (nI G) h = some (lN (vlS β G), h) := by
                unfold qX0_soundWays
                exact c_sound_l k C I.1 (bh β) 0 qm_N (by omega) (by unfold qm_N; omega)
              have o4 : qX0_allWays (8 + 11 * i) h = some (lN (10 ^ bh β), h) := by
                unfold qX0_allWays
                exact c_all_l k C (bh β) 0 qm_N (by omega) (by unfold qm_N; omega)
              have o5 := c_gcd (x := vlS β G) (y := 10 ^ bh β) (by simp only [Nat.reducePow]; omega) (by simp only [Nat.reducePow]; omega) h
              have g0 : 0 < Nat.gcd (vlS β G) (10 ^ bh β) := Nat.gcd_pos_of_pos_left _ b1.1
              have g1 : Nat.gcd (vlS β G) (10 ^ bh β) ≤ vlS β G := Nat.gcd_le_left _ b1.1
              have ne : ¬ lN (Nat.gcd (vlS β G) (10 ^ bh β)) = (0 : Int64) := by
                rw [l_k0, lN_eq (by simp only [Nat.reducePow]; omega) (by omega)]
                omega
              have gt : ((0 : Int64) < lN (Nat.gcd (vlS β G) (10 ^ bh β))) = True := by
                rw [l_k0]
                exact eq_true ((lN_lt (by omega) (by simp only [Nat.reducePow]; omega)).mpr g0)
              have hG8 := I.1
              unfold qX11_last qX0_mendedFirst laV
              by_cases q2 : f = 2
              · subst q2
                simp (disch := omega) only [↓reduceIte, ↓q_m1, ↓q_m2, k_o, k_0, k_1, k_2, k_3, k_4, k_5, k_6, k_7, k_8, k_9, k_10, k_11, k_16, k_17, k_19, k_20, k_24, k_26, k_27, k_30, k_32, k_33, k_35, k_40, k_43, k_48, k_50, k_57, k_60, k_64, k_81, k_86, k_34, k_66, k_322, k_97, k_99, k_100, k_122, k_128, k_160, k_161, k_255, k_256, k_512, k_580, k_600, k_1000, k_4096, k_far, k_o, nI_add, n_mul, n_sub, n_div, n_rem, n_lt, n_le, n_eq, n_cl, n_and, n_or, n_xor, m1_lt, lt_m1, m1_eq, eq_m1, le_m1, m1_le, m2_eq, up_eq, up_ne, n_shl, n_shr, b2_some, let_e, ob_some, bI_0, bI_a, bI_t, bI_f, if_true, if_false, ite_true, ite_false, true_and, and_true, false_and, and_false, true_or, or_true, false_or, or_false, not_true_eq_false, not_false_eq_true, ite_not, ne_eq, Bool.true_eq_false, Bool.false_eq_true, reduceCtorEq, decide_true, decide_false, Bool.and_true, Bool.and_false, Bool.true_and, Bool.false_and, Bool.or_true, Bool.or_false, Bool.not_true, Bool.not_false, Nat.add_zero, Nat.zero_add, eq_self, Nat.not_lt_zero, Nat.reduceAdd, Nat.reduceMul, Nat.reduceSub, Nat.reduceDiv, Nat.reduceMod, Nat.reduceAnd, Nat.reduceXor, Nat.reduceEqDiff, Nat.reducePow, lt_T, lt_F, le_T, le_F, eq_F, y1, om_s, o1]
                rw [nI_l (by simp only [Nat.reducePow]; omega)]
              · by_cases q0 : f = 0
                · subst q0
                  simp (disch := omega) only [↓reduceIte, ↓q_m1, ↓q_m2, k_o, k_0, k_1, k_2, k_3, k_4, k_5, k_6, k_7, k_8, k_9, k_10, k_11, k_16, k_17, k_19, k_20, k_24, k_26, k_27, k_30, k_32, k_33, k_35, k_40, k_43, k_48, k_50, k_57, k_60, k_64, k_81, k_86, k_34, k_66, k_322, k_97, k_99, k_100, k_122, k_128, k_160, k_161, k_255, k_256, k_512, k_580, k_600, k_1000, k_4096, k_far, k_o, nI_add, n_mul, n_sub, n_div, n_rem, n_lt, n_le, n_eq, n_cl, n_and, n_or, n_xor, m1_lt, lt_m1, m1_eq, eq_m1, le_m1, m1_le, m2_eq, up_eq, up_ne, n_shl, n_shr, b2_some, let_e, ob_some, bI_0, bI_a, bI_t, bI_f, if_true, if_false, ite_true, ite_false, true_and, and_true, false_and, and_false, true_or, or_true, false_or, or_false, not_true_eq_false, not_false_eq_true, ite_not, ne_eq, Bool.true_eq_false, Bool.false_eq_true, reduceCtorEq, decide_true, decide_false, Bool.and_true, Bool.and_false, Bool.true_and, Bool.false_and, Bool.or_true, Bool.or_false, Bool.not_true, Bool.not_false, Nat.add_zero, Nat.zero_add, eq_self, Nat.not_lt_zero, Nat.reduceAdd, Nat.reduceMul, Nat.reduceSub, Nat.reduceDiv, Nat.reduceMod, Nat.reduceAnd, Nat.reduceXor, Nat.reduceEqDiff, Nat.reducePow, lt_T, lt_F, le_T, le_F, eq_F, y1, om_s, o1, o3, o4, o5, l_cmpg, gt, ne]
                  rw [lN_div (by simp only [Nat.reducePow]; omega) (by simp only [Nat.reducePow]; omega)]
                · have : f = 1 := by omega
                  subst this
                  simp (disch := omega) only [↓reduceIte, ↓q_m1, ↓q_m2, k_o, k_0, k_1, k_2, k_3, k_4, k_5, k_6, k_7, k_8, k_9, k_10, k_11, k_16, k_17, k_19, k_20, k_24, k_26, k_27, k_30, k_32, k_33, k_35, k_40, k_43, k_48, k_50, k_57, k_60, k_64, k_81, k_86, k_34, k_66, k_322, k_97, k_99, k_100, k_122, k_128, k_160, k_161, k_255, k_256, k_512, k_580, k_600, k_1000, k_4096, k_far, k_o, nI_add, n_mul, n_sub, n_div, n_rem, n_lt, n_le, n_eq, n_cl, n_and, n_or, n_xor, m1_lt, lt_m1, m1_eq, eq_m1, le_m1, m1_le, m2_eq, up_eq, up_ne, n_shl, n_shr, b2_some, let_e, ob_some, bI_0, bI_a, bI_t, bI_f, if_true, if_false, ite_true, ite_false, true_and, and_true, false_and, and_false, true_or, or_true, false_or, or_false, not_true_eq_false, not_false_eq_true, ite_not, ne_eq, Bool.true_eq_false, Bool.false_eq_true, reduceCtorEq, decide_true, decide_false, Bool.and_true, Bool.and_false, Bool.true_and, Bool.false_and, Bool.or_true, Bool.or_false, Bool.not_true, Bool.not_false, Nat.add_zero, Nat.zero_add, eq_self, Nat.not_lt_zero, Nat.reduceAdd, Nat.reduceMul, Nat.reduceSub, Nat.reduceDiv, Nat.reduceMod, Nat.reduceAnd, Nat.reduceXor, Nat.reduceEqDiff, Nat.reducePow, lt_T, lt_F, le_T, le_F, eq_F, y1, om_s, o1, o3, o4, o5, l_cmpg, gt, ne]
                  rw [lN_div (by simp only [Nat.reducePow]; omega) (by simp only [Nat.reducePow]; omega)]
            · unfold qX12_last
              simp (disch := omega) only [↓reduceIte, ↓q_m1, ↓q_m2, k_o, k_0, k_1, k_2, k_3, k_4, k_5, k_6, k_7, k_8, k_9, k_10, k_11, k_16, k_17, k_19, k_20, k_24, k_26, k_27, k_30, k_32, k_33, k_35, k_40, k_43, k_48, k_50, k_57, k_60, k_64, k_81, k_86, k_34, k_66, k_322, k_97, k_99, k_100, k_122, k_128, k_160, k_161, k_255, k_256, k_512, k_580, k_600, k_1000, k_4096, k_far, k_o, nI_add, n_mul, n_sub, n_div, n_rem, n_lt, n_le, n_eq, n_cl, n_and, n_or, n_xor, m1_lt, lt_m1, m1_eq, eq_m1, le_m1, m1_le, m2_eq, up_eq, up_ne, n_shl, n_shr, b2_some, let_e, ob_some, bI_0, bI_a, bI_t, bI_f, if_true, if_false, ite_true, ite_false, true_and, and_true, false_and, and_false, true_or, or_true, false_or, or_false, not_true_eq_false, not_false_eq_true, ite_not, ne_eq, Bool.true_eq_false, Bool.false_eq_true, reduceCtorEq, decide_true, decide_false, Bool.and_true, Bool.and_false, Bool.true_and, Bool.false_and, Bool.or_true, Bool.or_false, Bool.not_true, Bool.not_false, Nat.add_zero, Nat.zero_add, eq_self, Nat.not_lt_zero, Nat.reduceAdd, Nat.reduceMul, Nat.reduceSub, Nat.reduceDiv, Nat.reduceMod, Nat.reduceAnd, Nat.reduceXor, Nat.reduceEqDiff, Nat.reducePow, lt_T, lt_F, le_T, le_F, eq_F, w1, m_in]
              exact o2
