/-! The other DEEDS. -/
/-- ROD or STAKE t gets thickness T, wear R -/
def bSet (β : qB) (t T R : Nat) : qB := (bw β, bh β, bx β, fun i => if i = t then T else bT β i, fun i => if i = t then R else bR β i, bO β)
theorem bSet_ok {β : qB} (k : bOK β) {t T R : Nat} (hT : T ≤ 9) (hR : R ≤ 9) : bOK (bSet β t T R) := by
  refine ⟨k.1, k.2.1, k.2.2.1, k.2.2.2.1, k.2.2.2.2.1, fun i hi => ⟨?_, ?_⟩, k.2.2.2.2.2.2⟩
  · have := (k.2.2.2.2.2.1 i hi).1
    show (if i = t then T else bT β i) ≤ 9
    split <;> omega
  · have := (k.2.2.2.2.2.1 i hi).2
    show (if i = t then R else bR β i) ≤ 9
    split <;> omega
theorem bC_set {β : qB} {b : Nat} {h : qm_H} (C : bC b β h) {t T R : Nat} (ht : t < 16) : bC b (bSet β t T R) (qm_seti (qm_seti h (b + 1) t (nI T)) (b + 2) t (nI R)) := by
  obtain ⟨a1, a2, a3, a4, a5⟩ := C
  refine ⟨?_, ?_, ?_, fun i hi => ⟨?_, ?_⟩, a5⟩
  · rw [sI_ne (by omega), sI_ne (by omega)]; exact a1
  · rw [sI_ne (by omega), sI_ne (by omega)]; exact a2
  · rw [sI_ne (by omega), sI_ne (by omega)]; exact a3
  · show _ = nI (if i = t then T else bT β i)
    rw [sI_ne (by omega)]
    by_cases q : i = t
    · rw [if_pos q, q, sI_eq]
    · rw [if_neg q, sI_ne (by omega)]
      exact (a4 i hi).1
  · show _ = nI (if i = t then R else bR β i)
    by_cases q : i = t
    · rw [if_pos q, q, sI_eq]
    · rw [if_neg q, sI_ne (by omega), sI_ne (by omega)]
      exact (a4 i hi).2
theorem bM_set {β : qB} {h : qm_H} (M : bM β h) {t T R : Nat} (ht : t < 16) : bM (bSet β t T R) (qm_seti (qm_seti h 74 t (nI T)) 75 t (nI R)) := by
  obtain ⟨a1, a2, a3, a4, a5, a6⟩ := M
  refine ⟨?_, ?_, ?_, ?_, fun i hi => ⟨?_, ?_⟩, fun r hr => ?_⟩
  · rw [sI_ne (by omega), sI_ne (by omega)]; exact a1
  · rw [sI_ne (by omega), sI_ne (by omega)]; exact a2
  · rw [sI_ne (by omega), sI_ne (by omega)]; exact a3
  · rw [sI_ne (by omega), sI_ne (by omega)]; exact a4
  · show _ = nI (if i = t then T else bT β i)
    rw [sI_ne (by omega)]
    by_cases q : i = t
    · rw [if_pos q, q, sI_eq]
    · rw [if_neg q, sI_ne (by omega)]
      exact (a5 i hi).1
  · show _ = nI (if i = t then R else bR β i)
    by_cases q : i = t
    · rw [if_pos q, q, sI_eq]
    · rw [if_neg q, sI_ne (by omega), sI_ne (by omega)]
      exact (a5 i hi).2
  · rw [sI_ne (by omega), sI_ne (by omega)]
    exact a6 r hr
theorem SC_set {σ : qσ} {h : qm_H} (S : SC σ h) {t T R : Nat} (ht : t < 16) : SC (bSet σ.1 t T R, σ.2) (qm_seti (qm_seti h 46 t (nI T)) 47 t (nI R)) := by
  obtain ⟨C, Z, s1, s2, s3⟩ := S
  refine ⟨bC_set C ht, fun c hc => ?_, ?_, ?_, ?_⟩
  · rw [sI_ne (by omega), sI_ne (by omega), sI_ne (by omega), sI_ne (by omega)]
    exact Z c hc
  · rw [sI_ne (by omega), sI_ne (by omega)]; exact s1
  · rw [sI_ne (by omega), sI_ne (by omega)]; exact s2
  · rw [sI_ne (by omega), sI_ne (by omega)]; exact s3
theorem SM_set {σ : qσ} {h : qm_H} (S : SM σ h) {t T R : Nat} (ht : t < 16) : SM (bSet σ.1 t T R, σ.2) (qm_seti (qm_seti h 74 t (nI T)) 75 t (nI R)) := by
  obtain ⟨M, s1, s2, s3⟩ := S
  refine ⟨bM_set M ht, ?_, ?_, ?_⟩
  · rw [sI_ne (by omega), sI_ne (by omega)]; exact s1
  · rw [sI_ne (by omega), sI_ne (by omega)]; exact s2
  · rw [sI_ne (by omega), sI_ne (by omega)]; exact s3
theorem FC2 {h : qm_H} {t : Nat} {x y : Int32} : qFr FCa h (qm_seti (qm_seti h 46 t x) 47 t y) := (qFr.seti (Or.inr (by omega))).trans (qFr.seti (Or.inr (by omega)))
theorem FM2 {h : qm_H} {t : Nat} {x y : Int32} : qFr FMa h (qm_seti (qm_seti h 74 t x) 75 t y) := (qFr.seti (Or.inr (by omega))).trans (qFr.seti (Or.inr (by omega)))
/-- mend (what 1), grow (what 2) -/
theorem z_tend {σ : qσ} (k : bOK σ.1) {s q : Nat} (hs : s ≤ 1) (hq : q < 1000) : (∃ (r : Bool) (σ' : qσ), bOK σ'.1 ∧ (∀ h, SC σ h → ∃ h', qX6_mend 44 (nI s) (nI q) h = some (bI r, h') ∧ SC σ' h' ∧ qFr FCa h h') ∧ ∀ h, SM σ h → ∃ h', qX12_tends 62 (nI 1) (nI s) (nI q) h = some (bI r, h') ∧ SM σ' h' ∧ qFr FMa h h') ∧ ∃ (r : Bool) (σ' : qσ), bOK σ'.1 ∧ (∀ h, SC σ h → ∃ h', qX6_grow 44 (nI s) (nI q) h = some (bI r, h') ∧ SC σ' h' ∧ qFr FCa h h') ∧ ∀ h, SM σ h → ∃ h', qX12_tends 62 (nI 2) (nI s) (nI q) h = some (bI r, h') ∧ SM σ' h' ∧ qFr FMa h h' := by
  have hW := k.W
  have hH := k.H
  by_cases z : q < if s = 0 then bh σ.1 else bw σ.1
  · have hq8 : q < 8 := by
      by_cases y : s = 0
      · rw [if_pos y] at z; omega
      · rw [if_neg y] at z; omega
    have ht : 8 * s + q < 16 := by omega
    have hT := k.2.2.2.2.2.1 (8 * s + q) ht
    have mz : ∀ h, SM σ h → ∀ x1, qX12_tends 62 x1 (nI s) (nI q) h = (qm_let (((8 : Int32) * nI s) + nI q) fun v1 =>
  if x1 = (2 : Int32) then
  if v1 < 0 ∨ 16 ≤ (v1).toNatClampNeg then none else
  if (h.1 (62 + 12) (v1).toNatClampNeg) = (9 : Int32) then
  some ((0 : Int32), h)
  else
  if v1 < 0 ∨ 16 ≤ (v1).toNatClampNeg then none else
  if x1 = (2 : Int32) then
  qX12_tends_67 62 x1 v1 (1 : Int32) (h.1 (62 + 12) (v1).toNatClampNeg) v1 (62 + 12) h
  else
  qX12_tends_67 62 x1 v1 (0 : Int32) (h.1 (62 + 12) (v1).toNatClampNeg) v1 (62 + 12) h
  else
  if v1 < 0 ∨ 16 ≤ (v1).toNatClampNeg then none else
  if x1 = (2 : Int32) then
  qX12_tends_67 62 x1 v1 (1 : Int32) (h.1 (62 + 12) (v1).toNatClampNeg) v1 (62 + 12) h
  else
  qX12_tends_67 62 x1 v1 (0 : Int32) (h.1 (62 + 12) (v1).toNatClampNeg) v1 (62 + 12) h) := by
      intro h S x1
      obtain ⟨M, _, _, _⟩ := S
      unfold qX12_tends qX12_tends_17
      by_cases y : s = 0
      · subst y
        rw [if_pos rfl] at z
        rw [if_neg (by decide), M.2.1, if_pos (by rw [n_lt (by omega) (by omega)]; exact z)]
      · have : s = 1 := by omega
        subst this
        rw [if_neg (by omega)] at z
        rw [if_pos (show nI 1 = 1 from rfl), M.1, if_pos (by rw [n_lt (by omega) (by omega)]; exact z)]
    refine ⟨⟨true, (bSet σ.1 (8 * s + q) (bT σ.1 (8 * s + q)) 0, σ.2), bSet_ok k hT.1 (by omega), fun h S => ⟨_, ?_, SC_set S ht, FC2⟩, fun h S => ⟨_, ?_, SM_set S ht, FM2⟩⟩, ?_⟩
    · have C := S.1
      have o := c_hasTwig k C (s := s) (c := q) hs (by omega)
      rw [decide_eq_true z] at o
      have e1 := (C.2.2.2.1 (8 * s + q) ht).1
      unfold qX6_mend qX0_setTwig
      simp (disch := omega) only [↓reduceIte, ↓q_m1, ↓q_m2, k_o, k_0, k_1, k_2, k_3, k_4, k_5, k_6, k_7, k_8, k_9, k_10, k_11, k_16, k_17, k_19, k_20, k_24, k_26, k_27, k_30, k_32, k_33, k_35, k_40, k_43, k_48, k_50, k_57, k_60, k_64, k_81, k_86, k_34, k_66, k_322, k_97, k_99, k_100, k_122, k_128, k_160, k_161, k_255, k_256, k_512, k_580, k_600, k_1000, k_4096, k_far, k_o, nI_add, n_mul, n_sub, n_div, n_rem, n_lt, n_le, n_eq, n_cl, n_and, n_or, n_xor, m1_lt, lt_m1, m1_eq, eq_m1, le_m1, m1_le, m2_eq, up_eq, up_ne, n_shl, n_shr, b2_some, let_e, ob_some, bI_0, bI_a, bI_t, bI_f, if_true, if_false, ite_true, ite_false, true_and, and_true, false_and, and_false, true_or, or_true, false_or, or_false, not_true_eq_false, not_false_eq_true, ite_not, ne_eq, Bool.true_eq_false, Bool.false_eq_true, reduceCtorEq, decide_true, decide_false, Bool.and_true, Bool.and_false, Bool.true_and, Bool.false_and, Bool.or_true, Bool.or_false, Bool.not_true, Bool.not_false, Nat.add_zero, Nat.zero_add, eq_self, Nat.not_lt_zero, Nat.reduceAdd, Nat.reduceMul, Nat.reduceSub, Nat.reduceDiv, Nat.reduceMod, Nat.reduceAnd, Nat.reduceXor, Nat.reduceEqDiff, Nat.reducePow, lt_T, lt_F, le_T, le_F, eq_F, o, e1]
    · have M := S.1
      have e1 := (M.2.2.2.2.1 (8 * s + q) ht).1
      rw [mz h S]
      unfold qX12_tends_67
      simp (disch := omega) only [↓reduceIte, ↓q_m1, ↓q_m2, k_o, k_0, k_1, k_2, k_3, k_4, k_5, k_6, k_7, k_8, k_9, k_10, k_11, k_16, k_17, k_19, k_20, k_24, k_26, k_27, k_30, k_32, k_33, k_35, k_40, k_43, k_48, k_50, k_57, k_60, k_64, k_81, k_86, k_34, k_66, k_322, k_97, k_99, k_100, k_122, k_128, k_160, k_161, k_255, k_256, k_512, k_580, k_600, k_1000, k_4096, k_far, k_o, nI_add, n_mul, n_sub, n_div, n_rem, n_lt, n_le, n_eq, n_cl, n_and, n_or, n_xor, m1_lt, lt_m1, m1_eq, eq_m1, le_m1, m1_le, m2_eq, up_eq, up_ne, n_shl, n_shr, b2_some, let_e, ob_some, bI_0, bI_a, bI_t, bI_f, if_true, if_false, ite_true, ite_false, true_and, and_true, false_and, and_false, true_or, or_true, false_or, or_false, not_true_eq_false, not_false_eq_true, ite_not, ne_eq, Bool.true_eq_false, Bool.false_eq_true, reduceCtorEq, decide_true, decide_false, Bool.and_true, Bool.and_false, Bool.true_and, Bool.false_and, Bool.or_true, Bool.or_false, Bool.not_true, Bool.not_false, Nat.add_zero, Nat.zero_add, eq_self, Nat.not_lt_zero, Nat.reduceAdd, Nat.reduceMul, Nat.reduceSub, Nat.reduceDiv, Nat.reduceMod, Nat.reduceAnd, Nat.reduceXor, Nat.reduceEqDiff, Nat.reducePow, lt_T, lt_F, le_T, le_F, eq_F, e1]
    · by_cases y : bT σ.1 (8 * s + q) < 9
      · refine ⟨true, (bSet σ.1 (8 * s + q) (bT σ.1 (8 * s + q) + 1) (bR σ.1 (8 * s + q)), σ.2), bSet_ok k (by omega) hT.2, fun h S => ⟨_, ?_, SC_set S ht, FC2⟩, fun h S => ⟨_, ?_, SM_set S ht, FM2⟩⟩
        · have C := S.1
          have o := c_hasTwig k C (s := s) (c := q) hs (by omega)
          rw [decide_eq_true z] at o
          have e1 := (C.2.2.2.1 (8 * s + q) ht).1
          have e2 := (C.2.2.2.1 (8 * s + q) ht).2
          unfold qX6_grow qX0_setTwig
          simp (disch := omega) only [↓reduceIte, ↓q_m1, ↓q_m2, k_o, k_0, k_1, k_2, k_3, k_4, k_5, k_6, k_7, k_8, k_9, k_10, k_11, k_16, k_17, k_19, k_20, k_24, k_26, k_27, k_30, k_32, k_33, k_35, k_40, k_43, k_48, k_50, k_57, k_60, k_64, k_81, k_86, k_34, k_66, k_322, k_97, k_99, k_100, k_122, k_128, k_160, k_161, k_255, k_256, k_512, k_580, k_600, k_1000, k_4096, k_far, k_o, nI_add, n_mul, n_sub, n_div, n_rem, n_lt, n_le, n_eq, n_cl, n_and, n_or, n_xor, m1_lt, lt_m1, m1_eq, eq_m1, le_m1, m1_le, m2_eq, up_eq, up_ne, n_shl, n_shr, b2_some, let_e, ob_some, bI_0, bI_a, bI_t, bI_f, if_true, if_false, ite_true, ite_false, true_and, and_true, false_and, and_false, true_or, or_true, false_or, or_false, not_true_eq_false, not_false_eq_true, ite_not, ne_eq, Bool.true_eq_false, Bool.false_eq_true, reduceCtorEq, decide_true, decide_false, Bool.and_true, Bool.and_false, Bool.true_and, Bool.false_and, Bool.or_true, Bool.or_false, Bool.not_true, Bool.not_false, Nat.add_zero, Nat.zero_add, eq_self, Nat.not_lt_zero, Nat.reduceAdd, Nat.reduceMul, Nat.reduceSub, Nat.reduceDiv, Nat.reduceMod, Nat.reduceAnd, Nat.reduceXor, Nat.reduceEqDiff, Nat.reducePow, lt_T, lt_F, le_T, le_F, eq_F, o, e1, e2]
        · have M := S.1
          have e1 := (M.2.2.2.2.1 (8 * s + q) ht).1
          have e2 := (M.2.2.2.2.1 (8 * s + q) ht).2
          rw [mz h S]
          unfold qX12_tends_67
          simp (disch := omega) only [↓reduceIte, ↓q_m1, ↓q_m2, k_o, k_0, k_1, k_2, k_3, k_4, k_5, k_6, k_7, k_8, k_9, k_10, k_11, k_16, k_17, k_19, k_20, k_24, k_26, k_27, k_30, k_32, k_33, k_35, k_40, k_43, k_48, k_50, k_57, k_60, k_64, k_81, k_86, k_34, k_66, k_322, k_97, k_99, k_100, k_122, k_128, k_160, k_161, k_255, k_256, k_512, k_580, k_600, k_1000, k_4096, k_far, k_o, nI_add, n_mul, n_sub, n_div, n_rem, n_lt, n_le, n_eq, n_cl, n_and, n_or, n_xor, m1_lt, lt_m1, m1_eq, eq_m1, le_m1, m1_le, m2_eq, up_eq, up_ne, n_shl, n_shr, b2_some, let_e, ob_some, bI_0, bI_a, bI_t, bI_f, if_true, if_false, ite_true, ite_false, true_and, and_true, false_and, and_false, true_or, or_true, false_or, or_false, not_true_eq_false, not_false_eq_true, ite_not, ne_eq, Bool.true_eq_false, Bool.false_eq_true, reduceCtorEq, decide_true, decide_false, Bool.and_true, Bool.and_false, Bool.true_and, Bool.false_and, Bool.or_true, Bool.or_false, Bool.not_true, Bool.not_false, Nat.add_zero, Nat.zero_add, eq_self, Nat.not_lt_zero, Nat.reduceAdd, Nat.reduceMul, Nat.reduceSub, Nat.reduceDiv, Nat.reduceMod, Nat.reduceAnd, Nat.reduceXor, Nat.reduceEqDiff, Nat.reducePow, lt_T, lt_F, le_T, le_F, eq_F, e1, e2]
      · have y9 : bT σ.1 (8 * s + q) = 9 := by omega
        refine ⟨false, σ, k, fun h S => ⟨h, ?_, S, qFr.refl _ _⟩, fun h S => ⟨h, ?_, S, qFr.refl _ _⟩⟩
        · have C := S.1
          have o := c_hasTwig k C (s := s) (c := q) hs (by omega)
          rw [decide_eq_true z] at o
          have e1 := (C.2.2.2.1 (8 * s + q) ht).1
          unfold qX6_grow
          simp (disch := omega) only [↓reduceIte, ↓q_m1, ↓q_m2, k_o, k_0, k_1, k_2, k_3, k_4, k_5, k_6, k_7, k_8, k_9, k_10, k_11, k_16, k_17, k_19, k_20, k_24, k_26, k_27, k_30, k_32, k_33, k_35, k_40, k_43, k_48, k_50, k_57, k_60, k_64, k_81, k_86, k_34, k_66, k_322, k_97, k_99, k_100, k_122, k_128, k_160, k_161, k_255, k_256, k_512, k_580, k_600, k_1000, k_4096, k_far, k_o, nI_add, n_mul, n_sub, n_div, n_rem, n_lt, n_le, n_eq, n_cl, n_and, n_or, n_xor, m1_lt, lt_m1, m1_eq, eq_m1, le_m1, m1_le, m2_eq, up_eq, up_ne, n_shl, n_shr, b2_some, let_e, ob_some, bI_0, bI_a, bI_t, bI_f, if_true, if_false, ite_true, ite_false, true_and, and_true, false_and, and_false, true_or, or_true, false_or, or_false, not_true_eq_false, not_false_eq_true, ite_not, ne_eq, Bool.true_eq_false, Bool.false_eq_true, reduceCtorEq, decide_true, decide_false, Bool.and_true, Bool.and_false, Bool.true_and, Bool.false_and, Bool.or_true, Bool.or_false, Bool.not_true, Bool.not_false, Nat.add_zero, Nat.zero_add, eq_self, Nat.not_lt_zero, Nat.reduceAdd, Nat.reduceMul, Nat.reduceSub, Nat.reduceDiv, Nat.reduceMod, Nat.reduceAnd, Nat.reduceXor, Nat.reduceEqDiff, Nat.reducePow, lt_T, lt_F, le_T, le_F, eq_F, o, e1, y9]
        · have M := S.1
          have e1 := (M.2.2.2.2.1 (8 * s + q) ht).1
          rw [mz h S]
          simp (disch := omega) only [↓reduceIte, ↓q_m1, ↓q_m2, k_o, k_0, k_1, k_2, k_3, k_4, k_5, k_6, k_7, k_8, k_9, k_10, k_11, k_16, k_17, k_19, k_20, k_24, k_26, k_27, k_30, k_32, k_33, k_35, k_40, k_43, k_48, k_50, k_57, k_60, k_64, k_81, k_86, k_34, k_66, k_322, k_97, k_99, k_100, k_122, k_128, k_160, k_161, k_255, k_256, k_512, k_580, k_600, k_1000, k_4096, k_far, k_o, nI_add, n_mul, n_sub, n_div, n_rem, n_lt, n_le, n_eq, n_cl, n_and, n_or, n_xor, m1_lt, lt_m1, m1_eq, eq_m1, le_m1, m1_le, m2_eq, up_eq, up_ne, n_shl, n_shr, b2_some, let_e, ob_some, bI_0, bI_a, bI_t, bI_f, if_true, if_false, ite_true, ite_false, true_and, and_true, false_and, and_false, true_or, or_true, false_or, or_false, not_true_eq_false, not_false_eq_true, ite_not, ne_eq, Bool.true_eq_false, Bool.false_eq_true, reduceCtorEq, decide_true, decide_false, Bool.and_true, Bool.and_false, Bool.true_and, Bool.false_and, Bool.or_true, Bool.or_false, Bool.not_true, Bool.not_false, Nat.add_zero, Nat.zero_add, eq_self, Nat.not_lt_zero, Nat.reduceAdd, Nat.reduceMul, Nat.reduceSub, Nat.reduceDiv, Nat.reduceMod, Nat.reduceAnd, Nat.reduceXor, Nat.reduceEqDiff, Nat.reducePow, lt_T, lt_F, le_T, le_F, eq_F, e1, y9]
  · have cz : ∀ h, SC σ h → qX0_hasTwig 45 (nI s) (nI q) h = some (bI false, h) := fun h S => by
      rw [c_hasTwig k S.1 hs (by omega), decide_eq_false z]
    have mz : ∀ h, SM σ h → ∀ x1, qX12_tends 62 x1 (nI s) (nI q) h = some (bI false, h) := fun h S x1 => by
      obtain ⟨M, _, _, _⟩ := S
      unfold qX12_tends qX12_tends_17
      by_cases y : s = 0
      · subst y
        rw [if_pos rfl] at z
        rw [if_neg (by decide), M.2.1, if_neg (by rw [n_lt (by omega) (by omega)]; exact z)]
        rfl
      · have : s = 1 := by omega
        subst this
        rw [if_neg (by omega)] at z
        rw [if_pos (show nI 1 = 1 from rfl), M.1, if_neg (by rw [n_lt (by omega) (by omega)]; exact z)]
        rfl
    refine ⟨⟨false, σ, k, fun h S => ⟨h, ?_, S, qFr.refl _ _⟩, fun h S => ⟨h, mz h S _, S, qFr.refl _ _⟩⟩, ⟨false, σ, k, fun h S => ⟨h, ?_, S, qFr.refl _ _⟩, fun h S => ⟨h, mz h S _, S, qFr.refl _ _⟩⟩⟩
    · unfold qX6_mend
      simp (disch := omega) only [↓reduceIte, ↓q_m1, ↓q_m2, k_o, k_0, k_1, k_2, k_3, k_4, k_5, k_6, k_7, k_8, k_9, k_10, k_11, k_16, k_17, k_19, k_20, k_24, k_26, k_27, k_30, k_32, k_33, k_35, k_40, k_43, k_48, k_50, k_57, k_60, k_64, k_81, k_86, k_34, k_66, k_322, k_97, k_99, k_100, k_122, k_128, k_160, k_161, k_255, k_256, k_512, k_580, k_600, k_1000, k_4096, k_far, k_o, nI_add, n_mul, n_sub, n_div, n_rem, n_lt, n_le, n_eq, n_cl, n_and, n_or, n_xor, m1_lt, lt_m1, m1_eq, eq_m1, le_m1, m1_le, m2_eq, up_eq, up_ne, n_shl, n_shr, b2_some, let_e, ob_some, bI_0, bI_a, bI_t, bI_f, if_true, if_false, ite_true, ite_false, true_and, and_true, false_and, and_false, true_or, or_true, false_or, or_false, not_true_eq_false, not_false_eq_true, ite_not, ne_eq, Bool.true_eq_false, Bool.false_eq_true, reduceCtorEq, decide_true, decide_false, Bool.and_true, Bool.and_false, Bool.true_and, Bool.false_and, Bool.or_true, Bool.or_false, Bool.not_true, Bool.not_false, Nat.add_zero, Nat.zero_add, eq_self, Nat.not_lt_zero, Nat.reduceAdd, Nat.reduceMul, Nat.reduceSub, Nat.reduceDiv, Nat.reduceMod, Nat.reduceAnd, Nat.reduceXor, Nat.reduceEqDiff, Nat.reducePow, lt_T, lt_F, le_T, le_F, eq_F, cz h S]
    · unfold qX6_grow
      simp (disch := omega) only [↓reduceIte, ↓q_m1, ↓q_m2, k_o, k_0, k_1, k_2, k_3, k_4, k_5, k_6, k_7, k_8, k_9, k_10, k_11, k_16, k_17, k_19, k_20, k_24, k_26, k_27, k_30, k_32, k_33, k_35, k_40, k_43, k_48, k_50, k_57, k_60, k_64, k_81, k_86, k_34, k_66, k_322, k_97, k_99, k_100, k_122, k_128, k_160, k_161, k_255, k_256, k_512, k_580, k_600, k_1000, k_4096, k_far, k_o, nI_add, n_mul, n_sub, n_div, n_rem, n_lt, n_le, n_eq, n_cl, n_and, n_or, n_xor, m1_lt, lt_m1, m1_eq, eq_m1, le_m1, m1_le, m2_eq, up_eq, up_ne, n_shl, n_shr, b2_some, let_e, ob_some, bI_0, bI_a, bI_t, bI_f, if_true, if_false, ite_true, ite_false, true_and, and_true, false_and, and_false, true_or, or_true, false_or, or_false, not_true_eq_false, not_false_eq_true, ite_not, ne_eq, Bool.true_eq_false, Bool.false_eq_true, reduceCtorEq, decide_true, decide_false, Bool.and_true, Bool.and_false, Bool.true_and, Bool.false_and, Bool.or_true, Bool.or_false, Bool.not_true, Bool.not_false, Nat.add_zero, Nat.zero_add, eq_self, Nat.not_lt_zero, Nat.reduceAdd, Nat.reduceMul, Nat.reduceSub, Nat.reduceDiv, Nat.reduceMod, Nat.reduceAnd, Nat.reduceXor, Nat.reduceEqDiff, Nat.reducePow, lt_T, lt_F, le_T, le_F, eq_F, cz h S]
/-! weave -/
def bWv (β : qB) (x y : Nat) : qB := (bw β, bh β, bx β, bT β, bR β, fun r c => bO β r c && !decide (r = y ∧ c = x))
theorem bWv_ok {β : qB} (k : bOK β) (x y : Nat) : bOK (bWv β x y) := by
  refine ⟨k.1, k.2.1, k.2.2.1, k.2.2.2.1, k.2.2.2.2.1, k.2.2.2.2.2.1, fun r c e => ?_⟩
  have e' : (bO β r c && !decide (r = y ∧ c = x)) = true := e
  rw [Bool.and_eq_true] at e'
  exact k.2.2.2.2.2.2 r c e'.1
theorem row_off : ∀ v, v < 256 → ∀ x, x < 8 → nI v &&& (qm_ishl (nI 1) (nI x) ^^^ m1) = nI (v &&& (255 - 2 ^ x)) := by decide +kernel
theorem off_bit : ∀ x, x < 8 → ∀ k, k < 8 → (255 - 2 ^ x).testBit k = !decide (k = x) := by decide +kernel
theorem rowB_off (f : Nat → Bool) {x : Nat} (hx : x < 8) : rowB f &&& (255 - 2 ^ x) = rowB (fun c => f c && !decide (c = x)) := by
  apply rowB_eq (Nat.lt_of_le_of_lt Nat.and_le_left (rowB_lt f))
  intro k hk
  rw [Nat.testBit_and, rowB_bit f hk, off_bit x hx k hk]
theorem lb_1s : ∀ i, i < 64 → lb (1 : Int64) i = decide (i = 0) := by decide +kernel
theorem z_weave {σ : qσ} (k : bOK σ.1) {x y : Nat} (hx : x < 1000) (hy : y < 1000) : ∃ (r : Bool) (σ' : qσ), bOK σ'.1 ∧ (∀ h, SC σ h → ∃ h', qX6_weave 44 (nI x) (nI y) h = some (bI r, h') ∧ SC σ' h' ∧ qFr FCa h h') ∧ ∀ h, SM σ h → ∃ h', qX12_weaves 62 (nI x) (nI y) h = some (bI r, h') ∧ SM σ' h' ∧ qFr FMa h h' := by
  have hW := k.W
  have hH := k.H
  by_cases z : x < bw σ.1 ∧ y < bh σ.1
  · cases q : bO σ.1 y x
    · refine ⟨false, σ, k, fun h S => ⟨h, ?_, S, qFr.refl _ _⟩, fun h S => ⟨h, ?_, S, qFr.refl _ _⟩⟩
      · have C := S.1
        have o := c_isOpen C (r := y) (c := x) (by omega) (by omega)
        rw [q] at o
        unfold qX6_weave qX6_weave_35
        simp (disch := omega) only [↓reduceIte, ↓q_m1, ↓q_m2, k_o, k_0, k_1, k_2, k_3, k_4, k_5, k_6, k_7, k_8, k_9, k_10, k_11, k_16, k_17, k_19, k_20, k_24, k_26, k_27, k_30, k_32, k_33, k_35, k_40, k_43, k_48, k_50, k_57, k_60, k_64, k_81, k_86, k_34, k_66, k_322, k_97, k_99, k_100, k_122, k_128, k_160, k_161, k_255, k_256, k_512, k_580, k_600, k_1000, k_4096, k_far, k_o, nI_add, n_mul, n_sub, n_div, n_rem, n_lt, n_le, n_eq, n_cl, n_and, n_or, n_xor, m1_lt, lt_m1, m1_eq, eq_m1, le_m1, m1_le, m2_eq, up_eq, up_ne, n_shl, n_shr, b2_some, let_e, ob_some, bI_0, bI_a, bI_t, bI_f, if_true, if_false, ite_true, ite_false, true_and, and_true, false_and, and_false, true_or, or_true, false_or, or_false, not_true_eq_false, not_false_eq_true, ite_not, ne_eq, Bool.true_eq_false, Bool.false_eq_true, reduceCtorEq, decide_true, decide_false, Bool.and_true, Bool.and_false, Bool.true_and, Bool.false_and, Bool.or_true, Bool.or_false, Bool.not_true, Bool.not_false, Nat.add_zero, Nat.zero_add, eq_self, Nat.not_lt_zero, Nat.reduceAdd, Nat.reduceMul, Nat.reduceSub, Nat.reduceDiv, Nat.reduceMod, Nat.reduceAnd, Nat.reduceXor, Nat.reduceEqDiff, Nat.reducePow, lt_T, lt_F, le_T, le_F, eq_F, C.1, C.2.1, o]
      · have M := S.1
        have e1 := M.2.2.2.2.2 y (by omega)
        have e2 := rowB_lt (bO σ.1 y)
        have o := m_has (s := rowB (bO σ.1 y)) (k := x) (by omega) (by omega) h
        rw [rowB_bit _ (by omega), q] at o
        unfold qX12_weaves
        simp (disch := omega) only [↓reduceIte, ↓q_m1, ↓q_m2, k_o, k_0, k_1, k_2, k_3, k_4, k_5, k_6, k_7, k_8, k_9, k_10, k_11, k_16, k_17, k_19, k_20, k_24, k_26, k_27, k_30, k_32, k_33, k_35, k_40, k_43, k_48, k_50, k_57, k_60, k_64, k_81, k_86, k_34, k_66, k_322, k_97, k_99, k_100, k_122, k_128, k_160, k_161, k_255, k_256, k_512, k_580, k_600, k_1000, k_4096, k_far, k_o, nI_add, n_mul, n_sub, n_div, n_rem, n_lt, n_le, n_eq, n_cl, n_and, n_or, n_xor, m1_lt, lt_m1, m1_eq, eq_m1, le_m1, m1_le, m2_eq, up_eq, up_ne, n_shl, n_shr, b2_some, let_e, ob_some, bI_0, bI_a, bI_t, bI_f, if_true, if_false, ite_true, ite_false, true_and, and_true, false_and, and_false, true_or, or_true, false_or, or_false, not_true_eq_false, not_false_eq_true, ite_not, ne_eq, Bool.true_eq_false, Bool.false_eq_true, reduceCtorEq, decide_true, decide_false, Bool.and_true, Bool.and_false, Bool.true_and, Bool.false_and, Bool.or_true, Bool.or_false, Bool.not_true, Bool.not_false, Nat.add_zero, Nat.zero_add, eq_self, Nat.not_lt_zero, Nat.reduceAdd, Nat.reduceMul, Nat.reduceSub, Nat.reduceDiv, Nat.reduceMod, Nat.reduceAnd, Nat.reduceXor, Nat.reduceEqDiff, Nat.reducePow, lt_T, lt_F, le_T, le_F, eq_F, M.1, M.2.1, e1, o]
    · refine ⟨true, (bWv σ.1 x y, σ.2), bWv_ok k x y, fun h S => ?_, fun h S => ?_⟩
      · obtain ⟨C, Z, s1, s2, s3⟩ := S
        have o := c_isOpen C (r := y) (c := x) (by omega) (by omega)
        rw [q] at o
        refine ⟨qm_setl h 45 6 (h.2 45 6 &&& (qm_lshl 1 (nI (8 * y + x)) ^^^ (-1))), ?_, ⟨⟨C.1, C.2.1, C.2.2.1, C.2.2.2.1, fun r c hr hc => ?_⟩, Z, s1, s2, s3⟩, qFr.setl (Or.inr (by omega))⟩
        · unfold qX6_weave qX6_weave_35 qX0_bit
          simp (disch := omega) only [↓reduceIte, ↓q_m1, ↓q_m2, k_o, k_0, k_1, k_2, k_3, k_4, k_5, k_6, k_7, k_8, k_9, k_10, k_11, k_16, k_17, k_19, k_20, k_24, k_26, k_27, k_30, k_32, k_33, k_35, k_40, k_43, k_48, k_50, k_57, k_60, k_64, k_81, k_86, k_34, k_66, k_322, k_97, k_99, k_100, k_122, k_128, k_160, k_161, k_255, k_256, k_512, k_580, k_600, k_1000, k_4096, k_far, k_o, nI_add, n_mul, n_sub, n_div, n_rem, n_lt, n_le, n_eq, n_cl, n_and, n_or, n_xor, m1_lt, lt_m1, m1_eq, eq_m1, le_m1, m1_le, m2_eq, up_eq, up_ne, n_shl, n_shr, b2_some, let_e, ob_some, bI_0, bI_a, bI_t, bI_f, if_true, if_false, ite_true, ite_false, true_and, and_true, false_and, and_false, true_or, or_true, false_or, or_false, not_true_eq_false, not_false_eq_true, ite_not, ne_eq, Bool.true_eq_false, Bool.false_eq_true, reduceCtorEq, decide_true, decide_false, Bool.and_true, Bool.and_false, Bool.true_and, Bool.false_and, Bool.or_true, Bool.or_false, Bool.not_true, Bool.not_false, Nat.add_zero, Nat.zero_add, eq_self, Nat.not_lt_zero, Nat.reduceAdd, Nat.reduceMul, Nat.reduceSub, Nat.reduceDiv, Nat.reduceMod, Nat.reduceAnd, Nat.reduceXor, Nat.reduceEqDiff, Nat.reducePow, lt_T, lt_F, le_T, le_F, eq_F, C.1, C.2.1, o]
        · show lb (qm_up h.2 45 6 (h.2 45 6 &&& (qm_lshl 1 (nI (8 * y + x)) ^^^ (-1))) 45 6) (8 * r + c) = (bO σ.1 r c && !decide (r = y ∧ c = x))
          rw [up_eq, lb_and, C.2.2.2.2 r c hr hc, lb_not _ (by omega), lb_shl _ (by omega) (by omega)]
          congr 2
          by_cases w : 8 * y + x ≤ 8 * r + c
          · rw [decide_eq_true w, Bool.true_and, lb_1s _ (by omega)]
            exact decide_eq_decide.mpr ⟨fun y => by omega, fun y => by omega⟩
          · rw [decide_eq_false w, Bool.false_and]
            exact (decide_eq_false (by omega)).symm
      · obtain ⟨M, s1, s2, s3⟩ := S
        have e1 := M.2.2.2.2.2 y (by omega)
        have e2 := rowB_lt (bO σ.1 y)
        have o := m_has (s := rowB (bO σ.1 y)) (k := x) (by omega) (by omega) h
        rw [rowB_bit _ (by omega), q] at o
        refine ⟨qm_seti h 76 y (nI (rowB (bO (bWv σ.1 x y) y))), ?_, ⟨⟨?_, ?_, ?_, ?_, fun i hi => ⟨?_, ?_⟩, fun r hr => ?_⟩, ?_, ?_, ?_⟩, qFr.seti (Or.inr (by omega))⟩
        · have er : rowB (bO σ.1 y) &&& (255 - 2 ^ x) = rowB (bO (bWv σ.1 x y) y) := by
            rw [rowB_off _ (by omega)]
            congr 1
            funext c
            show _ = (bO σ.1 y c && !decide (y = y ∧ c = x))
            congr 2
            exact decide_eq_decide.mpr ⟨fun y => ⟨rfl, y⟩, fun y => y.2⟩
          unfold qX12_weaves
          simp (disch := omega) only [↓reduceIte, ↓q_m1, ↓q_m2, k_o, k_0, k_1, k_2, k_3, k_4, k_5, k_6, k_7, k_8, k_9, k_10, k_11, k_16, k_17, k_19, k_20, k_24, k_26, k_27, k_30, k_32, k_33, k_35, k_40, k_43, k_48, k_50, k_57, k_60, k_64, k_81, k_86, k_34, k_66, k_322, k_97, k_99, k_100, k_122, k_128, k_160, k_161, k_255, k_256, k_512, k_580, k_600, k_1000, k_4096, k_far, k_o, nI_add, n_mul, n_sub, n_div, n_rem, n_lt, n_le, n_eq, n_cl, n_and, n_or, n_xor, m1_lt, lt_m1, m1_eq, eq_m1, le_m1, m1_le, m2_eq, up_eq, up_ne, n_shl, n_shr, b2_some, let_e, ob_some, bI_0, bI_a, bI_t, bI_f, if_true, if_false, ite_true, ite_false, true_and, and_true, false_and, and_false, true_or, or_true, false_or, or_false, not_true_eq_false, not_false_eq_true, ite_not, ne_eq, Bool.true_eq_false, Bool.false_eq_true, reduceCtorEq, decide_true, decide_false, Bool.and_true, Bool.and_false, Bool.true_and, Bool.false_and, Bool.or_true, Bool.or_false, Bool.not_true, Bool.not_false, Nat.add_zero, Nat.zero_add, eq_self, Nat.not_lt_zero, Nat.reduceAdd, Nat.reduceMul, Nat.reduceSub, Nat.reduceDiv, Nat.reduceMod, Nat.reduceAnd, Nat.reduceXor, Nat.reduceEqDiff, Nat.reducePow, lt_T, lt_F, le_T, le_F, eq_F, M.1, M.2.1, e1, o, row_off (rowB (bO σ.1 y)) (by omega) x (by omega), er]
        · rw [sI_ne (by omega)]; exact M.1
        · rw [sI_ne (by omega)]; exact M.2.1
        · rw [sI_ne (by omega)]; exact M.2.2.1
        · rw [sI_ne (by omega)]; exact M.2.2.2.1
        · rw [sI_ne (by omega)]; exact (M.2.2.2.2.1 i hi).1
        · rw [sI_ne (by omega)]; exact (M.2.2.2.2.1 i hi).2
        · by_cases w : r = y
          · rw [w, sI_eq]
          · rw [sI_ne (by omega), M.2.2.2.2.2 r hr]
            congr 2
            funext c
            show _ = (bO σ.1 r c && !decide (r = y ∧ c = x))
            rw [decide_eq_false (fun y => w y.1)]
            cases bO σ.1 r c <;> rfl
        · rw [sI_ne (by omega)]; exact s1
        · rw [sI_ne (by omega)]; exact s2
        · rw [sI_ne (by omega)]; exact s3
  · refine ⟨false, σ, k, fun h S => ⟨h, ?_, S, qFr.refl _ _⟩, fun h S => ⟨h, ?_, S, qFr.refl _ _⟩⟩
    · have C := S.1
      unfold qX6_weave qX6_weave_35
      by_cases w : x < bw σ.1
      · simp (disch := omega) only [↓reduceIte, ↓q_m1, ↓q_m2, k_o, k_0, k_1, k_2, k_3, k_4, k_5, k_6, k_7, k_8, k_9, k_10, k_11, k_16, k_17, k_19, k_20, k_24, k_26, k_27, k_30, k_32, k_33, k_35, k_40, k_43, k_48, k_50, k_57, k_60, k_64, k_81, k_86, k_34, k_66, k_322, k_97, k_99, k_100, k_122, k_128, k_160, k_161, k_255, k_256, k_512, k_580, k_600, k_1000, k_4096, k_far, k_o, nI_add, n_mul, n_sub, n_div, n_rem, n_lt, n_le, n_eq, n_cl, n_and, n_or, n_xor, m1_lt, lt_m1, m1_eq, eq_m1, le_m1, m1_le, m2_eq, up_eq, up_ne, n_shl, n_shr, b2_some, let_e, ob_some, bI_0, bI_a, bI_t, bI_f, if_true, if_false, ite_true, ite_false, true_and, and_true, false_and, and_false, true_or, or_true, false_or, or_false, not_true_eq_false, not_false_eq_true, ite_not, ne_eq, Bool.true_eq_false, Bool.false_eq_true, reduceCtorEq, decide_true, decide_false, Bool.and_true, Bool.and_false, Bool.true_and, Bool.false_and, Bool.or_true, Bool.or_false, Bool.not_true, Bool.not_false, Nat.add_zero, Nat.zero_add, eq_self, Nat.not_lt_zero, Nat.reduceAdd, Nat.reduceMul, Nat.reduceSub, Nat.reduceDiv, Nat.reduceMod, Nat.reduceAnd, Nat.reduceXor, Nat.reduceEqDiff, Nat.reducePow, lt_T, lt_F, le_T, le_F, eq_F, C.1, C.2.1]
      · simp (disch := omega) only [↓reduceIte, ↓q_m1, ↓q_m2, k_o, k_0, k_1, k_2, k_3, k_4, k_5, k_6, k_7, k_8, k_9, k_10, k_11, k_16, k_17, k_19, k_20, k_24, k_26, k_27, k_30, k_32, k_33, k_35, k_40, k_43, k_48, k_50, k_57, k_60, k_64, k_81, k_86, k_34, k_66, k_322, k_97, k_99, k_100, k_122, k_128, k_160, k_161, k_255, k_256, k_512, k_580, k_600, k_1000, k_4096, k_far, k_o, nI_add, n_mul, n_sub, n_div, n_rem, n_lt, n_le, n_eq, n_cl, n_and, n_or, n_xor, m1_lt, lt_m1, m1_eq, eq_m1, le_m1, m1_le, m2_eq, up_eq, up_ne, n_shl, n_shr, b2_some, let_e, ob_some, bI_0, bI_a, bI_t, bI_f, if_true, if_false, ite_true, ite_false, true_and, and_true, false_and, and_false, true_or, or_true, false_or, or_false, not_true_eq_false, not_false_eq_true, ite_not, ne_eq, Bool.true_eq_false, Bool.false_eq_true, reduceCtorEq, decide_true, decide_false, Bool.and_true, Bool.and_false, Bool.true_and, Bool.false_and, Bool.or_true, Bool.or_false, Bool.not_true, Bool.not_false, Nat.add_zero, Nat.zero_add, eq_self, Nat.not_lt_zero, Nat.reduceAdd, Nat.reduceMul, Nat.reduceSub, Nat.reduceDiv, Nat.reduceMod, Nat.reduceAnd, Nat.reduceXor, Nat.reduceEqDiff, Nat.reducePow, lt_T, lt_F, le_T, le_F, eq_F, C.1]
    · have M := S.1
      unfold qX12_weaves
      by_cases w : x < bw σ.1
      · simp (disch := omega) only [↓reduceIte, ↓q_m1, ↓q_m2, k_o, k_0, k_1, k_2, k_3, k_4, k_5, k_6, k_7, k_8, k_9, k_10, k_11, k_16, k_17, k_19, k_20, k_24, k_26, k_27, k_30, k_32, k_33, k_35, k_40, k_43, k_48, k_50, k_57, k_60, k_64, k_81, k_86, k_34, k_66, k_322, k_97, k_99, k_100, k_122, k_128, k_160, k_161, k_255, k_256, k_512, k_580, k_600, k_1000, k_4096, k_far, k_o, nI_add, n_mul, n_sub, n_div, n_rem, n_lt, n_le, n_eq, n_cl, n_and, n_or, n_xor, m1_lt, lt_m1, m1_eq, eq_m1, le_m1, m1_le, m2_eq, up_eq, up_ne, n_shl, n_shr, b2_some, let_e, ob_some, bI_0, bI_a, bI_t, bI_f, if_true, if_false, ite_true, ite_false, true_and, and_true, false_and, and_false, true_or, or_true, false_or, or_false, not_true_eq_false, not_false_eq_true, ite_not, ne_eq, Bool.true_eq_false, Bool.false_eq_true, reduceCtorEq, decide_true, decide_false, Bool.and_true, Bool.and_false, Bool.true_and, Bool.false_and, Bool.or_true, Bool.or_false, Bool.not_true, Bool.not_false, Nat.add_zero, Nat.zero_add, eq_self, Nat.not_lt_zero, Nat.reduceAdd, Nat.reduceMul, Nat.reduceSub, Nat.reduceDiv, Nat.reduceMod, Nat.reduceAnd, Nat.reduceXor, Nat.reduceEqDiff, Nat.reducePow, lt_T, lt_F, le_T, le_F, eq_F, M.1, M.2.1]
      · simp (disch := omega) only [↓reduceIte, ↓q_m1, ↓q_m2, k_o, k_0, k_1, k_2, k_3, k_4, k_5, k_6, k_7, k_8, k_9, k_10, k_11, k_16, k_17, k_19, k_20, k_24, k_26, k_27, k_30, k_32, k_33, k_35, k_40, k_43, k_48, k_50, k_57, k_60, k_64, k_81, k_86, k_34, k_66, k_322, k_97, k_99, k_100, k_122, k_128, k_160, k_161, k_255, k_256, k_512, k_580, k_600, k_1000, k_4096, k_far, k_o, nI_add, n_mul, n_sub, n_div, n_rem, n_lt, n_le, n_eq, n_cl, n_and, n_or, n_xor, m1_lt, lt_m1, m1_eq, eq_m1, le_m1, m1_le, m2_eq, up_eq, up_ne, n_shl, n_shr, b2_some, let_e, ob_some, bI_0, bI_a, bI_t, bI_f, if_true, if_false, ite_true, ite_false, true_and, and_true, false_and, and_false, true_or, or_true, false_or, or_false, not_true_eq_false, not_false_eq_true, ite_not, ne_eq, Bool.true_eq_false, Bool.false_eq_true, reduceCtorEq, decide_true, decide_false, Bool.and_true, Bool.and_false, Bool.true_and, Bool.false_and, Bool.or_true, Bool.or_false, Bool.not_true, Bool.not_false, Nat.add_zero, Nat.zero_add, eq_self, Nat.not_lt_zero, Nat.reduceAdd, Nat.reduceMul, Nat.reduceSub, Nat.reduceDiv, Nat.reduceMod, Nat.reduceAnd, Nat.reduceXor, Nat.reduceEqDiff, Nat.reducePow, lt_T, lt_F, le_T, le_F, eq_F, M.1]
/-! winter -/
def bWi (β : qB) (n : Nat) : qB := (bw β, bh β, bx β, bT β, fun i => if i < n then min 9 (bR β i + 1) else bR β i, bO β)
theorem bWi_ok {β : qB} (k : bOK β) (n : Nat) : bOK (bWi β n) := by
  refine ⟨k.1, k.2.1, k.2.2.1, k.2.2.2.1, k.2.2.2.2.1, fun i hi => ⟨(k.2.2.2.2.2.1 i hi).1, ?_⟩, k.2.2.2.2.2.2⟩
  have := (k.2.2.2.2.2.1 i hi).2
  show (if i < n then min 9 (bR β i + 1) else bR β i) ≤ 9
  split <;> omega
theorem c_win {σ : qσ} (k : bOK σ.1) : ∀ d i h fuel, i + d = 16 → d < fuel → SC (bWi σ.1 i, σ.2) h → ∃ h', qX6_winter_2 fuel 44 (nI i) h = some h' ∧ SC (bWi σ.1 16, σ.2) h' ∧ qFr FCa h h' := by
  intro d
  induction d with
  | zero =>
    intro i h fuel hi hf S
    obtain ⟨g, rfl⟩ : ∃ g, fuel = g + 1 := ⟨fuel - 1, by omega⟩
    have : i = 16 := by omega
    subst this
    refine ⟨h, ?_, S, qFr.refl _ _⟩
    unfold qX6_winter_2
    simp (disch := omega) only [↓reduceIte, ↓q_m1, ↓q_m2, k_o, k_0, k_1, k_2, k_3, k_4, k_5, k_6, k_7, k_8, k_9, k_10, k_11, k_16, k_17, k_19, k_20, k_24, k_26, k_27, k_30, k_32, k_33, k_35, k_40, k_43, k_48, k_50, k_57, k_60, k_64, k_81, k_86, k_34, k_66, k_322, k_97, k_99, k_100, k_122, k_128, k_160, k_161, k_255, k_256, k_512, k_580, k_600, k_1000, k_4096, k_far, k_o, nI_add, n_mul, n_sub, n_div, n_rem, n_lt, n_le, n_eq, n_cl, n_and, n_or, n_xor, m1_lt, lt_m1, m1_eq, eq_m1, le_m1, m1_le, m2_eq, up_eq, up_ne, n_shl, n_shr, b2_some, let_e, ob_some, bI_0, bI_a, bI_t, bI_f, if_true, if_false, ite_true, ite_false, true_and, and_true, false_and, and_false, true_or, or_true, false_or, or_false, not_true_eq_false, not_false_eq_true, ite_not, ne_eq, Bool.true_eq_false, Bool.false_eq_true, reduceCtorEq, decide_true, decide_false, Bool.and_true, Bool.and_false, Bool.true_and, Bool.false_and, Bool.or_true, Bool.or_false, Bool.not_true, Bool.not_false, Nat.add_zero, Nat.zero_add, eq_self, Nat.not_lt_zero, Nat.reduceAdd, Nat.reduceMul, Nat.reduceSub, Nat.reduceDiv, Nat.reduceMod, Nat.reduceAnd, Nat.reduceXor, Nat.reduceEqDiff, Nat.reducePow, lt_T, lt_F, le_T, le_F, eq_F]
  | succ d ih =>
    intro i h fuel hi hf S
    obtain ⟨g, rfl⟩ : ∃ g, fuel = g + 1 := ⟨fuel - 1, by omega⟩
    obtain ⟨⟨a1, a2, a3, a4, a5⟩, Z, s1, s2, s3⟩ := S
    have hR := (k.2.2.2.2.2.1 i (by omega)).2
    have ei : h.1 47 i = nI (bR σ.1 i) := by
      have := (a4 i (by omega)).2
      rw [this]
      show nI (if i < i then _ else bR σ.1 i) = _
      rw [if_neg (by omega)]
    obtain ⟨h', e1, e2, e3⟩ := ih (i + 1) (qm_seti h 47 i (nI (min 9 (bR σ.1 i + 1)))) g (by omega) (by omega) ⟨⟨by rw [sI_ne (by omega)]; exact a1, by rw [sI_ne (by omega)]; exact a2, by rw [sI_ne (by omega)]; exact a3, fun j hj => ⟨by rw [sI_ne (by omega)]; exact (a4 j hj).1, by
        show _ = nI (if j < i + 1 then min 9 (bR σ.1 j + 1) else bR σ.1 j)
        by_cases z : j = i
        · rw [z, sI_eq, if_pos (by omega)]
        · rw [sI_ne (by omega)]
          have := (a4 j hj).2
          rw [this]
          show nI (if j < i then _ else _) = _
          by_cases y : j < i
          · rw [if_pos y, if_pos (by omega)]
          · rw [if_neg y, if_neg (by omega)]⟩, a5⟩, fun c hc => by rw [sI_ne (by omega), sI_ne (by omega)]; exact Z c hc, by rw [sI_ne (by omega)]; exact s1, by rw [sI_ne (by omega)]; exact s2, by rw [sI_ne (by omega)]; exact s3⟩
    refine ⟨h', ?_, e2, (qFr.seti (Or.inr (by omega))).trans e3⟩
    unfold qX6_winter_2
    simp (disch := omega) only [↓reduceIte, ↓q_m1, ↓q_m2, k_o, k_0, k_1, k_2, k_3, k_4, k_5, k_6, k_7, k_8, k_9, k_10, k_11, k_16, k_17, k_19, k_20, k_24, k_26, k_27, k_30, k_32, k_33, k_35, k_40, k_43, k_48, k_50, k_57, k_60, k_64, k_81, k_86, k_34, k_66, k_322, k_97, k_99, k_100, k_122, k_128, k_160, k_161, k_255, k_256, k_512, k_580, k_600, k_1000, k_4096, k_far, k_o, nI_add, n_mul, n_sub, n_div, n_rem, n_lt, n_le, n_eq, n_cl, n_and, n_or, n_xor, m1_lt, lt_m1, m1_eq, eq_m1, le_m1, m1_le, m2_eq, up_eq, up_ne, n_shl, n_shr, b2_some, let_e, ob_some, bI_0, bI_a, bI_t, bI_f, if_true, if_false, ite_true, ite_false, true_and, and_true, false_and, and_false, true_or, or_true, false_or, or_false, not_true_eq_false, not_false_eq_true, ite_not, ne_eq, Bool.true_eq_false, Bool.false_eq_true, reduceCtorEq, decide_true, decide_false, Bool.and_true, Bool.and_false, Bool.true_and, Bool.false_and, Bool.or_true, Bool.or_false, Bool.not_true, Bool.not_false, Nat.add_zero, Nat.zero_add, eq_self, Nat.not_lt_zero, Nat.reduceAdd, Nat.reduceMul, Nat.reduceSub, Nat.reduceDiv, Nat.reduceMod, Nat.reduceAnd, Nat.reduceXor, Nat.reduceEqDiff, Nat.reducePow, lt_T, lt_F, le_T, le_F, eq_F, ei, j_minn]
    exact e1
theorem m_win {σ : qσ} (k : bOK σ.1) : ∀ d i h fuel, i + d = 16 → d < fuel → SM (bWi σ.1 i, σ.2) h → ∃ h', qX12_winters_2 fuel 62 (nI i) h = some (nI 1, h') ∧ SM (bWi σ.1 16, σ.2) h' ∧ qFr FMa h h' := by
  intro d
  induction d with
  | zero =>
    intro i h fuel hi hf S
    obtain ⟨g, rfl⟩ : ∃ g, fuel = g + 1 := ⟨fuel - 1, by omega⟩
    have : i = 16 := by omega
    subst this
    refine ⟨h, ?_, S, qFr.refl _ _⟩
    unfold qX12_winters_2
    simp (disch := omega) only [↓reduceIte, ↓q_m1, ↓q_m2, k_o, k_0, k_1, k_2, k_3, k_4, k_5, k_6, k_7, k_8, k_9, k_10, k_11, k_16, k_17, k_19, k_20, k_24, k_26, k_27, k_30, k_32, k_33, k_35, k_40, k_43, k_48, k_50, k_57, k_60, k_64, k_81, k_86, k_34, k_66, k_322, k_97, k_99, k_100, k_122, k_128, k_160, k_161, k_255, k_256, k_512, k_580, k_600, k_1000, k_4096, k_far, k_o, nI_add, n_mul, n_sub, n_div, n_rem, n_lt, n_le, n_eq, n_cl, n_and, n_or, n_xor, m1_lt, lt_m1, m1_eq, eq_m1, le_m1, m1_le, m2_eq, up_eq, up_ne, n_shl, n_shr, b2_some, let_e, ob_some, bI_0, bI_a, bI_t, bI_f, if_true, if_false, ite_true, ite_false, true_and, and_true, false_and, and_false, true_or, or_true, false_or, or_false, not_true_eq_false, not_false_eq_true, ite_not, ne_eq, Bool.true_eq_false, Bool.false_eq_true, reduceCtorEq, decide_true, decide_false, Bool.and_true, Bool.and_false, Bool.true_and, Bool.false_and, Bool.or_true, Bool.or_false, Bool.not_true, Bool.not_false, Nat.add_zero, Nat.zero_add, eq_self, Nat.not_lt_zero, Nat.reduceAdd, Nat.reduceMul, Nat.reduceSub, Nat.reduceDiv, Nat.reduceMod, Nat.reduceAnd, Nat.reduceXor, Nat.reduceEqDiff, Nat.reducePow, lt_T, lt_F, le_T, le_F, eq_F]
  | succ d ih =>
    intro i h fuel hi hf S
    obtain ⟨g, rfl⟩ : ∃ g, fuel = g + 1 := ⟨fuel - 1, by omega⟩
    obtain ⟨⟨a1, a2, a3, a4, a5, a6⟩, s1, s2, s3⟩ := S
    have hR := (k.2.2.2.2.2.1 i (by omega)).2
    have ei : h.1 75 i = nI (bR σ.1 i) := by
      have := (a5 i (by omega)).2
      rw [this]
      show nI (if i < i then _ else bR σ.1 i) = _
      rw [if_neg (by omega)]
    obtain ⟨h', e1, e2, e3⟩ := ih (i + 1) (qm_seti h 75 i (nI (min 9 (bR σ.1 i + 1)))) g (by omega) (by omega) ⟨⟨by rw [sI_ne (by omega)]; exact a1, by rw [sI_ne (by omega)]; exact a2, by rw [sI_ne (by omega)]; exact a3, by rw [sI_ne (by omega)]; exact a4, fun j hj => ⟨by rw [sI_ne (by omega)]; exact (a5 j hj).1, by
        show _ = nI (if j < i + 1 then min 9 (bR σ.1 j + 1) else bR σ.1 j)
        by_cases z : j = i
        · rw [z, sI_eq, if_pos (by omega)]
        · rw [sI_ne (by omega)]
          have := (a5 j hj).2
          rw [this]
          show nI (if j < i then _ else _) = _
          by_cases y : j < i
          · rw [if_pos y, if_pos (by omega)]
          · rw [if_neg y, if_neg (by omega)]⟩, fun r hr => by rw [sI_ne (by omega)]; exact a6 r hr⟩, by rw [sI_ne (by omega)]; exact s1, by rw [sI_ne (by omega)]; exact s2, by rw [sI_ne (by omega)]; exact s3⟩
    refine ⟨h', ?_, e2, (qFr.seti (Or.inr (by omega))).trans e3⟩
    unfold qX12_winters_2
    simp (disch := omega) only [↓reduceIte, ↓q_m1, ↓q_m2, k_o, k_0, k_1, k_2, k_3, k_4, k_5, k_6, k_7, k_8, k_9, k_10, k_11, k_16, k_17, k_19, k_20, k_24, k_26, k_27, k_30, k_32, k_33, k_35, k_40, k_43, k_48, k_50, k_57, k_60, k_64, k_81, k_86, k_34, k_66, k_322, k_97, k_99, k_100, k_122, k_128, k_160, k_161, k_255, k_256, k_512, k_580, k_600, k_1000, k_4096, k_far, k_o, nI_add, n_mul, n_sub, n_div, n_rem, n_lt, n_le, n_eq, n_cl, n_and, n_or, n_xor, m1_lt, lt_m1, m1_eq, eq_m1, le_m1, m1_le, m2_eq, up_eq, up_ne, n_shl, n_shr, b2_some, let_e, ob_some, bI_0, bI_a, bI_t, bI_f, if_true, if_false, ite_true, ite_false, true_and, and_true, false_and, and_false, true_or, or_true, false_or, or_false, not_true_eq_false, not_false_eq_true, ite_not, ne_eq, Bool.true_eq_false, Bool.false_eq_true, reduceCtorEq, decide_true, decide_false, Bool.and_true, Bool.and_false, Bool.true_and, Bool.false_and, Bool.or_true, Bool.or_false, Bool.not_true, Bool.not_false, Nat.add_zero, Nat.zero_add, eq_self, Nat.not_lt_zero, Nat.reduceAdd, Nat.reduceMul, Nat.reduceSub, Nat.reduceDiv, Nat.reduceMod, Nat.reduceAnd, Nat.reduceXor, Nat.reduceEqDiff, Nat.reducePow, lt_T, lt_F, le_T, le_F, eq_F, ei, m_ls]
    exact e1
theorem z_winter {σ : qσ} (k : bOK σ.1) : ∃ σ' : qσ, bOK σ'.1 ∧ (∀ h, SC σ h → ∃ h', qX6_winter 44 h = some h' ∧ SC σ' h' ∧ qFr FCa h h') ∧ ∀ h, SM σ h → ∃ h', qX12_winters 62 h = some (nI 1, h') ∧ SM σ' h' ∧ qFr FMa h h' := by
  refine ⟨(bWi σ.1 16, σ.2), bWi_ok k 16, fun h S => ?_, fun h S => ?_⟩
  · unfold qX6_winter
    exact c_win k 16 0 h qm_N (by omega) (by unfold qm_N; omega) S
  · unfold qX12_winters
    exact m_win k 16 0 h qm_N (by omega) (by unfold qm_N; omega) S
/-! wet, dry -/
def bTn (β : qB) (f : Nat) : qB := (bw β, bh β, f, bT β, bR β, bO β)
theorem bit_f {f : Nat} (hf : f ≤ 1) : nI f &&& nI 1 = nI f := by
  have : f = 0 ∨ f = 1 := by omega
  rcases this with rfl | rfl <;> rfl
theorem z_turn {σ : qσ} (k : bOK σ.1) {f : Nat} (hf : f ≤ 1) : ∃ (r : Bool) (σ' : qσ), bOK σ'.1 ∧ (∀ h, SC σ h → ∃ h', qX6_turn 44 (nI f) h = some (bI r, h') ∧ SC σ' h' ∧ qFr FCa h h') ∧ ∀ h, SM σ h → ∃ h', qX12_soaks 62 (nI f) h = some (bI r, h') ∧ SM σ' h' ∧ qFr FMa h h' := by
  have hx := k.2.2.2.2.1
  have mset : ∀ h, SM σ h → SM (bTn σ.1 f, σ.2) (qm_seti h 62 28 (nI f)) := fun h S => by
    obtain ⟨M, s1, s2, s3⟩ := S
    refine ⟨⟨?_, ?_, ?_, sI_eq _ _ _ _, fun i hi => ⟨?_, ?_⟩, fun r hr => ?_⟩, ?_, ?_, ?_⟩
    · rw [sI_ne (by omega)]; exact M.1
    · rw [sI_ne (by omega)]; exact M.2.1
    · rw [sI_ne (by omega)]; exact M.2.2.1
    · rw [sI_ne (by omega)]; exact (M.2.2.2.2.1 i hi).1
    · rw [sI_ne (by omega)]; exact (M.2.2.2.2.1 i hi).2
    · rw [sI_ne (by omega)]; exact M.2.2.2.2.2 r hr
    · rw [sI_ne (by omega)]; exact s1
    · rw [sI_ne (by omega)]; exact s2
    · rw [sI_ne (by omega)]; exact s3
  have ok : bOK (bTn σ.1 f) := ⟨k.1, k.2.1, k.2.2.1, k.2.2.2.1, hf, k.2.2.2.2.2.1, k.2.2.2.2.2.2⟩
  by_cases z : bx σ.1 = f
  · have es : (bTn σ.1 f, σ.2) = σ := by
      rw [← z]
      rfl
    refine ⟨false, (bTn σ.1 f, σ.2), ok, fun h S => ⟨h, ?_, ?_, qFr.refl _ _⟩, fun h S => ⟨_, ?_, mset h S, qFr.seti (Or.inl ⟨rfl, rfl⟩)⟩⟩
    · have C := S.1
      unfold qX6_turn
      simp (disch := omega) only [↓reduceIte, ↓q_m1, ↓q_m2, k_o, k_0, k_1, k_2, k_3, k_4, k_5, k_6, k_7, k_8, k_9, k_10, k_11, k_16, k_17, k_19, k_20, k_24, k_26, k_27, k_30, k_32, k_33, k_35, k_40, k_43, k_48, k_50, k_57, k_60, k_64, k_81, k_86, k_34, k_66, k_322, k_97, k_99, k_100, k_122, k_128, k_160, k_161, k_255, k_256, k_512, k_580, k_600, k_1000, k_4096, k_far, k_o, nI_add, n_mul, n_sub, n_div, n_rem, n_lt, n_le, n_eq, n_cl, n_and, n_or, n_xor, m1_lt, lt_m1, m1_eq, eq_m1, le_m1, m1_le, m2_eq, up_eq, up_ne, n_shl, n_shr, b2_some, let_e, ob_some, bI_0, bI_a, bI_t, bI_f, if_true, if_false, ite_true, ite_false, true_and, and_true, false_and, and_false, true_or, or_true, false_or, or_false, not_true_eq_false, not_false_eq_true, ite_not, ne_eq, Bool.true_eq_false, Bool.false_eq_true, reduceCtorEq, decide_true, decide_false, Bool.and_true, Bool.and_false, Bool.true_and, Bool.false_and, Bool.or_true, Bool.or_false, Bool.not_true, Bool.not_false, Nat.add_zero, Nat.zero_add, eq_self, Nat.not_lt_zero, Nat.reduceAdd, Nat.reduceMul, Nat.reduceSub, Nat.reduceDiv, Nat.reduceMod, Nat.reduceAnd, Nat.reduceXor, Nat.reduceEqDiff, Nat.reducePow, lt_T, lt_F, le_T, le_F, eq_F, C.2.2.1, z]
    · rw [es]; exact S
    · have M := S.1
      unfold qX12_soaks
      simp (disch := omega) only [↓reduceIte, ↓q_m1, ↓q_m2, k_o, k_0, k_1, k_2, k_3, k_4, k_5, k_6, k_7, k_8, k_9, k_10, k_11, k_16, k_17, k_19, k_20, k_24, k_26, k_27, k_30, k_32, k_33, k_35, k_40, k_43, k_48, k_50, k_57, k_60, k_64, k_81, k_86, k_34, k_66, k_322, k_97, k_99, k_100, k_122, k_128, k_160, k_161, k_255, k_256, k_512, k_580, k_600, k_1000, k_4096, k_far, k_o, nI_add, n_mul, n_sub, n_div, n_rem, n_lt, n_le, n_eq, n_cl, n_and, n_or, n_xor, m1_lt, lt_m1, m1_eq, eq_m1, le_m1, m1_le, m2_eq, up_eq, up_ne, n_shl, n_shr, b2_some, let_e, ob_some, bI_0, bI_a, bI_t, bI_f, if_true, if_false, ite_true, ite_false, true_and, and_true, false_and, and_false, true_or, or_true, false_or, or_false, not_true_eq_false, not_false_eq_true, ite_not, ne_eq, Bool.true_eq_false, Bool.false_eq_true, reduceCtorEq, decide_true, decide_false, Bool.and_true, Bool.and_false, Bool.true_and, Bool.false_and, Bool.or_true, Bool.or_false, Bool.not_true, Bool.not_false, Nat.add_zero, Nat.zero_add, eq_self, Nat.not_lt_zero, Nat.reduceAdd, Nat.reduceMul, Nat.reduceSub, Nat.reduceDiv, Nat.reduceMod, Nat.reduceAnd, Nat.reduceXor, Nat.reduceEqDiff, Nat.reducePow, lt_T, lt_F, le_T, le_F, eq_F, M.2.2.2.1, z]
  · refine ⟨true, (bTn σ.1 f, σ.2), ok, fun h S => ⟨qm_seti h 45 5 (nI f), ?_, ?_, qFr.seti (Or.inr (by omega))⟩, fun h S => ⟨_, ?_, mset h S, qFr.seti (Or.inl ⟨rfl, rfl⟩)⟩⟩
    · have C := S.1
      unfold qX6_turn
      simp (disch := omega) only [↓reduceIte, ↓q_m1, ↓q_m2, k_o, k_0, k_1, k_2, k_3, k_4, k_5, k_6, k_7, k_8, k_9, k_10, k_11, k_16, k_17, k_19, k_20, k_24, k_26, k_27, k_30, k_32, k_33, k_35, k_40, k_43, k_48, k_50, k_57, k_60, k_64, k_81, k_86, k_34, k_66, k_322, k_97, k_99, k_100, k_122, k_128, k_160, k_161, k_255, k_256, k_512, k_580, k_600, k_1000, k_4096, k_far, k_o, nI_add, n_mul, n_sub, n_div, n_rem, n_lt, n_le, n_eq, n_cl, n_and, n_or, n_xor, m1_lt, lt_m1, m1_eq, eq_m1, le_m1, m1_le, m2_eq, up_eq, up_ne, n_shl, n_shr, b2_some, let_e, ob_some, bI_0, bI_a, bI_t, bI_f, if_true, if_false, ite_true, ite_false, true_and, and_true, false_and, and_false, true_or, or_true, false_or, or_false, not_true_eq_false, not_false_eq_true, ite_not, ne_eq, Bool.true_eq_false, Bool.false_eq_true, reduceCtorEq, decide_true, decide_false, Bool.and_true, Bool.and_false, Bool.true_and, Bool.false_and, Bool.or_true, Bool.or_false, Bool.not_true, Bool.not_false, Nat.add_zero, Nat.zero_add, eq_self, Nat.not_lt_zero, Nat.reduceAdd, Nat.reduceMul, Nat.reduceSub, Nat.reduceDiv, Nat.reduceMod, Nat.reduceAnd, Nat.reduceXor, Nat.reduceEqDiff, Nat.reducePow, lt_T, lt_F, le_T, le_F, eq_F, C.2.2.1]
      rw [if_pos]
      have : f = 0 ∨ f = 1 := by omega
      rcases this with rfl | rfl <;> rfl
    · obtain ⟨C, Z, s1, s2, s3⟩ := S
      refine ⟨⟨?_, ?_, sI_eq _ _ _ _, fun i hi => ⟨?_, ?_⟩, C.2.2.2.2⟩, fun c hc => ?_, ?_, ?_, ?_⟩
      · rw [sI_ne (by omega)]; exact C.1
      · rw [sI_ne (by omega)]; exact C.2.1
      · rw [sI_ne (by omega)]; exact (C.2.2.2.1 i hi).1
      · rw [sI_ne (by omega)]; exact (C.2.2.2.1 i hi).2
      · rw [sI_ne (by omega), sI_ne (by omega)]; exact Z c hc
      · rw [sI_ne (by omega)]; exact s1
      · rw [sI_ne (by omega)]; exact s2
      · rw [sI_ne (by omega)]; exact s3
    · have M := S.1
      unfold qX12_soaks
      simp (disch := omega) only [↓reduceIte, ↓q_m1, ↓q_m2, k_o, k_0, k_1, k_2, k_3, k_4, k_5, k_6, k_7, k_8, k_9, k_10, k_11, k_16, k_17, k_19, k_20, k_24, k_26, k_27, k_30, k_32, k_33, k_35, k_40, k_43, k_48, k_50, k_57, k_60, k_64, k_81, k_86, k_34, k_66, k_322, k_97, k_99, k_100, k_122, k_128, k_160, k_161, k_255, k_256, k_512, k_580, k_600, k_1000, k_4096, k_far, k_o, nI_add, n_mul, n_sub, n_div, n_rem, n_lt, n_le, n_eq, n_cl, n_and, n_or, n_xor, m1_lt, lt_m1, m1_eq, eq_m1, le_m1, m1_le, m2_eq, up_eq, up_ne, n_shl, n_shr, b2_some, let_e, ob_some, bI_0, bI_a, bI_t, bI_f, if_true, if_false, ite_true, ite_false, true_and, and_true, false_and, and_false, true_or, or_true, false_or, or_false, not_true_eq_false, not_false_eq_true, ite_not, ne_eq, Bool.true_eq_false, Bool.false_eq_true, reduceCtorEq, decide_true, decide_false, Bool.and_true, Bool.and_false, Bool.true_and, Bool.false_and, Bool.or_true, Bool.or_false, Bool.not_true, Bool.not_false, Nat.add_zero, Nat.zero_add, eq_self, Nat.not_lt_zero, Nat.reduceAdd, Nat.reduceMul, Nat.reduceSub, Nat.reduceDiv, Nat.reduceMod, Nat.reduceAnd, Nat.reduceXor, Nat.reduceEqDiff, Nat.reducePow, lt_T, lt_F, le_T, le_F, eq_F, M.2.2.2.1]
