/-! text: a line of a PARISH, both sides. -/
/-- a draft of a PARISH: RODS, PIECES, CUT, their LENGTHS -/
abbrev dP : Type := Nat × Nat × Nat × (Nat → Nat) × (Nat → Nat)
def dRod (d : dP) (v : Nat) : dP := if d.1 < 6 then (d.1 + 1, d.2.1, d.2.2.1, yup d.2.2.2.1 d.1 v, d.2.2.2.2) else d
def dPie (d : dP) (v : Nat) : dP := if d.2.1 < 8 then (d.1, d.2.1 + 1, d.2.2.1, d.2.2.2.1, yup d.2.2.2.2 d.2.1 v) else d
def DcP (d : dP) (h : qm_H) : Prop := d.1 ≤ 6 ∧ d.2.1 ≤ 8 ∧ 1 ≤ d.2.2.1 ∧ d.2.2.1 ≤ 9 ∧ h.1 38 2 = nI d.1 ∧ h.1 38 3 = nI d.2.1 ∧ h.1 38 4 = nI d.2.2.1 ∧ (∀ k, k < d.1 → 1 ≤ d.2.2.2.1 k ∧ d.2.2.2.1 k ≤ 60 ∧ h.1 39 k = nI (d.2.2.2.1 k)) ∧ ∀ k, k < d.2.1 → 1 ≤ d.2.2.2.2 k ∧ d.2.2.2.2 k ≤ 60 ∧ h.1 40 k = nI (d.2.2.2.2 k)
theorem DcP.mk {r p c : Nat} {R P : Nat → Nat} {h : qm_H} (a1 : r ≤ 6) (a2 : p ≤ 8) (a3 : 1 ≤ c) (a4 : c ≤ 9) (a5 : h.1 38 2 = nI r) (a6 : h.1 38 3 = nI p) (a7 : h.1 38 4 = nI c) (a8 : ∀ k, k < r → 1 ≤ R k ∧ R k ≤ 60 ∧ h.1 39 k = nI (R k)) (a9 : ∀ k, k < p → 1 ≤ P k ∧ P k ≤ 60 ∧ h.1 40 k = nI (P k)) : DcP (r, p, c, R, P) h := ⟨a1, a2, a3, a4, a5, a6, a7, a8, a9⟩
theorem DcP.fr {d : dP} {h h' : qm_H} (D : DcP d h) {P : Nat → Nat → Prop} (e : qFr P h h') (i : ∀ a k, 38 ≤ a ∧ a ≤ 40 → ¬ P a k) : DcP d h' := by
  obtain ⟨a1, a2, a3, a4, a5, a6, a7, a8, a9⟩ := D
  exact ⟨a1, a2, a3, a4, by rw [(e _ _ (i _ _ (by omega))).1]; exact a5, by rw [(e _ _ (i _ _ (by omega))).1]; exact a6, by rw [(e _ _ (i _ _ (by omega))).1]; exact a7, fun k hk => ⟨(a8 k hk).1, (a8 k hk).2.1, by rw [(e _ _ (i _ _ (by omega))).1]; exact (a8 k hk).2.2⟩, fun k hk => ⟨(a9 k hk).1, (a9 k hk).2.1, by rw [(e _ _ (i _ _ (by omega))).1]; exact (a9 k hk).2.2⟩⟩
theorem DcP.fp {d : dP} {h h' : qm_H} (D : DcP d h) (e : qFr fP h h') : DcP d h' := D.fr e (fun a k z => by unfold fP; omega)
def LnP (B : Nat → Nat) (n : Nat) (F : fl) (d : dP) (F' : fl) (d' : dP) : Prop :=
  (tW B n F.1 = 7499620 ∧ F' = (fNum B n 1 60 (fAdv B n (fFull B n d.1 6 F))).2 ∧ d' = dRod d (fNum B n 1 60 (fAdv B n (fFull B n d.1 6 F))).1) ∨
  (tW B n F.1 = 1852138852 ∧ F' = (fNum B n 1 60 (fAdv B n (fFull B n d.2.1 8 F))).2 ∧ d' = dPie d (fNum B n 1 60 (fAdv B n (fFull B n d.2.1 8 F))).1) ∨
  (tW B n F.1 = 6518132 ∧ F' = (fNum B n 1 9 (fAdv B n F)).2 ∧ d' = (d.1, d.2.1, (fNum B n 1 9 (fAdv B n F)).1, d.2.2.2.1, d.2.2.2.2)) ∨
  (tW B n F.1 ≠ 7499620 ∧ tW B n F.1 ≠ 1852138852 ∧ tW B n F.1 ≠ 6518132 ∧ F' = fRef B n F ∧ d' = d)
theorem fAdv_note (B : Nat → Nat) (n c q : Nat) (F : fl) : fNote c q (fAdv B n F) = fAdv B n (fNote c q F) := by
  unfold fNote
  by_cases z : F.2.1 = 0
  · rw [if_pos z, if_pos (show (fAdv B n F).2.1 = 0 from z)]
    rfl
  · rw [if_neg z, if_neg (show ¬ (fAdv B n F).2.1 = 0 from z)]
theorem c_addR {d : dP} {h : qm_H} {v : Nat} (D : DcP d h) (h1 : 1 ≤ v) (h2 : v ≤ 60) : ∃ h', qX2_addRod 38 (nI v) h = some h' ∧ DcP (dRod d v) h' ∧ qFr (fun a _ => a = 38 ∨ a = 39) h h' := by
  have D0 := D
  obtain ⟨a1, a2, a3, a4, a5, a6, a7, a8, a9⟩ := D
  unfold dRod
  by_cases q : d.1 < 6
  · rw [if_pos q]
    refine ⟨qm_seti (qm_seti h 39 d.1 (nI v)) 38 2 (nI (d.1 + 1)), ?_, DcP.mk (by omega) a2 a3 a4 (sI_eq _ _ _ _) (by rw [sI_ne (by omega), sI_ne (by omega)]; exact a6) (by rw [sI_ne (by omega), sI_ne (by omega)]; exact a7) (fun k hk => ?_) (fun k hk => by rw [sI_ne (by omega), sI_ne (by omega)]; exact a9 k hk), (qFr.seti (Or.inr rfl)).trans (qFr.seti (Or.inl rfl))⟩
    · unfold qX2_addRod
      simp (disch := omega) only [↓reduceIte, ↓q_m1, ↓q_m2, k_o, k_0, k_1, k_2, k_3, k_4, k_5, k_6, k_7, k_8, k_9, k_10, k_11, k_16, k_17, k_19, k_20, k_24, k_26, k_27, k_30, k_32, k_33, k_35, k_40, k_43, k_48, k_50, k_57, k_60, k_64, k_81, k_86, k_34, k_66, k_322, k_97, k_99, k_100, k_122, k_128, k_160, k_161, k_255, k_256, k_512, k_580, k_600, k_1000, k_4096, k_far, k_o, nI_add, n_mul, n_sub, n_div, n_rem, n_lt, n_le, n_eq, n_cl, n_and, n_or, n_xor, m1_lt, lt_m1, m1_eq, eq_m1, le_m1, m1_le, m2_eq, up_eq, up_ne, n_shl, n_shr, b2_some, let_e, ob_some, bI_0, bI_a, bI_t, bI_f, if_true, if_false, ite_true, ite_false, true_and, and_true, false_and, and_false, true_or, or_true, false_or, or_false, not_true_eq_false, not_false_eq_true, ite_not, ne_eq, Bool.true_eq_false, Bool.false_eq_true, reduceCtorEq, decide_true, decide_false, Bool.and_true, Bool.and_false, Bool.true_and, Bool.false_and, Bool.or_true, Bool.or_false, Bool.not_true, Bool.not_false, Nat.add_zero, Nat.zero_add, eq_self, Nat.not_lt_zero, Nat.reduceAdd, Nat.reduceMul, Nat.reduceSub, Nat.reduceDiv, Nat.reduceMod, Nat.reduceAnd, Nat.reduceXor, Nat.reduceEqDiff, Nat.reducePow, lt_T, lt_F, le_T, le_F, eq_F, a5]
    · unfold yup
      by_cases z : k = d.1
      · rw [if_pos z, z, sI_ne (by omega)]
        exact ⟨h1, h2, sI_eq _ _ _ _⟩
      · rw [if_neg z, sI_ne (by omega), sI_ne (by omega)]
        exact a8 k (by omega)
  · rw [if_neg q]
    refine ⟨h, ?_, D0, qFr.refl _ _⟩
    unfold qX2_addRod
    simp (disch := omega) only [↓reduceIte, ↓q_m1, ↓q_m2, k_o, k_0, k_1, k_2, k_3, k_4, k_5, k_6, k_7, k_8, k_9, k_10, k_11, k_16, k_17, k_19, k_20, k_24, k_26, k_27, k_30, k_32, k_33, k_35, k_40, k_43, k_48, k_50, k_57, k_60, k_64, k_81, k_86, k_34, k_66, k_322, k_97, k_99, k_100, k_122, k_128, k_160, k_161, k_255, k_256, k_512, k_580, k_600, k_1000, k_4096, k_far, k_o, nI_add, n_mul, n_sub, n_div, n_rem, n_lt, n_le, n_eq, n_cl, n_and, n_or, n_xor, m1_lt, lt_m1, m1_eq, eq_m1, le_m1, m1_le, m2_eq, up_eq, up_ne, n_shl, n_shr, b2_some, let_e, ob_some, bI_0, bI_a, bI_t, bI_f, if_true, if_false, ite_true, ite_false, true_and, and_true, false_and, and_false, true_or, or_true, false_or, or_false, not_true_eq_false, not_false_eq_true, ite_not, ne_eq, Bool.true_eq_false, Bool.false_eq_true, reduceCtorEq, decide_true, decide_false, Bool.and_true, Bool.and_false, Bool.true_and, Bool.false_and, Bool.or_true, Bool.or_false, Bool.not_true, Bool.not_false, Nat.add_zero, Nat.zero_add, eq_self, Nat.not_lt_zero, Nat.reduceAdd, Nat.reduceMul, Nat.reduceSub, Nat.reduceDiv, Nat.reduceMod, Nat.reduceAnd, Nat.reduceXor, Nat.reduceEqDiff, Nat.reducePow, lt_T, lt_F, le_T, le_F, eq_F, a5]
theorem c_addP {d : dP} {h : qm_H} {v : Nat} (D : DcP d h) (h1 : 1 ≤ v) (h2 : v ≤ 60) : ∃ h', qX2_addPiece 38 (nI v) h = some h' ∧ DcP (dPie d v) h' ∧ qFr (fun a _ => a = 38 ∨ a = 40) h h' := by
  have D0 := D
  obtain ⟨a1, a2, a3, a4, a5, a6, a7, a8, a9⟩ := D
  unfold dPie
  by_cases q : d.2.1 < 8
  · rw [if_pos q]
    refine ⟨qm_seti (qm_seti h 40 d.2.1 (nI v)) 38 3 (nI (d.2.1 + 1)), ?_, DcP.mk a1 (by omega) a3 a4 (by rw [sI_ne (by omega), sI_ne (by omega)]; exact a5) (sI_eq _ _ _ _) (by rw [sI_ne (by omega), sI_ne (by omega)]; exact a7) (fun k hk => by rw [sI_ne (by omega), sI_ne (by omega)]; exact a8 k hk) (fun k hk => ?_), (qFr.seti (Or.inr rfl)).trans (qFr.seti (Or.inl rfl))⟩
    · unfold qX2_addPiece
      simp (disch := omega) only [↓reduceIte, ↓q_m1, ↓q_m2, k_o, k_0, k_1, k_2, k_3, k_4, k_5, k_6, k_7, k_8, k_9, k_10, k_11, k_16, k_17, k_19, k_20, k_24, k_26, k_27, k_30, k_32, k_33, k_35, k_40, k_43, k_48, k_50, k_57, k_60, k_64, k_81, k_86, k_34, k_66, k_322, k_97, k_99, k_100, k_122, k_128, k_160, k_161, k_255, k_256, k_512, k_580, k_600, k_1000, k_4096, k_far, k_o, nI_add, n_mul, n_sub, n_div, n_rem, n_lt, n_le, n_eq, n_cl, n_and, n_or, n_xor, m1_lt, lt_m1, m1_eq, eq_m1, le_m1, m1_le, m2_eq, up_eq, up_ne, n_shl, n_shr, b2_some, let_e, ob_some, bI_0, bI_a, bI_t, bI_f, if_true, if_false, ite_true, ite_false, true_and, and_true, false_and, and_false, true_or, or_true, false_or, or_false, not_true_eq_false, not_false_eq_true, ite_not, ne_eq, Bool.true_eq_false, Bool.false_eq_true, reduceCtorEq, decide_true, decide_false, Bool.and_true, Bool.and_false, Bool.true_and, Bool.false_and, Bool.or_true, Bool.or_false, Bool.not_true, Bool.not_false, Nat.add_zero, Nat.zero_add, eq_self, Nat.not_lt_zero, Nat.reduceAdd, Nat.reduceMul, Nat.reduceSub, Nat.reduceDiv, Nat.reduceMod, Nat.reduceAnd, Nat.reduceXor, Nat.reduceEqDiff, Nat.reducePow, lt_T, lt_F, le_T, le_F, eq_F, a6]
    · unfold yup
      by_cases z : k = d.2.1
      · rw [if_pos z, z, sI_ne (by omega)]
        exact ⟨h1, h2, sI_eq _ _ _ _⟩
      · rw [if_neg z, sI_ne (by omega), sI_ne (by omega)]
        exact a9 k (by omega)
  · rw [if_neg q]
    refine ⟨h, ?_, D0, qFr.refl _ _⟩
    unfold qX2_addPiece
    simp (disch := omega) only [↓reduceIte, ↓q_m1, ↓q_m2, k_o, k_0, k_1, k_2, k_3, k_4, k_5, k_6, k_7, k_8, k_9, k_10, k_11, k_16, k_17, k_19, k_20, k_24, k_26, k_27, k_30, k_32, k_33, k_35, k_40, k_43, k_48, k_50, k_57, k_60, k_64, k_81, k_86, k_34, k_66, k_322, k_97, k_99, k_100, k_122, k_128, k_160, k_161, k_255, k_256, k_512, k_580, k_600, k_1000, k_4096, k_far, k_o, nI_add, n_mul, n_sub, n_div, n_rem, n_lt, n_le, n_eq, n_cl, n_and, n_or, n_xor, m1_lt, lt_m1, m1_eq, eq_m1, le_m1, m1_le, m2_eq, up_eq, up_ne, n_shl, n_shr, b2_some, let_e, ob_some, bI_0, bI_a, bI_t, bI_f, if_true, if_false, ite_true, ite_false, true_and, and_true, false_and, and_false, true_or, or_true, false_or, or_false, not_true_eq_false, not_false_eq_true, ite_not, ne_eq, Bool.true_eq_false, Bool.false_eq_true, reduceCtorEq, decide_true, decide_false, Bool.and_true, Bool.and_false, Bool.true_and, Bool.false_and, Bool.or_true, Bool.or_false, Bool.not_true, Bool.not_false, Nat.add_zero, Nat.zero_add, eq_self, Nat.not_lt_zero, Nat.reduceAdd, Nat.reduceMul, Nat.reduceSub, Nat.reduceDiv, Nat.reduceMod, Nat.reduceAnd, Nat.reduceXor, Nat.reduceEqDiff, Nat.reducePow, lt_T, lt_F, le_T, le_F, eq_F, a6]
/-- too many are noted behind the word -/
theorem c_full {B : Nat → Nat} {n m most : Nat} {F : fl} {h : qm_H} (C : fC B n (fAdv B n F) h) (hq : tS B n F.1 ≤ 600) : (m < most → fC B n (fAdv B n (fFull B n m most F)) h) ∧ (¬ m < most → ∃ h', qX3_note 31 (nI 3) (nI (tS B n F.1)) h = some h' ∧ fC B n (fAdv B n (fFull B n m most F)) h' ∧ qFr fP h h') := by
  unfold fFull
  refine ⟨fun q => ?_, fun q => ?_⟩
  · rw [if_pos q]; exact C
  · rw [if_neg q, ← fAdv_note]
    exact c_note C (by omega) (by omega) hq
theorem c_lineP {B : Nat → Nat} {n : Nat} {F : fl} {h : qm_H} {d : dP} (C : fC B n F h) (h1 : F.2.1 ≠ 1) (D : DcP d h) : ∃ F' d' h', qX3_readParishLine 31 h = some h' ∧ LnP B n F d F' d' ∧ fC B n F' h' ∧ DcP d' h' ∧ qFr cP h h' := by
  have hn := C.1.1
  have s1 := t_S B C.2.1
  have e43 := C.2.2.1.2.1
  by_cases w2 : tW B n F.1 = 7499620
  · obtain ⟨ha, a1, a2, a3⟩ := c_word1 (k := 2) C (by omega) h1 w2
    have D1 := D.fp a3
    have er := D1.2.2.2.2.1
    have hr := D1.1
    have fu := c_full (m := d.1) (most := 6) a2 (by omega)
    obtain ⟨hb, b1, b2, b3⟩ : ∃ hb, qX3_readParishLine 31 h = qX3_readParishLine_35 31 hb ∧ fC B n (fAdv B n (fFull B n d.1 6 F)) hb ∧ qFr fP ha hb := by
      by_cases q : d.1 < 6
      · refine ⟨ha, ?_, fu.1 q, qFr.refl _ _⟩
        unfold qX3_readParishLine
        simp (disch := omega) only [↓reduceIte, ↓q_m1, ↓q_m2, k_o, k_0, k_1, k_2, k_3, k_4, k_5, k_6, k_7, k_8, k_9, k_10, k_11, k_16, k_17, k_19, k_20, k_24, k_26, k_27, k_30, k_32, k_33, k_35, k_40, k_43, k_48, k_50, k_57, k_60, k_64, k_81, k_86, k_34, k_66, k_322, k_97, k_99, k_100, k_122, k_128, k_160, k_161, k_255, k_256, k_512, k_580, k_600, k_1000, k_4096, k_far, k_o, nI_add, n_mul, n_sub, n_div, n_rem, n_lt, n_le, n_eq, n_cl, n_and, n_or, n_xor, m1_lt, lt_m1, m1_eq, eq_m1, le_m1, m1_le, m2_eq, up_eq, up_ne, n_shl, n_shr, b2_some, let_e, ob_some, bI_0, bI_a, bI_t, bI_f, if_true, if_false, ite_true, ite_false, true_and, and_true, false_and, and_false, true_or, or_true, false_or, or_false, not_true_eq_false, not_false_eq_true, ite_not, ne_eq, Bool.true_eq_false, Bool.false_eq_true, reduceCtorEq, decide_true, decide_false, Bool.and_true, Bool.and_false, Bool.true_and, Bool.false_and, Bool.or_true, Bool.or_false, Bool.not_true, Bool.not_false, Nat.add_zero, Nat.zero_add, eq_self, Nat.not_lt_zero, Nat.reduceAdd, Nat.reduceMul, Nat.reduceSub, Nat.reduceDiv, Nat.reduceMod, Nat.reduceAnd, Nat.reduceXor, Nat.reduceEqDiff, Nat.reducePow, lt_T, lt_F, le_T, le_F, eq_F, a1, er]
      · obtain ⟨hb, c1, c2, c3⟩ := fu.2 q
        refine ⟨hb, ?_, c2, c3⟩
        unfold qX3_readParishLine
        simp (disch := omega) only [↓reduceIte, ↓q_m1, ↓q_m2, k_o, k_0, k_1, k_2, k_3, k_4, k_5, k_6, k_7, k_8, k_9, k_10, k_11, k_16, k_17, k_19, k_20, k_24, k_26, k_27, k_30, k_32, k_33, k_35, k_40, k_43, k_48, k_50, k_57, k_60, k_64, k_81, k_86, k_34, k_66, k_322, k_97, k_99, k_100, k_122, k_128, k_160, k_161, k_255, k_256, k_512, k_580, k_600, k_1000, k_4096, k_far, k_o, nI_add, n_mul, n_sub, n_div, n_rem, n_lt, n_le, n_eq, n_cl, n_and, n_or, n_xor, m1_lt, lt_m1, m1_eq, eq_m1, le_m1, m1_le, m2_eq, up_eq, up_ne, n_shl, n_shr, b2_some, let_e, ob_some, bI_0, bI_a, bI_t, bI_f, if_true, if_false, ite_true, ite_false, true_and, and_true, false_and, and_false, true_or, or_true, false_or, or_false, not_true_eq_false, not_false_eq_true, ite_not, ne_eq, Bool.true_eq_false, Bool.false_eq_true, reduceCtorEq, decide_true, decide_false, Bool.and_true, Bool.and_false, Bool.true_and, Bool.false_and, Bool.or_true, Bool.or_false, Bool.not_true, Bool.not_false, Nat.add_zero, Nat.zero_add, eq_self, Nat.not_lt_zero, Nat.reduceAdd, Nat.reduceMul, Nat.reduceSub, Nat.reduceDiv, Nat.reduceMod, Nat.reduceAnd, Nat.reduceXor, Nat.reduceEqDiff, Nat.reducePow, lt_T, lt_F, le_T, le_F, eq_F, a1, er, e43, c1]
    obtain ⟨hc, d1, d2, d3⟩ := c_num (lo := 1) (hi := 60) b2 (by omega) (by omega)
    have r1 := fNum_r B n (lo := 1) (hi := 60) (fAdv B n (fFull B n d.1 6 F)) (by omega)
    obtain ⟨hd, e1, e2, e3⟩ := c_addR ((D1.fp b3).fp d3) r1.1 r1.2
    refine ⟨_, _, hd, ?_, Or.inl ⟨w2, rfl, rfl⟩, d2.fr e3 (fun a k z => by omega), e2, (((a3.trans b3).trans d3).mono (fun _ _ z => z.c)).trans (e3.mono (fun a k z => by unfold cP; omega))⟩
    rw [b1]
    unfold qX3_readParishLine_35
    simp (disch := omega) only [↓reduceIte, ↓q_m1, ↓q_m2, k_o, k_0, k_1, k_2, k_3, k_4, k_5, k_6, k_7, k_8, k_9, k_10, k_11, k_16, k_17, k_19, k_20, k_24, k_26, k_27, k_30, k_32, k_33, k_35, k_40, k_43, k_48, k_50, k_57, k_60, k_64, k_81, k_86, k_34, k_66, k_322, k_97, k_99, k_100, k_122, k_128, k_160, k_161, k_255, k_256, k_512, k_580, k_600, k_1000, k_4096, k_far, k_o, nI_add, n_mul, n_sub, n_div, n_rem, n_lt, n_le, n_eq, n_cl, n_and, n_or, n_xor, m1_lt, lt_m1, m1_eq, eq_m1, le_m1, m1_le, m2_eq, up_eq, up_ne, n_shl, n_shr, b2_some, let_e, ob_some, bI_0, bI_a, bI_t, bI_f, if_true, if_false, ite_true, ite_false, true_and, and_true, false_and, and_false, true_or, or_true, false_or, or_false, not_true_eq_false, not_false_eq_true, ite_not, ne_eq, Bool.true_eq_false, Bool.false_eq_true, reduceCtorEq, decide_true, decide_false, Bool.and_true, Bool.and_false, Bool.true_and, Bool.false_and, Bool.or_true, Bool.or_false, Bool.not_true, Bool.not_false, Nat.add_zero, Nat.zero_add, eq_self, Nat.not_lt_zero, Nat.reduceAdd, Nat.reduceMul, Nat.reduceSub, Nat.reduceDiv, Nat.reduceMod, Nat.reduceAnd, Nat.reduceXor, Nat.reduceEqDiff, Nat.reducePow, lt_T, lt_F, le_T, le_F, eq_F, d1, e1]
  · have x2 := c_word0 (k := 2) C (by omega) (Or.inr w2)
    by_cases w11 : tW B n F.1 = 1852138852
    · obtain ⟨ha, a1, a2, a3⟩ := c_word1 (k := 11) C (by omega) h1 w11
      have D1 := D.fp a3
      have er := D1.2.2.2.2.2.1
      have hr := D1.2.1
      have fu := c_full (m := d.2.1) (most := 8) a2 (by omega)
      obtain ⟨hb, b1, b2, b3⟩ : ∃ hb, qX3_readParishLine 31 h = qX3_readParishLine_79 31 hb ∧ fC B n (fAdv B n (fFull B n d.2.1 8 F)) hb ∧ qFr fP ha hb := by
        by_cases q : d.2.1 < 8
        · refine ⟨ha, ?_, fu.1 q, qFr.refl _ _⟩
          unfold qX3_readParishLine
          simp (disch := omega) only [↓reduceIte, ↓q_m1, ↓q_m2, k_o, k_0, k_1, k_2, k_3, k_4, k_5, k_6, k_7, k_8, k_9, k_10, k_11, k_16, k_17, k_19, k_20, k_24, k_26, k_27, k_30, k_32, k_33, k_35, k_40, k_43, k_48, k_50, k_57, k_60, k_64, k_81, k_86, k_34, k_66, k_322, k_97, k_99, k_100, k_122, k_128, k_160, k_161, k_255, k_256, k_512, k_580, k_600, k_1000, k_4096, k_far, k_o, nI_add, n_mul, n_sub, n_div, n_rem, n_lt, n_le, n_eq, n_cl, n_and, n_or, n_xor, m1_lt, lt_m1, m1_eq, eq_m1, le_m1, m1_le, m2_eq, up_eq, up_ne, n_shl, n_shr, b2_some, let_e, ob_some, bI_0, bI_a, bI_t, bI_f, if_true, if_false, ite_true, ite_false, true_and, and_true, false_and, and_false, true_or, or_true, false_or, or_false, not_true_eq_false, not_false_eq_true, ite_not, ne_eq, Bool.true_eq_false, Bool.false_eq_true, reduceCtorEq, decide_true, decide_false, Bool.and_true, Bool.and_false, Bool.true_and, Bool.false_and, Bool.or_true, Bool.or_false, Bool.not_true, Bool.not_false, Nat.add_zero, Nat.zero_add, eq_self, Nat.not_lt_zero, Nat.reduceAdd, Nat.reduceMul, Nat.reduceSub, Nat.reduceDiv, Nat.reduceMod, Nat.reduceAnd, Nat.reduceXor, Nat.reduceEqDiff, Nat.reducePow, lt_T, lt_F, le_T, le_F, eq_F, x2, a1, er]
        · obtain ⟨hb, c1, c2, c3⟩ := fu.2 q
          refine ⟨hb, ?_, c2, c3⟩
          unfold qX3_readParishLine
          simp (disch := omega) only [↓reduceIte, ↓q_m1, ↓q_m2, k_o, k_0, k_1, k_2, k_3, k_4, k_5, k_6, k_7, k_8, k_9, k_10, k_11, k_16, k_17, k_19, k_20, k_24, k_26, k_27, k_30, k_32, k_33, k_35, k_40, k_43, k_48, k_50, k_57, k_60, k_64, k_81, k_86, k_34, k_66, k_322, k_97, k_99, k_100, k_122, k_128, k_160, k_161, k_255, k_256, k_512, k_580, k_600, k_1000, k_4096, k_far, k_o, nI_add, n_mul, n_sub, n_div, n_rem, n_lt, n_le, n_eq, n_cl, n_and, n_or, n_xor, m1_lt, lt_m1, m1_eq, eq_m1, le_m1, m1_le, m2_eq, up_eq, up_ne, n_shl, n_shr, b2_some, let_e, ob_some, bI_0, bI_a, bI_t, bI_f, if_true, if_false, ite_true, ite_false, true_and, and_true, false_and, and_false, true_or, or_true, false_or, or_false, not_true_eq_false, not_false_eq_true, ite_not, ne_eq, Bool.true_eq_false, Bool.false_eq_true, reduceCtorEq, decide_true, decide_false, Bool.and_true, Bool.and_false, Bool.true_and, Bool.false_and, Bool.or_true, Bool.or_false, Bool.not_true, Bool.not_false, Nat.add_zero, Nat.zero_add, eq_self, Nat.not_lt_zero, Nat.reduceAdd, Nat.reduceMul, Nat.reduceSub, Nat.reduceDiv, Nat.reduceMod, Nat.reduceAnd, Nat.reduceXor, Nat.reduceEqDiff, Nat.reducePow, lt_T, lt_F, le_T, le_F, eq_F, x2, a1, er, e43, c1]
      obtain ⟨hc, d1, d2, d3⟩ := c_num (lo := 1) (hi := 60) b2 (by omega) (by omega)
      have r1 := fNum_r B n (lo := 1) (hi := 60) (fAdv B n (fFull B n d.2.1 8 F)) (by omega)
      obtain ⟨hd, e1, e2, e3⟩ := c_addP ((D1.fp b3).fp d3) r1.1 r1.2
      refine ⟨_, _, hd, ?_, Or.inr (Or.inl ⟨w11, rfl, rfl⟩), d2.fr e3 (fun a k z => by omega), e2, (((a3.trans b3).trans d3).mono (fun _ _ z => z.c)).trans (e3.mono (fun a k z => by unfold cP; omega))⟩
      rw [b1]
      unfold qX3_readParishLine_79
      simp (disch := omega) only [↓reduceIte, ↓q_m1, ↓q_m2, k_o, k_0, k_1, k_2, k_3, k_4, k_5, k_6, k_7, k_8, k_9, k_10, k_11, k_16, k_17, k_19, k_20, k_24, k_26, k_27, k_30, k_32, k_33, k_35, k_40, k_43, k_48, k_50, k_57, k_60, k_64, k_81, k_86, k_34, k_66, k_322, k_97, k_99, k_100, k_122, k_128, k_160, k_161, k_255, k_256, k_512, k_580, k_600, k_1000, k_4096, k_far, k_o, nI_add, n_mul, n_sub, n_div, n_rem, n_lt, n_le, n_eq, n_cl, n_and, n_or, n_xor, m1_lt, lt_m1, m1_eq, eq_m1, le_m1, m1_le, m2_eq, up_eq, up_ne, n_shl, n_shr, b2_some, let_e, ob_some, bI_0, bI_a, bI_t, bI_f, if_true, if_false, ite_true, ite_false, true_and, and_true, false_and, and_false, true_or, or_true, false_or, or_false, not_true_eq_false, not_false_eq_true, ite_not, ne_eq, Bool.true_eq_false, Bool.false_eq_true, reduceCtorEq, decide_true, decide_false, Bool.and_true, Bool.and_false, Bool.true_and, Bool.false_and, Bool.or_true, Bool.or_false, Bool.not_true, Bool.not_false, Nat.add_zero, Nat.zero_add, eq_self, Nat.not_lt_zero, Nat.reduceAdd, Nat.reduceMul, Nat.reduceSub, Nat.reduceDiv, Nat.reduceMod, Nat.reduceAnd, Nat.reduceXor, Nat.reduceEqDiff, Nat.reducePow, lt_T, lt_F, le_T, le_F, eq_F, d1, e1]
    · have x11 := c_word0 (k := 11) C (by omega) (Or.inr w11)
      by_cases w12 : tW B n F.1 = 6518132
      · obtain ⟨ha, a1, a2, a3⟩ := c_word1 (k := 12) C (by omega) h1 w12
        obtain ⟨hc, d1, d2, d3⟩ := c_num (lo := 1) (hi := 9) a2 (by omega) (by omega)
        have r1 := fNum_r B n (lo := 1) (hi := 9) (fAdv B n F) (by omega)
        obtain ⟨p1, p2, p3, p4, p5, p6, p7, p8, p9⟩ := (D.fp a3).fp d3
        refine ⟨_, _, qm_seti hc 38 4 (nI (fNum B n 1 9 (fAdv B n F)).1), ?_, Or.inr (Or.inr (Or.inl ⟨w12, rfl, rfl⟩)), d2.mv (fun k => sI_ne (by omega)) (fun k => sI_ne (by omega)) (sI_ne (by omega)) (sI_ne (by omega)), DcP.mk p1 p2 r1.1 r1.2 (by rw [sI_ne (by omega)]; exact p5) (by rw [sI_ne (by omega)]; exact p6) (sI_eq _ _ _ _) (fun k hk => by rw [sI_ne (by omega)]; exact p8 k hk) (fun k hk => by rw [sI_ne (by omega)]; exact p9 k hk), ((a3.trans d3).mono (fun _ _ z => z.c)).trans (qFr.seti (by unfold cP; omega))⟩
        unfold qX3_readParishLine
        simp (disch := omega) only [↓reduceIte, ↓q_m1, ↓q_m2, k_o, k_0, k_1, k_2, k_3, k_4, k_5, k_6, k_7, k_8, k_9, k_10, k_11, k_16, k_17, k_19, k_20, k_24, k_26, k_27, k_30, k_32, k_33, k_35, k_40, k_43, k_48, k_50, k_57, k_60, k_64, k_81, k_86, k_34, k_66, k_322, k_97, k_99, k_100, k_122, k_128, k_160, k_161, k_255, k_256, k_512, k_580, k_600, k_1000, k_4096, k_far, k_o, nI_add, n_mul, n_sub, n_div, n_rem, n_lt, n_le, n_eq, n_cl, n_and, n_or, n_xor, m1_lt, lt_m1, m1_eq, eq_m1, le_m1, m1_le, m2_eq, up_eq, up_ne, n_shl, n_shr, b2_some, let_e, ob_some, bI_0, bI_a, bI_t, bI_f, if_true, if_false, ite_true, ite_false, true_and, and_true, false_and, and_false, true_or, or_true, false_or, or_false, not_true_eq_false, not_false_eq_true, ite_not, ne_eq, Bool.true_eq_false, Bool.false_eq_true, reduceCtorEq, decide_true, decide_false, Bool.and_true, Bool.and_false, Bool.true_and, Bool.false_and, Bool.or_true, Bool.or_false, Bool.not_true, Bool.not_false, Nat.add_zero, Nat.zero_add, eq_self, Nat.not_lt_zero, Nat.reduceAdd, Nat.reduceMul, Nat.reduceSub, Nat.reduceDiv, Nat.reduceMod, Nat.reduceAnd, Nat.reduceXor, Nat.reduceEqDiff, Nat.reducePow, lt_T, lt_F, le_T, le_F, eq_F, x2, x11, a1, d1]
      · have x12 := c_word0 (k := 12) C (by omega) (Or.inr w12)
        obtain ⟨ha, a1, a2, a3⟩ := c_ref C
        refine ⟨_, _, ha, ?_, Or.inr (Or.inr (Or.inr ⟨w2, w11, w12, rfl, rfl⟩)), a2, D.fp a3, a3.mono (fun _ _ z => z.c)⟩
        unfold qX3_readParishLine
        simp (disch := omega) only [↓reduceIte, ↓q_m1, ↓q_m2, k_o, k_0, k_1, k_2, k_3, k_4, k_5, k_6, k_7, k_8, k_9, k_10, k_11, k_16, k_17, k_19, k_20, k_24, k_26, k_27, k_30, k_32, k_33, k_35, k_40, k_43, k_48, k_50, k_57, k_60, k_64, k_81, k_86, k_34, k_66, k_322, k_97, k_99, k_100, k_122, k_128, k_160, k_161, k_255, k_256, k_512, k_580, k_600, k_1000, k_4096, k_far, k_o, nI_add, n_mul, n_sub, n_div, n_rem, n_lt, n_le, n_eq, n_cl, n_and, n_or, n_xor, m1_lt, lt_m1, m1_eq, eq_m1, le_m1, m1_le, m2_eq, up_eq, up_ne, n_shl, n_shr, b2_some, let_e, ob_some, bI_0, bI_a, bI_t, bI_f, if_true, if_false, ite_true, ite_false, true_and, and_true, false_and, and_false, true_or, or_true, false_or, or_false, not_true_eq_false, not_false_eq_true, ite_not, ne_eq, Bool.true_eq_false, Bool.false_eq_true, reduceCtorEq, decide_true, decide_false, Bool.and_true, Bool.and_false, Bool.true_and, Bool.false_and, Bool.or_true, Bool.or_false, Bool.not_true, Bool.not_false, Nat.add_zero, Nat.zero_add, eq_self, Nat.not_lt_zero, Nat.reduceAdd, Nat.reduceMul, Nat.reduceSub, Nat.reduceDiv, Nat.reduceMod, Nat.reduceAnd, Nat.reduceXor, Nat.reduceEqDiff, Nat.reducePow, lt_T, lt_F, le_T, le_F, eq_F, x2, x11, x12, a1]
/-- the reference's draft of a PARISH -/
def DmP (F : fl) (d : dP) (h : qm_H) : Prop := d.1 ≤ 6 ∧ d.2.1 ≤ 8 ∧ h.1 72 0 = nI d.1 ∧ h.1 72 1 = nI d.2.1 ∧ (F.2.1 = 0 → h.1 72 2 = nI d.2.2.1 ∧ (∀ k, k < d.1 → h.1 72 (3 + k) = nI (d.2.2.2.1 k)) ∧ ∀ k, k < d.2.1 → h.1 72 (9 + k) = nI (d.2.2.2.2 k))
theorem DmP.mk {F : fl} {r p c : Nat} {R P : Nat → Nat} {h : qm_H} (a1 : r ≤ 6) (a2 : p ≤ 8) (a3 : h.1 72 0 = nI r) (a4 : h.1 72 1 = nI p) (a5 : F.2.1 = 0 → h.1 72 2 = nI c ∧ (∀ k, k < r → h.1 72 (3 + k) = nI (R k)) ∧ ∀ k, k < p → h.1 72 (9 + k) = nI (P k)) : DmP F (r, p, c, R, P) h := ⟨a1, a2, a3, a4, a5⟩
theorem DmP.mv {F G : fl} {d : dP} {h h' : qm_H} (D : DmP F d h) (e : ∀ k, h'.1 72 k = h.1 72 k) (i : G.2.1 = 0 → F.2.1 = 0) : DmP G d h' := by
  obtain ⟨a1, a2, a3, a4, a5⟩ := D
  refine ⟨a1, a2, by rw [e]; exact a3, by rw [e]; exact a4, fun z => ?_⟩
  simp only [e]
  exact a5 (i z)
theorem m_lineP {B : Nat → Nat} {n : Nat} {F F' : fl} {h : qm_H} {d d' : dP} (M : fM B n F h) (D : DmP F d h) (L : LnP B n F d F' d') : mOut B n DmP (qX12_lineOf 62 (nI 2) (lN (tW B n F.1)) (nI (tS B n F.1)) h) h F' d' := by
  have tl := tW_lt B n F.1
  rcases L with ⟨w, e1, e2⟩ | ⟨w, e1, e2⟩ | ⟨w, e1, e2⟩ | ⟨w2, w11, w12, e1, e2⟩
  · have gf := fFull_1 (B := B) (n := n) (m := d.1) (most := 6) M.2.2.1
    have k1 := tW_K (B := B) (n := n) (p := F.1) (by omega)
    obtain ⟨h1, a1, a2, a3⟩ := m_full (c := 0) (m := d.1) (most := 6) M (by omega) D.2.2.1 D.1 (by omega)
    have a2 : fMw B n (fFull B n d.1 6 F) h1 := a2
    obtain ⟨h2, b1, b2, b3⟩ := m_fadv a2 (by rw [gf.1]; omega)
    have D2 : DmP (fAdv B n (fFull B n d.1 6 F)) d h2 := D.mv (fun k => by rw [(b3 _ _ (by unfold mtk; omega)).1, (a3 _ _ (by omega)).1]) (fun z => (gf.2.2 z).1)
    have fr2 : qFr rP h h2 := (a3.mono (fun a k z => by unfold rP; omega)).trans (b3.mono (fun _ _ y => y.r))
    rw [e1, e2]
    clear e1 e2
    generalize fAdv B n (fFull B n d.1 6 F) = G at *
    rcases m_take (k := 0) (lo := 1) (hi := 60) b2 (by omega) (by omega) (by omega) with ⟨z, h3, c1, c2, c3⟩ | ⟨z, v, h3, c1, c2, c3, c4, c5, c6⟩
    · refine Or.inl ⟨z, h3, ?_, c2, fr2.trans (c3.mono (fun a k y => (y.u (k := 0) (m := 1) (by omega) (by omega)).r))⟩
      rw [w]
      unfold qX12_lineOf qX12_parishLine qX12_parishLine_29 qX12_parishLine_66 qX12_parishLine_70 qX12_parishLine_92
      simp (disch := omega) only [↓reduceIte, ↓q_m1, ↓q_m2, k_o, k_0, k_1, k_2, k_3, k_4, k_5, k_6, k_7, k_8, k_9, k_10, k_11, k_16, k_17, k_19, k_20, k_24, k_26, k_27, k_30, k_32, k_33, k_35, k_40, k_43, k_48, k_50, k_57, k_60, k_64, k_81, k_86, k_34, k_66, k_322, k_97, k_99, k_100, k_122, k_128, k_160, k_161, k_255, k_256, k_512, k_580, k_600, k_1000, k_4096, k_far, k_o, nI_add, n_mul, n_sub, n_div, n_rem, n_lt, n_le, n_eq, n_cl, n_and, n_or, n_xor, m1_lt, lt_m1, m1_eq, eq_m1, le_m1, m1_le, m2_eq, up_eq, up_ne, n_shl, n_shr, b2_some, let_e, ob_some, bI_0, bI_a, bI_t, bI_f, if_true, if_false, ite_true, ite_false, true_and, and_true, false_and, and_false, true_or, or_true, false_or, or_false, not_true_eq_false, not_false_eq_true, ite_not, ne_eq, Bool.true_eq_false, Bool.false_eq_true, reduceCtorEq, decide_true, decide_false, Bool.and_true, Bool.and_false, Bool.true_and, Bool.false_and, Bool.or_true, Bool.or_false, Bool.not_true, Bool.not_false, Nat.add_zero, Nat.zero_add, eq_self, Nat.not_lt_zero, Nat.reduceAdd, Nat.reduceMul, Nat.reduceSub, Nat.reduceDiv, Nat.reduceMod, Nat.reduceAnd, Nat.reduceXor, Nat.reduceEqDiff, Nat.reducePow, lt_T, lt_F, le_T, le_F, eq_F, l_cmp0, wk2, wk11, wk12, ylN_eq, a1, b1, c1]
    · have q72 : ∀ k, h3.1 72 k = h2.1 72 k := fun k => (c6 _ _ (by unfold mT mP; omega)).1
      obtain ⟨h4, i1, i2, i3, i4, i5⟩ := m_keep (c := 0) (fr := 3) (wd := 1) (m := d.1) (most := 6) (h := h3) (by omega) (by omega) D.1 (by omega) (by omega) (by rw [q72]; exact D2.2.2.1)
      refine Or.inr ⟨z, h4, ?_, c2.mv (fun k _ _ _ => (i5 _ _ (by omega)).1) (i5 _ _ (by omega)).2 (fun j => (i5 _ _ (by omega)).1), ?_, (fr2.trans (c6.mono (fun a k y => (y.u (k := 0) (m := 1) (by omega) (by omega)).r))).trans (i5.mono (fun a k z => by unfold rP; omega))⟩
      · rw [w]
        unfold qX12_lineOf qX12_parishLine qX12_parishLine_29 qX12_parishLine_66 qX12_parishLine_70 qX12_parishLine_92 qX12_parishLine_137 qX12_parishLine_167
        simp (disch := omega) only [↓reduceIte, ↓q_m1, ↓q_m2, k_o, k_0, k_1, k_2, k_3, k_4, k_5, k_6, k_7, k_8, k_9, k_10, k_11, k_16, k_17, k_19, k_20, k_24, k_26, k_27, k_30, k_32, k_33, k_35, k_40, k_43, k_48, k_50, k_57, k_60, k_64, k_81, k_86, k_34, k_66, k_322, k_97, k_99, k_100, k_122, k_128, k_160, k_161, k_255, k_256, k_512, k_580, k_600, k_1000, k_4096, k_far, k_o, nI_add, n_mul, n_sub, n_div, n_rem, n_lt, n_le, n_eq, n_cl, n_and, n_or, n_xor, m1_lt, lt_m1, m1_eq, eq_m1, le_m1, m1_le, m2_eq, up_eq, up_ne, n_shl, n_shr, b2_some, let_e, ob_some, bI_0, bI_a, bI_t, bI_f, if_true, if_false, ite_true, ite_false, true_and, and_true, false_and, and_false, true_or, or_true, false_or, or_false, not_true_eq_false, not_false_eq_true, ite_not, ne_eq, Bool.true_eq_false, Bool.false_eq_true, reduceCtorEq, decide_true, decide_false, Bool.and_true, Bool.and_false, Bool.true_and, Bool.false_and, Bool.or_true, Bool.or_false, Bool.not_true, Bool.not_false, Nat.add_zero, Nat.zero_add, eq_self, Nat.not_lt_zero, Nat.reduceAdd, Nat.reduceMul, Nat.reduceSub, Nat.reduceDiv, Nat.reduceMod, Nat.reduceAnd, Nat.reduceXor, Nat.reduceEqDiff, Nat.reducePow, lt_T, lt_F, le_T, le_F, eq_F, l_cmp0, wk2, wk11, wk12, ylN_eq, a1, b1, c1, i1]
      · obtain ⟨p1, p2, p3, p4, p5⟩ := D2
        have e1 : h4.1 72 1 = nI d.2.1 := by rw [i4 _ (by omega) (by omega), q72]; exact p4
        unfold dRod
        by_cases q : d.1 < 6
        · rw [if_pos q] at i2 ⊢
          refine DmP.mk (by omega) p2 i2 e1 (fun z0 => ?_)
          have wv := (c5 z0).1
          obtain ⟨x1, x2, x3⟩ := p5 (fNum_0 z0)
          refine ⟨by rw [i4 _ (by omega) (by omega), q72]; exact x1, fun k hk => ?_, fun k hk => by rw [i4 _ (by omega) (by omega), q72]; exact x3 k hk⟩
          unfold yup
          by_cases y : k = d.1
          · rw [if_pos y, y, ← wv, ← c4]
            have := i3 q 0 (by omega)
            rw [Nat.one_mul, Nat.add_zero] at this
            exact this
          · rw [if_neg y, i4 _ (by omega) (by omega), q72]
            exact x2 k (by omega)
        · rw [if_neg q] at i2 ⊢
          refine ⟨p1, p2, i2, e1, fun z0 => ?_⟩
          obtain ⟨x1, x2, x3⟩ := p5 (fNum_0 z0)
          exact ⟨by rw [i4 _ (by omega) (by omega), q72]; exact x1, fun k hk => by rw [i4 _ (by omega) (by omega), q72]; exact x2 k hk, fun k hk => by rw [i4 _ (by omega) (by omega), q72]; exact x3 k hk⟩
  · have gf := fFull_1 (B := B) (n := n) (m := d.2.1) (most := 8) M.2.2.1
    have k1 := tW_K (B := B) (n := n) (p := F.1) (by omega)
    obtain ⟨h1, a1, a2, a3⟩ := m_full (c := 1) (m := d.2.1) (most := 8) M (by omega) D.2.2.2.1 D.2.1 (by omega)
    have a2 : fMw B n (fFull B n d.2.1 8 F) h1 := a2
    obtain ⟨h2, b1, b2, b3⟩ := m_fadv a2 (by rw [gf.1]; omega)
    have D2 : DmP (fAdv B n (fFull B n d.2.1 8 F)) d h2 := D.mv (fun k => by rw [(b3 _ _ (by unfold mtk; omega)).1, (a3 _ _ (by omega)).1]) (fun z => (gf.2.2 z).1)
    have fr2 : qFr rP h h2 := (a3.mono (fun a k z => by unfold rP; omega)).trans (b3.mono (fun _ _ y => y.r))
    rw [e1, e2]
    clear e1 e2
    generalize fAdv B n (fFull B n d.2.1 8 F) = G at *
    rcases m_take (k := 0) (lo := 1) (hi := 60) b2 (by omega) (by omega) (by omega) with ⟨z, h3, c1, c2, c3⟩ | ⟨z, v, h3, c1, c2, c3, c4, c5, c6⟩
    · refine Or.inl ⟨z, h3, ?_, c2, fr2.trans (c3.mono (fun a k y => (y.u (k := 0) (m := 1) (by omega) (by omega)).r))⟩
      rw [w]
      unfold qX12_lineOf qX12_parishLine qX12_parishLine_29 qX12_parishLine_66 qX12_parishLine_70 qX12_parishLine_92
      simp (disch := omega) only [↓reduceIte, ↓q_m1, ↓q_m2, k_o, k_0, k_1, k_2, k_3, k_4, k_5, k_6, k_7, k_8, k_9, k_10, k_11, k_16, k_17, k_19, k_20, k_24, k_26, k_27, k_30, k_32, k_33, k_35, k_40, k_43, k_48, k_50, k_57, k_60, k_64, k_81, k_86, k_34, k_66, k_322, k_97, k_99, k_100, k_122, k_128, k_160, k_161, k_255, k_256, k_512, k_580, k_600, k_1000, k_4096, k_far, k_o, nI_add, n_mul, n_sub, n_div, n_rem, n_lt, n_le, n_eq, n_cl, n_and, n_or, n_xor, m1_lt, lt_m1, m1_eq, eq_m1, le_m1, m1_le, m2_eq, up_eq, up_ne, n_shl, n_shr, b2_some, let_e, ob_some, bI_0, bI_a, bI_t, bI_f, if_true, if_false, ite_true, ite_false, true_and, and_true, false_and, and_false, true_or, or_true, false_or, or_false, not_true_eq_false, not_false_eq_true, ite_not, ne_eq, Bool.true_eq_false, Bool.false_eq_true, reduceCtorEq, decide_true, decide_false, Bool.and_true, Bool.and_false, Bool.true_and, Bool.false_and, Bool.or_true, Bool.or_false, Bool.not_true, Bool.not_false, Nat.add_zero, Nat.zero_add, eq_self, Nat.not_lt_zero, Nat.reduceAdd, Nat.reduceMul, Nat.reduceSub, Nat.reduceDiv, Nat.reduceMod, Nat.reduceAnd, Nat.reduceXor, Nat.reduceEqDiff, Nat.reducePow, lt_T, lt_F, le_T, le_F, eq_F, l_cmp0, wk2, wk11, wk12, ylN_eq, a1, b1, c1]
    · have q72 : ∀ k, h3.1 72 k = h2.1 72 k := fun k => (c6 _ _ (by unfold mT mP; omega)).1
      obtain ⟨h4, i1, i2, i3, i4, i5⟩ := m_keep (c := 1) (fr := 9) (wd := 1) (m := d.2.1) (most := 8) (h := h3) (by omega) (by omega) D.2.1 (by omega) (by omega) (by rw [q72]; exact D2.2.2.2.1)
      refine Or.inr ⟨z, h4, ?_, c2.mv (fun k _ _ _ => (i5 _ _ (by omega)).1) (i5 _ _ (by omega)).2 (fun j => (i5 _ _ (by omega)).1), ?_, (fr2.trans (c6.mono (fun a k y => (y.u (k := 0) (m := 1) (by omega) (by omega)).r))).trans (i5.mono (fun a k z => by unfold rP; omega))⟩
      · rw [w]
        unfold qX12_lineOf qX12_parishLine qX12_parishLine_29 qX12_parishLine_66 qX12_parishLine_70 qX12_parishLine_92 qX12_parishLine_137 qX12_parishLine_167
        simp (disch := omega) only [↓reduceIte, ↓q_m1, ↓q_m2, k_o, k_0, k_1, k_2, k_3, k_4, k_5, k_6, k_7, k_8, k_9, k_10, k_11, k_16, k_17, k_19, k_20, k_24, k_26, k_27, k_30, k_32, k_33, k_35, k_40, k_43, k_48, k_50, k_57, k_60, k_64, k_81, k_86, k_34, k_66, k_322, k_97, k_99, k_100, k_122, k_128, k_160, k_161, k_255, k_256, k_512, k_580, k_600, k_1000, k_4096, k_far, k_o, nI_add, n_mul, n_sub, n_div, n_rem, n_lt, n_le, n_eq, n_cl, n_and, n_or, n_xor, m1_lt, lt_m1, m1_eq, eq_m1, le_m1, m1_le, m2_eq, up_eq, up_ne, n_shl, n_shr, b2_some, let_e, ob_some, bI_0, bI_a, bI_t, bI_f, if_true, if_false, ite_true, ite_false, true_and, and_true, false_and, and_false, true_or, or_true, false_or, or_false, not_true_eq_false, not_false_eq_true, ite_not, ne_eq, Bool.true_eq_false, Bool.false_eq_true, reduceCtorEq, decide_true, decide_false, Bool.and_true, Bool.and_false, Bool.true_and, Bool.false_and, Bool.or_true, Bool.or_false, Bool.not_true, Bool.not_false, Nat.add_zero, Nat.zero_add, eq_self, Nat.not_lt_zero, Nat.reduceAdd, Nat.reduceMul, Nat.reduceSub, Nat.reduceDiv, Nat.reduceMod, Nat.reduceAnd, Nat.reduceXor, Nat.reduceEqDiff, Nat.reducePow, lt_T, lt_F, le_T, le_F, eq_F, l_cmp0, wk2, wk11, wk12, ylN_eq, a1, b1, c1, i1]
      · obtain ⟨p1, p2, p3, p4, p5⟩ := D2
        have e1 : h4.1 72 0 = nI d.1 := by rw [i4 _ (by omega) (by omega), q72]; exact p3
        unfold dPie
        by_cases q : d.2.1 < 8
        · rw [if_pos q] at i2 ⊢
          refine DmP.mk p1 (by omega) e1 i2 (fun z0 => ?_)
          have wv := (c5 z0).1
          obtain ⟨x1, x2, x3⟩ := p5 (fNum_0 z0)
          refine ⟨by rw [i4 _ (by omega) (by omega), q72]; exact x1, fun k hk => by rw [i4 _ (by omega) (by omega), q72]; exact x2 k hk, fun k hk => ?_⟩
          unfold yup
          by_cases y : k = d.2.1
          · rw [if_pos y, y, ← wv, ← c4]
            have := i3 q 0 (by omega)
            rw [Nat.one_mul, Nat.add_zero] at this
            exact this
          · rw [if_neg y, i4 _ (by omega) (by omega), q72]
            exact x3 k (by omega)
        · rw [if_neg q] at i2 ⊢
          refine ⟨p1, p2, e1, i2, fun z0 => ?_⟩
          obtain ⟨x1, x2, x3⟩ := p5 (fNum_0 z0)
          exact ⟨by rw [i4 _ (by omega) (by omega), q72]; exact x1, fun k hk => by rw [i4 _ (by omega) (by omega), q72]; exact x2 k hk, fun k hk => by rw [i4 _ (by omega) (by omega), q72]; exact x3 k hk⟩
  · have k1 := tW_K (B := B) (n := n) (p := F.1) (by omega)
    obtain ⟨h2, b1, b2, b3⟩ := m_fadv M.w (by omega)
    have D2 : DmP (fAdv B n F) d h2 := D.mv (fun k => (b3 _ _ (by unfold mtk; omega)).1) (fun z => z)
    have fr2 : qFr rP h h2 := b3.mono (fun _ _ y => y.r)
    rw [e1, e2]
    clear e1 e2
    generalize fAdv B n F = G at *
    rcases m_take (k := 0) (lo := 1) (hi := 9) b2 (by omega) (by omega) (by omega) with ⟨z, h3, c1, c2, c3⟩ | ⟨z, v, h3, c1, c2, c3, c4, c5, c6⟩
    · refine Or.inl ⟨z, h3, ?_, c2, fr2.trans (c3.mono (fun a k y => (y.u (k := 0) (m := 1) (by omega) (by omega)).r))⟩
      rw [w]
      unfold qX12_lineOf qX12_parishLine qX12_parishLine_29 qX12_parishLine_70 qX12_parishLine_92
      simp (disch := omega) only [↓reduceIte, ↓q_m1, ↓q_m2, k_o, k_0, k_1, k_2, k_3, k_4, k_5, k_6, k_7, k_8, k_9, k_10, k_11, k_16, k_17, k_19, k_20, k_24, k_26, k_27, k_30, k_32, k_33, k_35, k_40, k_43, k_48, k_50, k_57, k_60, k_64, k_81, k_86, k_34, k_66, k_322, k_97, k_99, k_100, k_122, k_128, k_160, k_161, k_255, k_256, k_512, k_580, k_600, k_1000, k_4096, k_far, k_o, nI_add, n_mul, n_sub, n_div, n_rem, n_lt, n_le, n_eq, n_cl, n_and, n_or, n_xor, m1_lt, lt_m1, m1_eq, eq_m1, le_m1, m1_le, m2_eq, up_eq, up_ne, n_shl, n_shr, b2_some, let_e, ob_some, bI_0, bI_a, bI_t, bI_f, if_true, if_false, ite_true, ite_false, true_and, and_true, false_and, and_false, true_or, or_true, false_or, or_false, not_true_eq_false, not_false_eq_true, ite_not, ne_eq, Bool.true_eq_false, Bool.false_eq_true, reduceCtorEq, decide_true, decide_false, Bool.and_true, Bool.and_false, Bool.true_and, Bool.false_and, Bool.or_true, Bool.or_false, Bool.not_true, Bool.not_false, Nat.add_zero, Nat.zero_add, eq_self, Nat.not_lt_zero, Nat.reduceAdd, Nat.reduceMul, Nat.reduceSub, Nat.reduceDiv, Nat.reduceMod, Nat.reduceAnd, Nat.reduceXor, Nat.reduceEqDiff, Nat.reducePow, lt_T, lt_F, le_T, le_F, eq_F, l_cmp0, wk2, wk11, wk12, ylN_eq, b1, c1]
    · have q72 : ∀ k, h3.1 72 k = h2.1 72 k := fun k => (c6 _ _ (by unfold mT mP; omega)).1
      refine Or.inr ⟨z, qm_seti h3 72 2 (nI v), ?_, c2.mv (fun k _ _ _ => sI_ne (by omega)) rfl (fun j => sI_ne (by omega)), ?_, (fr2.trans (c6.mono (fun a k y => (y.u (k := 0) (m := 1) (by omega) (by omega)).r))).trans (qFr.seti (by unfold rP; omega))⟩
      · rw [w]
        unfold qX12_lineOf qX12_parishLine qX12_parishLine_29 qX12_parishLine_70 qX12_parishLine_92
        simp (disch := omega) only [↓reduceIte, ↓q_m1, ↓q_m2, k_o, k_0, k_1, k_2, k_3, k_4, k_5, k_6, k_7, k_8, k_9, k_10, k_11, k_16, k_17, k_19, k_20, k_24, k_26, k_27, k_30, k_32, k_33, k_35, k_40, k_43, k_48, k_50, k_57, k_60, k_64, k_81, k_86, k_34, k_66, k_322, k_97, k_99, k_100, k_122, k_128, k_160, k_161, k_255, k_256, k_512, k_580, k_600, k_1000, k_4096, k_far, k_o, nI_add, n_mul, n_sub, n_div, n_rem, n_lt, n_le, n_eq, n_cl, n_and, n_or, n_xor, m1_lt, lt_m1, m1_eq, eq_m1, le_m1, m1_le, m2_eq, up_eq, up_ne, n_shl, n_shr, b2_some, let_e, ob_some, bI_0, bI_a, bI_t, bI_f, if_true, if_false, ite_true, ite_false, true_and, and_true, false_and, and_false, true_or, or_true, false_or, or_false, not_true_eq_false, not_false_eq_true, ite_not, ne_eq, Bool.true_eq_false, Bool.false_eq_true, reduceCtorEq, decide_true, decide_false, Bool.and_true, Bool.and_false, Bool.true_and, Bool.false_and, Bool.or_true, Bool.or_false, Bool.not_true, Bool.not_false, Nat.add_zero, Nat.zero_add, eq_self, Nat.not_lt_zero, Nat.reduceAdd, Nat.reduceMul, Nat.reduceSub, Nat.reduceDiv, Nat.reduceMod, Nat.reduceAnd, Nat.reduceXor, Nat.reduceEqDiff, Nat.reducePow, lt_T, lt_F, le_T, le_F, eq_F, l_cmp0, wk2, wk11, wk12, ylN_eq, b1, c1, c4]
      · obtain ⟨p1, p2, p3, p4, p5⟩ := D2
        refine DmP.mk p1 p2 (by rw [sI_ne (by omega), q72]; exact p3) (by rw [sI_ne (by omega), q72]; exact p4) (fun z0 => ?_)
        have wv := (c5 z0).1
        obtain ⟨x1, x2, x3⟩ := p5 (fNum_0 z0)
        exact ⟨by rw [sI_eq, wv], fun k hk => by rw [sI_ne (by omega), q72]; exact x2 k hk, fun k hk => by rw [sI_ne (by omega), q72]; exact x3 k hk⟩
  · have fl1 := m_fails M.w
    have nr : fRef B n F = (F.1, 1, tS B n F.1) := if_neg M.2.2.1
    rw [e1, nr]
    refine Or.inl ⟨rfl, qm_seti h 62 16 (nI (tS B n F.1)), ?_, sI_eq _ _ _ _, qFr.seti (by unfold rP; omega)⟩
    unfold qX12_lineOf qX12_parishLine
    simp (disch := omega) only [↓reduceIte, ↓q_m1, ↓q_m2, k_o, k_0, k_1, k_2, k_3, k_4, k_5, k_6, k_7, k_8, k_9, k_10, k_11, k_16, k_17, k_19, k_20, k_24, k_26, k_27, k_30, k_32, k_33, k_35, k_40, k_43, k_48, k_50, k_57, k_60, k_64, k_81, k_86, k_34, k_66, k_322, k_97, k_99, k_100, k_122, k_128, k_160, k_161, k_255, k_256, k_512, k_580, k_600, k_1000, k_4096, k_far, k_o, nI_add, n_mul, n_sub, n_div, n_rem, n_lt, n_le, n_eq, n_cl, n_and, n_or, n_xor, m1_lt, lt_m1, m1_eq, eq_m1, le_m1, m1_le, m2_eq, up_eq, up_ne, n_shl, n_shr, b2_some, let_e, ob_some, bI_0, bI_a, bI_t, bI_f, if_true, if_false, ite_true, ite_false, true_and, and_true, false_and, and_false, true_or, or_true, false_or, or_false, not_true_eq_false, not_false_eq_true, ite_not, ne_eq, Bool.true_eq_false, Bool.false_eq_true, reduceCtorEq, decide_true, decide_false, Bool.and_true, Bool.and_false, Bool.true_and, Bool.false_and, Bool.or_true, Bool.or_false, Bool.not_true, Bool.not_false, Nat.add_zero, Nat.zero_add, eq_self, Nat.not_lt_zero, Nat.reduceAdd, Nat.reduceMul, Nat.reduceSub, Nat.reduceDiv, Nat.reduceMod, Nat.reduceAnd, Nat.reduceXor, Nat.reduceEqDiff, Nat.reducePow, lt_T, lt_F, le_T, le_F, eq_F, l_cmp0, wk2, wk11, wk12, ylN_eq, fl1]
