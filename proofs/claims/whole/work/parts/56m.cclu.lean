/-! text: a line of CLUES, the class's. -/
/-- a draft of CLUES: WIDE, HIGH, how many, kinds, numbers; how far STROKES were told of -/
abbrev dK : Type := (Nat × Nat × Nat × (Nat → Nat) × (Nat → Nat) × (Nat → Nat)) × Nat × Nat
def kAdd (d : dK) (t x y fx fy : Nat) : dK := if d.1.2.2.1 < 10 then ((d.1.1, d.1.2.1, d.1.2.2.1 + 1, yup d.1.2.2.2.1 d.1.2.2.1 t, yup d.1.2.2.2.2.1 d.1.2.2.1 x, yup d.1.2.2.2.2.2 d.1.2.2.1 y), fx, fy) else (d.1, fx, fy)
def DcK (d : dK) (h : qm_H) : Prop := (2 ≤ d.1.1 ∧ d.1.1 ≤ 8 ∧ 2 ≤ d.1.2.1 ∧ d.1.2.1 ≤ 8 ∧ d.1.2.2.1 ≤ 10) ∧ (h.1 41 1 = nI d.1.1 ∧ h.1 41 2 = nI d.1.2.1 ∧ h.1 41 3 = nI d.1.2.2.1) ∧ (∀ k, k < d.1.2.2.1 → (d.1.2.2.2.1 k ≤ 3 ∧ d.1.2.2.2.2.1 k ≤ 8 ∧ d.1.2.2.2.2.2 k ≤ 8) ∧ h.1 42 (3 * k) = nI (d.1.2.2.2.1 k) ∧ h.1 42 (3 * k + 1) = nI (d.1.2.2.2.2.1 k) ∧ h.1 42 (3 * k + 2) = nI (d.1.2.2.2.2.2 k)) ∧ (d.2.1 ≤ 7 ∧ d.2.2 ≤ 7 ∧ h.1 31 7 = nI d.2.1 ∧ h.1 31 8 = nI d.2.2)
theorem DcK.mk {w g m fx fy : Nat} {T X Y : Nat → Nat} {h : qm_H} (a : 2 ≤ w ∧ w ≤ 8 ∧ 2 ≤ g ∧ g ≤ 8 ∧ m ≤ 10) (b : h.1 41 1 = nI w ∧ h.1 41 2 = nI g ∧ h.1 41 3 = nI m) (c : ∀ k, k < m → (T k ≤ 3 ∧ X k ≤ 8 ∧ Y k ≤ 8) ∧ h.1 42 (3 * k) = nI (T k) ∧ h.1 42 (3 * k + 1) = nI (X k) ∧ h.1 42 (3 * k + 2) = nI (Y k)) (e : fx ≤ 7 ∧ fy ≤ 7 ∧ h.1 31 7 = nI fx ∧ h.1 31 8 = nI fy) : DcK ((w, g, m, T, X, Y), fx, fy) h := ⟨a, b, c, e⟩
theorem DcK.fr {d : dK} {h h' : qm_H} (D : DcK d h) {P : Nat → Nat → Prop} (e : qFr P h h') (i : ∀ a k, a = 41 ∨ a = 42 ∨ (a = 31 ∧ (k = 7 ∨ k = 8)) → ¬ P a k) : DcK d h' := by
  obtain ⟨a, b, c, f1, f2, f3, f4⟩ := D
  refine ⟨a, ?_, fun k hk => ?_, f1, f2, ?_, ?_⟩
  · rw [(e _ _ (i _ _ (by omega))).1, (e _ _ (i _ _ (by omega))).1, (e _ _ (i _ _ (by omega))).1]; exact b
  · rw [(e _ _ (i _ _ (by omega))).1, (e _ _ (i _ _ (by omega))).1, (e _ _ (i _ _ (by omega))).1]; exact c k hk
  · rw [(e _ _ (i _ _ (by omega))).1]; exact f3
  · rw [(e _ _ (i _ _ (by omega))).1]; exact f4
theorem DcK.fp {d : dK} {h h' : qm_H} (D : DcK d h) (e : qFr fP h h') : DcK d h' := D.fr e (fun a k z => by unfold fP; omega)
theorem c_kadd {d : dK} {h : qm_H} {t x y : Nat} (D : DcK d h) (ht : t ≤ 3) (hx : x ≤ 8) (hy : y ≤ 8) : ∃ h', qX1_add 41 (nI t) (nI x) (nI y) h = some h' ∧ DcK (kAdd d t x y d.2.1 d.2.2) h' ∧ qFr (fun a _ => a = 41 ∨ a = 42) h h' := by
  have D0 := D
  obtain ⟨⟨a1, a2, a3, a4, a5⟩, ⟨b1, b2, b3⟩, c, f1, f2, f3, f4⟩ := D
  unfold kAdd
  by_cases q : d.1.2.2.1 < 10
  · rw [if_pos q]
    refine ⟨qm_seti (qm_seti (qm_seti (qm_seti h 42 (3 * d.1.2.2.1) (nI t)) 42 (3 * d.1.2.2.1 + 1) (nI x)) 42 (3 * d.1.2.2.1 + 2) (nI y)) 41 3 (nI (d.1.2.2.1 + 1)), ?_, DcK.mk ⟨a1, a2, a3, a4, by omega⟩ ⟨?_, ?_, sI_eq _ _ _ _⟩ (fun k hk => ?_) ⟨f1, f2, ?_, ?_⟩, (((qFr.seti (Or.inr rfl)).trans (qFr.seti (Or.inr rfl))).trans (qFr.seti (Or.inr rfl))).trans (qFr.seti (Or.inl rfl))⟩
    · unfold qX1_add
      simp (disch := omega) only [↓reduceIte, ↓q_m1, ↓q_m2, k_o, k_0, k_1, k_2, k_3, k_4, k_5, k_6, k_7, k_8, k_9, k_10, k_11, k_16, k_17, k_19, k_20, k_24, k_26, k_27, k_30, k_32, k_33, k_35, k_40, k_43, k_48, k_50, k_57, k_60, k_64, k_81, k_86, k_34, k_66, k_322, k_97, k_99, k_100, k_122, k_128, k_160, k_161, k_255, k_256, k_512, k_580, k_600, k_1000, k_4096, k_far, k_o, nI_add, n_mul, n_sub, n_div, n_rem, n_lt, n_le, n_eq, n_cl, n_and, n_or, n_xor, m1_lt, lt_m1, m1_eq, eq_m1, le_m1, m1_le, m2_eq, up_eq, up_ne, n_shl, n_shr, b2_some, let_e, ob_some, bI_0, bI_a, bI_t, bI_f, if_true, if_false, ite_true, ite_false, true_and, and_true, false_and, and_false, true_or, or_true, false_or, or_false, not_true_eq_false, not_false_eq_true, ite_not, ne_eq, Bool.true_eq_false, Bool.false_eq_true, reduceCtorEq, decide_true, decide_false, Bool.and_true, Bool.and_false, Bool.true_and, Bool.false_and, Bool.or_true, Bool.or_false, Bool.not_true, Bool.not_false, Nat.add_zero, Nat.zero_add, eq_self, Nat.not_lt_zero, Nat.reduceAdd, Nat.reduceMul, Nat.reduceSub, Nat.reduceDiv, Nat.reduceMod, Nat.reduceAnd, Nat.reduceXor, Nat.reduceEqDiff, Nat.reducePow, lt_T, lt_F, le_T, le_F, eq_F, b3]
    · rw [sI_ne (by omega), sI_ne (by omega), sI_ne (by omega), sI_ne (by omega)]; exact b1
    · rw [sI_ne (by omega), sI_ne (by omega), sI_ne (by omega), sI_ne (by omega)]; exact b2
    · unfold yup
      by_cases z : k = d.1.2.2.1
      · rw [if_pos z, if_pos z, if_pos z, z]
        refine ⟨⟨ht, hx, hy⟩, ?_, ?_, ?_⟩
        · rw [sI_ne (by omega), sI_ne (by omega), sI_ne (by omega)]; exact sI_eq _ _ _ _
        · rw [sI_ne (by omega), sI_ne (by omega)]; exact sI_eq _ _ _ _
        · rw [sI_ne (by omega)]; exact sI_eq _ _ _ _
      · rw [if_neg z, if_neg z, if_neg z]
        obtain ⟨c1, c2, c3, c4⟩ := c k (by omega)
        refine ⟨c1, ?_, ?_, ?_⟩
        · rw [sI_ne (by omega), sI_ne (by omega), sI_ne (by omega), sI_ne (by omega)]; exact c2
        · rw [sI_ne (by omega), sI_ne (by omega), sI_ne (by omega), sI_ne (by omega)]; exact c3
        · rw [sI_ne (by omega), sI_ne (by omega), sI_ne (by omega), sI_ne (by omega)]; exact c4
    · rw [sI_ne (by omega), sI_ne (by omega), sI_ne (by omega), sI_ne (by omega)]; exact f3
    · rw [sI_ne (by omega), sI_ne (by omega), sI_ne (by omega), sI_ne (by omega)]; exact f4
  · rw [if_neg q]
    refine ⟨h, ?_, D0, qFr.refl _ _⟩
    unfold qX1_add
    simp (disch := omega) only [↓reduceIte, ↓q_m1, ↓q_m2, k_o, k_0, k_1, k_2, k_3, k_4, k_5, k_6, k_7, k_8, k_9, k_10, k_11, k_16, k_17, k_19, k_20, k_24, k_26, k_27, k_30, k_32, k_33, k_35, k_40, k_43, k_48, k_50, k_57, k_60, k_64, k_81, k_86, k_34, k_66, k_322, k_97, k_99, k_100, k_122, k_128, k_160, k_161, k_255, k_256, k_512, k_580, k_600, k_1000, k_4096, k_far, k_o, nI_add, n_mul, n_sub, n_div, n_rem, n_lt, n_le, n_eq, n_cl, n_and, n_or, n_xor, m1_lt, lt_m1, m1_eq, eq_m1, le_m1, m1_le, m2_eq, up_eq, up_ne, n_shl, n_shr, b2_some, let_e, ob_some, bI_0, bI_a, bI_t, bI_f, if_true, if_false, ite_true, ite_false, true_and, and_true, false_and, and_false, true_or, or_true, false_or, or_false, not_true_eq_false, not_false_eq_true, ite_not, ne_eq, Bool.true_eq_false, Bool.false_eq_true, reduceCtorEq, decide_true, decide_false, Bool.and_true, Bool.and_false, Bool.true_and, Bool.false_and, Bool.or_true, Bool.or_false, Bool.not_true, Bool.not_false, Nat.add_zero, Nat.zero_add, eq_self, Nat.not_lt_zero, Nat.reduceAdd, Nat.reduceMul, Nat.reduceSub, Nat.reduceDiv, Nat.reduceMod, Nat.reduceAnd, Nat.reduceXor, Nat.reduceEqDiff, Nat.reducePow, lt_T, lt_F, le_T, le_F, eq_F, b3]
/-- a CLUE of a STROKE -/
def kCell (B : Nat → Nat) (n t : Nat) (F : fl) (d : dK) (F' : fl) (d' : dK) : Prop := F' = (fNum B n 0 7 (fNum B n 0 7 F).2).2 ∧ d' = kAdd d t (fNum B n 0 7 F).1 (fNum B n 0 7 (fNum B n 0 7 F).2).1 (max d.2.1 (fNum B n 0 7 F).1) (max d.2.2 (fNum B n 0 7 (fNum B n 0 7 F).2).1)
/-- a CLUE of a size -/
def kSize (B : Nat → Nat) (n t : Nat) (F : fl) (d : dK) (F' : fl) (d' : dK) : Prop := F' = (fNum B n 1 8 (fNum B n 1 8 F).2).2 ∧ d' = kAdd d t (fNum B n 1 8 F).1 (fNum B n 1 8 (fNum B n 1 8 F).2).1 d.2.1 d.2.2
/-- a line; G: an 11th CLUE is noted -/
def LnK2 (B : Nat → Nat) (n : Nat) (G : fl) (d : dK) (F' : fl) (d' : dK) : Prop :=
  (tW B n G.1 = 1869636974 ∧ kCell B n 0 (fAdv B n G) d F' d') ∨ (tW B n G.1 = 1936225652 ∧ kCell B n 1 (fAdv B n G) d F' d') ∨
  (tW B n G.1 = 495740088435 ∧ kSize B n 2 (fAdv B n G) d F' d') ∨ (tW B n G.1 = 1751477348 ∧ kSize B n 3 (fAdv B n G) d F' d') ∨
  (tW B n G.1 ≠ 1869636974 ∧ tW B n G.1 ≠ 1936225652 ∧ tW B n G.1 ≠ 495740088435 ∧ tW B n G.1 ≠ 1751477348 ∧ F' = fRef B n G)
def LnK (B : Nat → Nat) (n : Nat) (F : fl) (d : dK) (F' : fl) (d' : dK) : Prop :=
  (tW B n F.1 = 1936292453 ∧ F' = (fNum B n 2 8 (fNum B n 2 8 (fAdv B n F)).2).2 ∧ d' = (((fNum B n 2 8 (fAdv B n F)).1, (fNum B n 2 8 (fNum B n 2 8 (fAdv B n F)).2).1, d.1.2.2.1, d.1.2.2.2.1, d.1.2.2.2.2.1, d.1.2.2.2.2.2), d.2.1, d.2.2)) ∨
  (tW B n F.1 ≠ 1936292453 ∧ LnK2 B n (fFull B n d.1.2.2.1 10 F) d F' d')
theorem kAdd_far (d : dK) (t x y fx fy : Nat) : kAdd (d.1, fx, fy) t x y fx fy = kAdd d t x y fx fy := rfl
theorem c_kcell {B : Nat → Nat} {n t : Nat} {F : fl} {h : qm_H} {d : dK} (C : fC B n F h) (D : DcK d h) (ht : t ≤ 3) : ∃ F' d' h', qX3_readCluesLine_81 31 (nI t) (nI 1) h = some h' ∧ kCell B n t F d F' d' ∧ fC B n F' h' ∧ DcK d' h' ∧ qFr cP h h' := by
  obtain ⟨a, b, c, f1, f2, f3, f4⟩ := D
  obtain ⟨hb, b1, b2, b3, b4⟩ := c_col C f3 (by omega)
  obtain ⟨hc, d1, d2, d3, d4⟩ := c_row (x := d.2.2) b2 (by rw [(b4 _ _ (by unfold fP; omega)).1]; exact f4) (by omega)
  have r1 := fNum_r B n (lo := 0) (hi := 7) F (by omega)
  have r2 := fNum_r B n (lo := 0) (hi := 7) (fNum B n 0 7 F).2 (by omega)
  have kc : ∀ F' d', F' = (fNum B n 0 7 (fNum B n 0 7 F).2).2 → d' = kAdd d t (fNum B n 0 7 F).1 (fNum B n 0 7 (fNum B n 0 7 F).2).1 (max d.2.1 (fNum B n 0 7 F).1) (max d.2.2 (fNum B n 0 7 (fNum B n 0 7 F).2).1) → kCell B n t F d F' d' := fun _ _ e1 e2 => ⟨e1, e2⟩
  clear b2
  generalize fNum B n 0 7 (fNum B n 0 7 F).2 = N2 at *
  generalize fNum B n 0 7 F = N1 at *
  have g : ∀ a k, ¬ fP a k → ¬ (a = 31) → hc.1 a k = h.1 a k := fun a k z1 z2 => by rw [(d4 a k (fun z => z.elim z1 (fun z => z2 z.1))).1, (b4 a k (fun z => z.elim z1 (fun z => z2 z.1))).1]
  have D2 : DcK ((d.1.1, d.1.2.1, d.1.2.2.1, d.1.2.2.2.1, d.1.2.2.2.2.1, d.1.2.2.2.2.2), max d.2.1 N1.1, max d.2.2 N2.1) hc := DcK.mk a (by rw [g _ _ (by unfold fP; omega) (by omega), g _ _ (by unfold fP; omega) (by omega), g _ _ (by unfold fP; omega) (by omega)]; exact b) (fun k hk => by rw [g _ _ (by unfold fP; omega) (by omega), g _ _ (by unfold fP; omega) (by omega), g _ _ (by unfold fP; omega) (by omega)]; exact c k hk) ⟨by omega, by omega, by rw [(d4 _ _ (by unfold fP; omega)).1]; exact b3, d3⟩
  obtain ⟨h', e1, e2, e3⟩ := c_kadd (t := t) (x := N1.1) (y := N2.1) D2 ht (by omega) (by omega)
  refine ⟨_, _, h', ?_, kc _ _ rfl rfl, d2.fr e3 (fun a k z => by omega), e2, ((b4.mono (fun a k z => cP_or z)).trans (d4.mono (fun a k z => cP_or z))).trans (e3.mono (fun a k z => by unfold cP; omega))⟩
  unfold qX3_readCluesLine_81 qX3_readCluesLine_100 qX3_readCluesLine_119
  simp (disch := omega) only [↓reduceIte, ↓q_m1, ↓q_m2, k_o, k_0, k_1, k_2, k_3, k_4, k_5, k_6, k_7, k_8, k_9, k_10, k_11, k_16, k_17, k_19, k_20, k_24, k_26, k_27, k_30, k_32, k_33, k_35, k_40, k_43, k_48, k_50, k_57, k_60, k_64, k_81, k_86, k_34, k_66, k_322, k_97, k_99, k_100, k_122, k_128, k_160, k_161, k_255, k_256, k_512, k_580, k_600, k_1000, k_4096, k_far, k_o, nI_add, n_mul, n_sub, n_div, n_rem, n_lt, n_le, n_eq, n_cl, n_and, n_or, n_xor, m1_lt, lt_m1, m1_eq, eq_m1, le_m1, m1_le, m2_eq, up_eq, up_ne, n_shl, n_shr, b2_some, let_e, ob_some, bI_0, bI_a, bI_t, bI_f, if_true, if_false, ite_true, ite_false, true_and, and_true, false_and, and_false, true_or, or_true, false_or, or_false, not_true_eq_false, not_false_eq_true, ite_not, ne_eq, Bool.true_eq_false, Bool.false_eq_true, reduceCtorEq, decide_true, decide_false, Bool.and_true, Bool.and_false, Bool.true_and, Bool.false_and, Bool.or_true, Bool.or_false, Bool.not_true, Bool.not_false, Nat.add_zero, Nat.zero_add, eq_self, Nat.not_lt_zero, Nat.reduceAdd, Nat.reduceMul, Nat.reduceSub, Nat.reduceDiv, Nat.reduceMod, Nat.reduceAnd, Nat.reduceXor, Nat.reduceEqDiff, Nat.reducePow, lt_T, lt_F, le_T, le_F, eq_F, b1, d1, e1]
theorem c_ksize {B : Nat → Nat} {n t : Nat} {F : fl} {h : qm_H} {d : dK} (C : fC B n F h) (D : DcK d h) (ht : t ≤ 3) : ∃ F' d' h', qX3_readCluesLine_81 31 (nI t) (nI 0) h = some h' ∧ kSize B n t F d F' d' ∧ fC B n F' h' ∧ DcK d' h' ∧ qFr cP h h' := by
  obtain ⟨hb, b1, b2, b3⟩ := c_num (lo := 1) (hi := 8) C (by omega) (by omega)
  obtain ⟨hc, d1, d2, d3⟩ := c_num (lo := 1) (hi := 8) b2 (by omega) (by omega)
  have r1 := fNum_r B n (lo := 1) (hi := 8) F (by omega)
  have r2 := fNum_r B n (lo := 1) (hi := 8) (fNum B n 1 8 F).2 (by omega)
  have kc : ∀ F' d', F' = (fNum B n 1 8 (fNum B n 1 8 F).2).2 → d' = kAdd d t (fNum B n 1 8 F).1 (fNum B n 1 8 (fNum B n 1 8 F).2).1 d.2.1 d.2.2 → kSize B n t F d F' d' := fun _ _ e1 e2 => ⟨e1, e2⟩
  clear b2
  generalize fNum B n 1 8 (fNum B n 1 8 F).2 = N2 at *
  generalize fNum B n 1 8 F = N1 at *
  obtain ⟨h', e1, e2, e3⟩ := c_kadd (t := t) (x := N1.1) (y := N2.1) ((D.fp b3).fp d3) ht (by omega) (by omega)
  refine ⟨_, _, h', ?_, kc _ _ rfl rfl, d2.fr e3 (fun a k z => by omega), e2, ((b3.trans d3).mono (fun a k z => z.c)).trans (e3.mono (fun a k z => by unfold cP; omega))⟩
  unfold qX3_readCluesLine_81 qX3_readCluesLine_100 qX3_readCluesLine_119
  simp (disch := omega) only [↓reduceIte, ↓q_m1, ↓q_m2, k_o, k_0, k_1, k_2, k_3, k_4, k_5, k_6, k_7, k_8, k_9, k_10, k_11, k_16, k_17, k_19, k_20, k_24, k_26, k_27, k_30, k_32, k_33, k_35, k_40, k_43, k_48, k_50, k_57, k_60, k_64, k_81, k_86, k_34, k_66, k_322, k_97, k_99, k_100, k_122, k_128, k_160, k_161, k_255, k_256, k_512, k_580, k_600, k_1000, k_4096, k_far, k_o, nI_add, n_mul, n_sub, n_div, n_rem, n_lt, n_le, n_eq, n_cl, n_and, n_or, n_xor, m1_lt, lt_m1, m1_eq, eq_m1, le_m1, m1_le, m2_eq, up_eq, up_ne, n_shl, n_shr, b2_some, let_e, ob_some, bI_0, bI_a, bI_t, bI_f, if_true, if_false, ite_true, ite_false, true_and, and_true, false_and, and_false, true_or, or_true, false_or, or_false, not_true_eq_false, not_false_eq_true, ite_not, ne_eq, Bool.true_eq_false, Bool.false_eq_true, reduceCtorEq, decide_true, decide_false, Bool.and_true, Bool.and_false, Bool.true_and, Bool.false_and, Bool.or_true, Bool.or_false, Bool.not_true, Bool.not_false, Nat.add_zero, Nat.zero_add, eq_self, Nat.not_lt_zero, Nat.reduceAdd, Nat.reduceMul, Nat.reduceSub, Nat.reduceDiv, Nat.reduceMod, Nat.reduceAnd, Nat.reduceXor, Nat.reduceEqDiff, Nat.reducePow, lt_T, lt_F, le_T, le_F, eq_F, b1, d1, e1]
theorem c_lineK2 {B : Nat → Nat} {n : Nat} {G : fl} {h : qm_H} {d : dK} (C : fC B n G h) (h1 : G.2.1 ≠ 1) (D : DcK d h) : ∃ F' d' h', qX3_readCluesLine_62 31 h = some h' ∧ LnK2 B n G d F' d' ∧ fC B n F' h' ∧ DcK d' h' ∧ qFr cP h h' := by
  by_cases w1 : tW B n G.1 = 1869636974
  · obtain ⟨ha, a1, a2, a3⟩ := c_word1 (k := 1) C (by omega) h1 w1
    obtain ⟨F', d', h', b1, b2, b3, b4, b5⟩ := c_kcell (t := 0) a2 (D.fp a3) (by omega)
    refine ⟨F', d', h', ?_, Or.inl ⟨w1, b2⟩, b3, b4, (a3.mono (fun _ _ z => z.c)).trans b5⟩
    unfold qX3_readCluesLine_62 qX3_readClueWord
    simp (disch := omega) only [↓reduceIte, ↓q_m1, ↓q_m2, k_o, k_0, k_1, k_2, k_3, k_4, k_5, k_6, k_7, k_8, k_9, k_10, k_11, k_16, k_17, k_19, k_20, k_24, k_26, k_27, k_30, k_32, k_33, k_35, k_40, k_43, k_48, k_50, k_57, k_60, k_64, k_81, k_86, k_34, k_66, k_322, k_97, k_99, k_100, k_122, k_128, k_160, k_161, k_255, k_256, k_512, k_580, k_600, k_1000, k_4096, k_far, k_o, nI_add, n_mul, n_sub, n_div, n_rem, n_lt, n_le, n_eq, n_cl, n_and, n_or, n_xor, m1_lt, lt_m1, m1_eq, eq_m1, le_m1, m1_le, m2_eq, up_eq, up_ne, n_shl, n_shr, b2_some, let_e, ob_some, bI_0, bI_a, bI_t, bI_f, if_true, if_false, ite_true, ite_false, true_and, and_true, false_and, and_false, true_or, or_true, false_or, or_false, not_true_eq_false, not_false_eq_true, ite_not, ne_eq, Bool.true_eq_false, Bool.false_eq_true, reduceCtorEq, decide_true, decide_false, Bool.and_true, Bool.and_false, Bool.true_and, Bool.false_and, Bool.or_true, Bool.or_false, Bool.not_true, Bool.not_false, Nat.add_zero, Nat.zero_add, eq_self, Nat.not_lt_zero, Nat.reduceAdd, Nat.reduceMul, Nat.reduceSub, Nat.reduceDiv, Nat.reduceMod, Nat.reduceAnd, Nat.reduceXor, Nat.reduceEqDiff, Nat.reducePow, lt_T, lt_F, le_T, le_F, eq_F, a1, b1]
  · have x1 := c_word0 (k := 1) C (by omega) (Or.inr w1)
    by_cases w13 : tW B n G.1 = 1936225652
    · obtain ⟨ha, a1, a2, a3⟩ := c_word1 (k := 13) C (by omega) h1 w13
      obtain ⟨F', d', h', b1, b2, b3, b4, b5⟩ := c_kcell (t := 1) a2 (D.fp a3) (by omega)
      refine ⟨F', d', h', ?_, Or.inr (Or.inl ⟨w13, b2⟩), b3, b4, (a3.mono (fun _ _ z => z.c)).trans b5⟩
      unfold qX3_readCluesLine_62 qX3_readClueWord
      simp (disch := omega) only [↓reduceIte, ↓q_m1, ↓q_m2, k_o, k_0, k_1, k_2, k_3, k_4, k_5, k_6, k_7, k_8, k_9, k_10, k_11, k_16, k_17, k_19, k_20, k_24, k_26, k_27, k_30, k_32, k_33, k_35, k_40, k_43, k_48, k_50, k_57, k_60, k_64, k_81, k_86, k_34, k_66, k_322, k_97, k_99, k_100, k_122, k_128, k_160, k_161, k_255, k_256, k_512, k_580, k_600, k_1000, k_4096, k_far, k_o, nI_add, n_mul, n_sub, n_div, n_rem, n_lt, n_le, n_eq, n_cl, n_and, n_or, n_xor, m1_lt, lt_m1, m1_eq, eq_m1, le_m1, m1_le, m2_eq, up_eq, up_ne, n_shl, n_shr, b2_some, let_e, ob_some, bI_0, bI_a, bI_t, bI_f, if_true, if_false, ite_true, ite_false, true_and, and_true, false_and, and_false, true_or, or_true, false_or, or_false, not_true_eq_false, not_false_eq_true, ite_not, ne_eq, Bool.true_eq_false, Bool.false_eq_true, reduceCtorEq, decide_true, decide_false, Bool.and_true, Bool.and_false, Bool.true_and, Bool.false_and, Bool.or_true, Bool.or_false, Bool.not_true, Bool.not_false, Nat.add_zero, Nat.zero_add, eq_self, Nat.not_lt_zero, Nat.reduceAdd, Nat.reduceMul, Nat.reduceSub, Nat.reduceDiv, Nat.reduceMod, Nat.reduceAnd, Nat.reduceXor, Nat.reduceEqDiff, Nat.reducePow, lt_T, lt_F, le_T, le_F, eq_F, x1, a1, b1]
    · have x13 := c_word0 (k := 13) C (by omega) (Or.inr w13)
      by_cases w14 : tW B n G.1 = 495740088435
      · obtain ⟨ha, a1, a2, a3⟩ := c_word1 (k := 14) C (by omega) h1 w14
        obtain ⟨F', d', h', b1, b2, b3, b4, b5⟩ := c_ksize (t := 2) a2 (D.fp a3) (by omega)
        refine ⟨F', d', h', ?_, Or.inr (Or.inr (Or.inl ⟨w14, b2⟩)), b3, b4, (a3.mono (fun _ _ z => z.c)).trans b5⟩
        unfold qX3_readCluesLine_62 qX3_readClueWord
        simp (disch := omega) only [↓reduceIte, ↓q_m1, ↓q_m2, k_o, k_0, k_1, k_2, k_3, k_4, k_5, k_6, k_7, k_8, k_9, k_10, k_11, k_16, k_17, k_19, k_20, k_24, k_26, k_27, k_30, k_32, k_33, k_35, k_40, k_43, k_48, k_50, k_57, k_60, k_64, k_81, k_86, k_34, k_66, k_322, k_97, k_99, k_100, k_122, k_128, k_160, k_161, k_255, k_256, k_512, k_580, k_600, k_1000, k_4096, k_far, k_o, nI_add, n_mul, n_sub, n_div, n_rem, n_lt, n_le, n_eq, n_cl, n_and, n_or, n_xor, m1_lt, lt_m1, m1_eq, eq_m1, le_m1, m1_le, m2_eq, up_eq, up_ne, n_shl, n_shr, b2_some, let_e, ob_some, bI_0, bI_a, bI_t, bI_f, if_true, if_false, ite_true, ite_false, true_and, and_true, false_and, and_false, true_or, or_true, false_or, or_false, not_true_eq_false, not_false_eq_true, ite_not, ne_eq, Bool.true_eq_false, Bool.false_eq_true, reduceCtorEq, decide_true, decide_false, Bool.and_true, Bool.and_false, Bool.true_and, Bool.false_and, Bool.or_true, Bool.or_false, Bool.not_true, Bool.not_false, Nat.add_zero, Nat.zero_add, eq_self, Nat.not_lt_zero, Nat.reduceAdd, Nat.reduceMul, Nat.reduceSub, Nat.reduceDiv, Nat.reduceMod, Nat.reduceAnd, Nat.reduceXor, Nat.reduceEqDiff, Nat.reducePow, lt_T, lt_F, le_T, le_F, eq_F, x1, x13, a1, b1]
      · have x14 := c_word0 (k := 14) C (by omega) (Or.inr w14)
        by_cases w15 : tW B n G.1 = 1751477348
        · obtain ⟨ha, a1, a2, a3⟩ := c_word1 (k := 15) C (by omega) h1 w15
          obtain ⟨F', d', h', b1, b2, b3, b4, b5⟩ := c_ksize (t := 3) a2 (D.fp a3) (by omega)
          refine ⟨F', d', h', ?_, Or.inr (Or.inr (Or.inr (Or.inl ⟨w15, b2⟩))), b3, b4, (a3.mono (fun _ _ z => z.c)).trans b5⟩
          unfold qX3_readCluesLine_62 qX3_readClueWord
          simp (disch := omega) only [↓reduceIte, ↓q_m1, ↓q_m2, k_o, k_0, k_1, k_2, k_3, k_4, k_5, k_6, k_7, k_8, k_9, k_10, k_11, k_16, k_17, k_19, k_20, k_24, k_26, k_27, k_30, k_32, k_33, k_35, k_40, k_43, k_48, k_50, k_57, k_60, k_64, k_81, k_86, k_34, k_66, k_322, k_97, k_99, k_100, k_122, k_128, k_160, k_161, k_255, k_256, k_512, k_580, k_600, k_1000, k_4096, k_far, k_o, nI_add, n_mul, n_sub, n_div, n_rem, n_lt, n_le, n_eq, n_cl, n_and, n_or, n_xor, m1_lt, lt_m1, m1_eq, eq_m1, le_m1, m1_le, m2_eq, up_eq, up_ne, n_shl, n_shr, b2_some, let_e, ob_some, bI_0, bI_a, bI_t, bI_f, if_true, if_false, ite_true, ite_false, true_and, and_true, false_and, and_false, true_or, or_true, false_or, or_false, not_true_eq_false, not_false_eq_true, ite_not, ne_eq, Bool.true_eq_false, Bool.false_eq_true, reduceCtorEq, decide_true, decide_false, Bool.and_true, Bool.and_false, Bool.true_and, Bool.false_and, Bool.or_true, Bool.or_false, Bool.not_true, Bool.not_false, Nat.add_zero, Nat.zero_add, eq_self, Nat.not_lt_zero, Nat.reduceAdd, Nat.reduceMul, Nat.reduceSub, Nat.reduceDiv, Nat.reduceMod, Nat.reduceAnd, Nat.reduceXor, Nat.reduceEqDiff, Nat.reducePow, lt_T, lt_F, le_T, le_F, eq_F, x1, x13, x14, a1, b1]
        · have x15 := c_word0 (k := 15) C (by omega) (Or.inr w15)
          obtain ⟨ha, a1, a2, a3⟩ := c_ref C
          obtain ⟨F', d', h', b1, b2, b3, b4, b5⟩ := c_ksize (t := 3) a2 (D.fp a3) (by omega)
          have fr1 : (fRef B n G).2.1 = 1 := by unfold fRef; rw [if_neg h1]
          have ef : F' = fRef B n G := by rw [b2.1, fNum_1 B n 1 8 (F := (fNum B n 1 8 (fRef B n G)).2) (by rw [fNum_1 B n 1 8 fr1]; exact fr1), fNum_1 B n 1 8 fr1]
          refine ⟨F', d', h', ?_, Or.inr (Or.inr (Or.inr (Or.inr ⟨w1, w13, w14, w15, ef⟩))), b3, b4, (a3.mono (fun _ _ z => z.c)).trans b5⟩
          unfold qX3_readCluesLine_62 qX3_readClueWord
          simp (disch := omega) only [↓reduceIte, ↓q_m1, ↓q_m2, k_o, k_0, k_1, k_2, k_3, k_4, k_5, k_6, k_7, k_8, k_9, k_10, k_11, k_16, k_17, k_19, k_20, k_24, k_26, k_27, k_30, k_32, k_33, k_35, k_40, k_43, k_48, k_50, k_57, k_60, k_64, k_81, k_86, k_34, k_66, k_322, k_97, k_99, k_100, k_122, k_128, k_160, k_161, k_255, k_256, k_512, k_580, k_600, k_1000, k_4096, k_far, k_o, nI_add, n_mul, n_sub, n_div, n_rem, n_lt, n_le, n_eq, n_cl, n_and, n_or, n_xor, m1_lt, lt_m1, m1_eq, eq_m1, le_m1, m1_le, m2_eq, up_eq, up_ne, n_shl, n_shr, b2_some, let_e, ob_some, bI_0, bI_a, bI_t, bI_f, if_true, if_false, ite_true, ite_false, true_and, and_true, false_and, and_false, true_or, or_true, false_or, or_false, not_true_eq_false, not_false_eq_true, ite_not, ne_eq, Bool.true_eq_false, Bool.false_eq_true, reduceCtorEq, decide_true, decide_false, Bool.and_true, Bool.and_false, Bool.true_and, Bool.false_and, Bool.or_true, Bool.or_false, Bool.not_true, Bool.not_false, Nat.add_zero, Nat.zero_add, eq_self, Nat.not_lt_zero, Nat.reduceAdd, Nat.reduceMul, Nat.reduceSub, Nat.reduceDiv, Nat.reduceMod, Nat.reduceAnd, Nat.reduceXor, Nat.reduceEqDiff, Nat.reducePow, lt_T, lt_F, le_T, le_F, eq_F, x1, x13, x14, x15, a1, b1]
theorem c_lineK {B : Nat → Nat} {n : Nat} {F : fl} {h : qm_H} {d : dK} (C : fC B n F h) (h1 : F.2.1 ≠ 1) (D : DcK d h) : ∃ F' d' h', qX3_readCluesLine 31 h = some h' ∧ LnK B n F d F' d' ∧ fC B n F' h' ∧ DcK d' h' ∧ qFr cP h h' := by
  by_cases w0 : tW B n F.1 = 1936292453
  · obtain ⟨ha, a1, a2, a3⟩ := c_word1 (k := 0) C (by omega) h1 w0
    obtain ⟨hb, b1, b2, b3⟩ := c_num (lo := 2) (hi := 8) a2 (by omega) (by omega)
    have C3 : fC B n (fNum B n 2 8 (fAdv B n F)).2 (qm_seti hb 41 1 (nI (fNum B n 2 8 (fAdv B n F)).1)) := b2.mv (fun k => sI_ne (by omega)) (fun k => sI_ne (by omega)) (sI_ne (by omega)) (sI_ne (by omega))
    obtain ⟨hc, d1, d2, d3⟩ := c_num (lo := 2) (hi := 8) C3 (by omega) (by omega)
    have r1 := fNum_r B n (lo := 2) (hi := 8) (fAdv B n F) (by omega)
    have r2 := fNum_r B n (lo := 2) (hi := 8) (fNum B n 2 8 (fAdv B n F)).2 (by omega)
    obtain ⟨p1, p2, p3, f1, f2, f3, f4⟩ := (D.fp a3).fp b3
    have kc : ∀ F' d', F' = (fNum B n 2 8 (fNum B n 2 8 (fAdv B n F)).2).2 → d' = (((fNum B n 2 8 (fAdv B n F)).1, (fNum B n 2 8 (fNum B n 2 8 (fAdv B n F)).2).1, d.1.2.2.1, d.1.2.2.2.1, d.1.2.2.2.2.1, d.1.2.2.2.2.2), d.2.1, d.2.2) → LnK B n F d F' d' := fun _ _ e1 e2 => Or.inl ⟨w0, e1, e2⟩
    clear a2 b2 C3
    generalize fNum B n 2 8 (fNum B n 2 8 (fAdv B n F)).2 = N2 at *
    generalize fNum B n 2 8 (fAdv B n F) = N1 at *
    have g : ∀ a k, ¬ fP a k → ¬ (a = 41 ∧ k = 1) → hc.1 a k = hb.1 a k := fun a k z1 z2 => by rw [(d3 a k z1).1, sI_ne z2]
    refine ⟨_, _, qm_seti hc 41 2 (nI N2.1), ?_, kc _ _ rfl rfl, d2.mv (fun k => sI_ne (by omega)) (fun k => sI_ne (by omega)) (sI_ne (by omega)) (sI_ne (by omega)), DcK.mk ⟨r1.1, r1.2, r2.1, r2.2, p1.2.2.2.2⟩ ⟨?_, sI_eq _ _ _ _, ?_⟩ (fun k hk => ?_) ⟨f1, f2, ?_, ?_⟩, ?_⟩
    · unfold qX3_readCluesLine
      simp (disch := omega) only [↓reduceIte, ↓q_m1, ↓q_m2, k_o, k_0, k_1, k_2, k_3, k_4, k_5, k_6, k_7, k_8, k_9, k_10, k_11, k_16, k_17, k_19, k_20, k_24, k_26, k_27, k_30, k_32, k_33, k_35, k_40, k_43, k_48, k_50, k_57, k_60, k_64, k_81, k_86, k_34, k_66, k_322, k_97, k_99, k_100, k_122, k_128, k_160, k_161, k_255, k_256, k_512, k_580, k_600, k_1000, k_4096, k_far, k_o, nI_add, n_mul, n_sub, n_div, n_rem, n_lt, n_le, n_eq, n_cl, n_and, n_or, n_xor, m1_lt, lt_m1, m1_eq, eq_m1, le_m1, m1_le, m2_eq, up_eq, up_ne, n_shl, n_shr, b2_some, let_e, ob_some, bI_0, bI_a, bI_t, bI_f, if_true, if_false, ite_true, ite_false, true_and, and_true, false_and, and_false, true_or, or_true, false_or, or_false, not_true_eq_false, not_false_eq_true, ite_not, ne_eq, Bool.true_eq_false, Bool.false_eq_true, reduceCtorEq, decide_true, decide_false, Bool.and_true, Bool.and_false, Bool.true_and, Bool.false_and, Bool.or_true, Bool.or_false, Bool.not_true, Bool.not_false, Nat.add_zero, Nat.zero_add, eq_self, Nat.not_lt_zero, Nat.reduceAdd, Nat.reduceMul, Nat.reduceSub, Nat.reduceDiv, Nat.reduceMod, Nat.reduceAnd, Nat.reduceXor, Nat.reduceEqDiff, Nat.reducePow, lt_T, lt_F, le_T, le_F, eq_F, a1, b1, d1]
    · rw [sI_ne (by omega), (d3 _ _ (by unfold fP; omega)).1]; exact sI_eq _ _ _ _
    · rw [sI_ne (by omega), g _ _ (by unfold fP; omega) (by omega)]; exact p2.2.2
    · rw [sI_ne (by omega), sI_ne (by omega), sI_ne (by omega), g _ _ (by unfold fP; omega) (by omega), g _ _ (by unfold fP; omega) (by omega), g _ _ (by unfold fP; omega) (by omega)]; exact p3 k hk
    · rw [sI_ne (by omega), g _ _ (by unfold fP; omega) (by omega)]; exact f3
    · rw [sI_ne (by omega), g _ _ (by unfold fP; omega) (by omega)]; exact f4
    · exact ((((a3.mono (fun _ _ z => z.c)).trans (b3.mono (fun _ _ z => z.c))).trans (qFr.seti (by unfold cP; omega))).trans (d3.mono (fun _ _ z => z.c))).trans (qFr.seti (by unfold cP; omega))
  · have x0 := c_word0 (k := 0) C (by omega) (Or.inr w0)
    have gf := fFull_1 (B := B) (n := n) (m := d.1.2.2.1) (most := 10) h1
    have hn := C.1.1
    have s1 := t_S B C.2.1
    have e := D.2.1.2.2
    have hm := D.1.2.2.2.2
    have e3 := C.2.2.1.2.1
    obtain ⟨h0, a1, a2, a3⟩ : ∃ h0, qX3_readCluesLine 31 h = qX3_readCluesLine_62 31 h0 ∧ fC B n (fFull B n d.1.2.2.1 10 F) h0 ∧ qFr fP h h0 := by
      unfold fFull
      by_cases q : d.1.2.2.1 < 10
      · rw [if_pos q]
        refine ⟨h, ?_, C, qFr.refl _ _⟩
        unfold qX3_readCluesLine
        simp (disch := omega) only [↓reduceIte, ↓q_m1, ↓q_m2, k_o, k_0, k_1, k_2, k_3, k_4, k_5, k_6, k_7, k_8, k_9, k_10, k_11, k_16, k_17, k_19, k_20, k_24, k_26, k_27, k_30, k_32, k_33, k_35, k_40, k_43, k_48, k_50, k_57, k_60, k_64, k_81, k_86, k_34, k_66, k_322, k_97, k_99, k_100, k_122, k_128, k_160, k_161, k_255, k_256, k_512, k_580, k_600, k_1000, k_4096, k_far, k_o, nI_add, n_mul, n_sub, n_div, n_rem, n_lt, n_le, n_eq, n_cl, n_and, n_or, n_xor, m1_lt, lt_m1, m1_eq, eq_m1, le_m1, m1_le, m2_eq, up_eq, up_ne, n_shl, n_shr, b2_some, let_e, ob_some, bI_0, bI_a, bI_t, bI_f, if_true, if_false, ite_true, ite_false, true_and, and_true, false_and, and_false, true_or, or_true, false_or, or_false, not_true_eq_false, not_false_eq_true, ite_not, ne_eq, Bool.true_eq_false, Bool.false_eq_true, reduceCtorEq, decide_true, decide_false, Bool.and_true, Bool.and_false, Bool.true_and, Bool.false_and, Bool.or_true, Bool.or_false, Bool.not_true, Bool.not_false, Nat.add_zero, Nat.zero_add, eq_self, Nat.not_lt_zero, Nat.reduceAdd, Nat.reduceMul, Nat.reduceSub, Nat.reduceDiv, Nat.reduceMod, Nat.reduceAnd, Nat.reduceXor, Nat.reduceEqDiff, Nat.reducePow, lt_T, lt_F, le_T, le_F, eq_F, x0, e]
      · rw [if_neg q]
        obtain ⟨h0, b1, b2, b3⟩ := c_note (c := 3) (q := tS B n F.1) C (by omega) (by omega) (by omega)
        refine ⟨h0, ?_, b2, b3⟩
        unfold qX3_readCluesLine
        simp (disch := omega) only [↓reduceIte, ↓q_m1, ↓q_m2, k_o, k_0, k_1, k_2, k_3, k_4, k_5, k_6, k_7, k_8, k_9, k_10, k_11, k_16, k_17, k_19, k_20, k_24, k_26, k_27, k_30, k_32, k_33, k_35, k_40, k_43, k_48, k_50, k_57, k_60, k_64, k_81, k_86, k_34, k_66, k_322, k_97, k_99, k_100, k_122, k_128, k_160, k_161, k_255, k_256, k_512, k_580, k_600, k_1000, k_4096, k_far, k_o, nI_add, n_mul, n_sub, n_div, n_rem, n_lt, n_le, n_eq, n_cl, n_and, n_or, n_xor, m1_lt, lt_m1, m1_eq, eq_m1, le_m1, m1_le, m2_eq, up_eq, up_ne, n_shl, n_shr, b2_some, let_e, ob_some, bI_0, bI_a, bI_t, bI_f, if_true, if_false, ite_true, ite_false, true_and, and_true, false_and, and_false, true_or, or_true, false_or, or_false, not_true_eq_false, not_false_eq_true, ite_not, ne_eq, Bool.true_eq_false, Bool.false_eq_true, reduceCtorEq, decide_true, decide_false, Bool.and_true, Bool.and_false, Bool.true_and, Bool.false_and, Bool.or_true, Bool.or_false, Bool.not_true, Bool.not_false, Nat.add_zero, Nat.zero_add, eq_self, Nat.not_lt_zero, Nat.reduceAdd, Nat.reduceMul, Nat.reduceSub, Nat.reduceDiv, Nat.reduceMod, Nat.reduceAnd, Nat.reduceXor, Nat.reduceEqDiff, Nat.reducePow, lt_T, lt_F, le_T, le_F, eq_F, x0, e, e3, b1]
    obtain ⟨F', d', h', b1, b2, b3, b4, b5⟩ := c_lineK2 a2 gf.2.1 (D.fp a3)
    exact ⟨F', d', h', a1.trans b1, Or.inr ⟨w0, b2⟩, b3, b4, (a3.mono (fun _ _ z => z.c)).trans b5⟩
