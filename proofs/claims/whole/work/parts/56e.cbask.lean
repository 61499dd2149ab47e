/-! text: a line of a BASKET, the class's. -/
def yup (f : Nat → Nat) (k v : Nat) : Nat → Nat := fun i => if i = k then v else f i
/-- a draft of a BASKET: it, how far STROKES were told of -/
abbrev dB : Type := qB × Nat × Nat
def dBok (d : dB) : Prop := 2 ≤ bw d.1 ∧ bw d.1 ≤ 8 ∧ 2 ≤ bh d.1 ∧ bh d.1 ≤ 8 ∧ bx d.1 ≤ 1 ∧ (∀ i, i < 16 → bT d.1 i ≤ 9 ∧ bR d.1 i ≤ 9) ∧ (∀ r c, bO d.1 r c = true → r ≤ d.2.2 ∧ c ≤ d.2.1) ∧ d.2.1 ≤ 7 ∧ d.2.2 ≤ 7
/-- what a line makes of it -/
def LnB (B : Nat → Nat) (n : Nat) (F : fl) (d : dB) (F' : fl) (d' : dB) : Prop :=
  (tW B n F.1 = 1936292453 ∧ F' = (fNum B n 2 8 (fNum B n 2 8 (fAdv B n F)).2).2 ∧ d' = (((fNum B n 2 8 (fAdv B n F)).1, (fNum B n 2 8 (fNum B n 2 8 (fAdv B n F)).2).1, bx d.1, bT d.1, bR d.1, bO d.1), d.2.1, d.2.2)) ∨
  (tW B n F.1 = 1869636974 ∧ F' = (fNum B n 0 7 (fNum B n 0 7 (fAdv B n F)).2).2 ∧ d' = ((bw d.1, bh d.1, bx d.1, bT d.1, bR d.1, fun r c => bO d.1 r c || decide (r = (fNum B n 0 7 (fNum B n 0 7 (fAdv B n F)).2).1 ∧ c = (fNum B n 0 7 (fAdv B n F)).1)), max d.2.1 (fNum B n 0 7 (fAdv B n F)).1, max d.2.2 (fNum B n 0 7 (fNum B n 0 7 (fAdv B n F)).2).1)) ∨
  (tW B n F.1 = 7499620 ∧ F' = (fNum B n 0 9 (fNum B n 0 9 (fNum B n 0 7 (fAdv B n F)).2).2).2 ∧ d' = ((bw d.1, bh d.1, bx d.1, yup (bT d.1) (8 * 0 + (fNum B n 0 7 (fAdv B n F)).1) (fNum B n 0 9 (fNum B n 0 7 (fAdv B n F)).2).1, yup (bR d.1) (8 * 0 + (fNum B n 0 7 (fAdv B n F)).1) (fNum B n 0 9 (fNum B n 0 9 (fNum B n 0 7 (fAdv B n F)).2).2).1, bO d.1), d.2.1, max d.2.2 (fNum B n 0 7 (fAdv B n F)).1)) ∨
  (tW B n F.1 = 495873780581 ∧ F' = (fNum B n 0 9 (fNum B n 0 9 (fNum B n 0 7 (fAdv B n F)).2).2).2 ∧ d' = ((bw d.1, bh d.1, bx d.1, yup (bT d.1) (8 * 1 + (fNum B n 0 7 (fAdv B n F)).1) (fNum B n 0 9 (fNum B n 0 7 (fAdv B n F)).2).1, yup (bR d.1) (8 * 1 + (fNum B n 0 7 (fAdv B n F)).1) (fNum B n 0 9 (fNum B n 0 9 (fNum B n 0 7 (fAdv B n F)).2).2).1, bO d.1), max d.2.1 (fNum B n 0 7 (fAdv B n F)).1, d.2.2)) ∨
  (tW B n F.1 = 7824756 ∧ F' = fAdv B n F ∧ d' = ((bw d.1, bh d.1, 1, bT d.1, bR d.1, bO d.1), d.2.1, d.2.2)) ∨
  (tW B n F.1 ≠ 1936292453 ∧ tW B n F.1 ≠ 1869636974 ∧ tW B n F.1 ≠ 7499620 ∧ tW B n F.1 ≠ 495873780581 ∧ tW B n F.1 ≠ 7824756 ∧ F' = fRef B n F ∧ d' = d)
/-- the class's draft -/
def DcB (d : dB) (h : qm_H) : Prop := dBok d ∧ bC 32 d.1 h ∧ h.1 31 7 = nI d.2.1 ∧ h.1 31 8 = nI d.2.2
theorem dBok.mk {w g x X Y : Nat} {T R : Nat → Nat} {O : Nat → Nat → Bool} (a1 : 2 ≤ w) (a2 : w ≤ 8) (a3 : 2 ≤ g) (a4 : g ≤ 8) (a5 : x ≤ 1) (a6 : ∀ i, i < 16 → T i ≤ 9 ∧ R i ≤ 9) (a7 : ∀ r c, O r c = true → r ≤ Y ∧ c ≤ X) (a8 : X ≤ 7) (a9 : Y ≤ 7) : dBok ((w, g, x, T, R, O), X, Y) := ⟨a1, a2, a3, a4, a5, a6, a7, a8, a9⟩
theorem DcB.mk {w g x X Y : Nat} {T R : Nat → Nat} {O : Nat → Nat → Bool} {h : qm_H} (ok : dBok ((w, g, x, T, R, O), X, Y)) (e3 : h.1 32 3 = nI w) (e4 : h.1 32 4 = nI g) (e5 : h.1 32 5 = nI x) (eT : ∀ i, i < 16 → h.1 33 i = nI (T i)) (eR : ∀ i, i < 16 → h.1 34 i = nI (R i)) (eO : ∀ r c, r < 8 → c < 8 → lb (h.2 32 6) (8 * r + c) = O r c) (e7 : h.1 31 7 = nI X) (e8 : h.1 31 8 = nI Y) : DcB ((w, g, x, T, R, O), X, Y) h := ⟨ok, ⟨e3, e4, e5, fun i hi => ⟨eT i hi, eR i hi⟩, eO⟩, e7, e8⟩
/-- the class's draft, taken apart -/
theorem DcB.un {d : dB} {h : qm_H} (D : DcB d h) : 2 ≤ bw d.1 ∧ bw d.1 ≤ 8 ∧ 2 ≤ bh d.1 ∧ bh d.1 ≤ 8 ∧ bx d.1 ≤ 1 ∧ (∀ i, i < 16 → bT d.1 i ≤ 9 ∧ bR d.1 i ≤ 9) ∧ (∀ r c, bO d.1 r c = true → r ≤ d.2.2 ∧ c ≤ d.2.1) ∧ d.2.1 ≤ 7 ∧ d.2.2 ≤ 7 ∧ h.1 32 3 = nI (bw d.1) ∧ h.1 32 4 = nI (bh d.1) ∧ h.1 32 5 = nI (bx d.1) ∧ (∀ i, i < 16 → h.1 33 i = nI (bT d.1 i)) ∧ (∀ i, i < 16 → h.1 34 i = nI (bR d.1 i)) ∧ (∀ r c, r < 8 → c < 8 → lb (h.2 32 6) (8 * r + c) = bO d.1 r c) ∧ h.1 31 7 = nI d.2.1 ∧ h.1 31 8 = nI d.2.2 := by
  obtain ⟨⟨a1, a2, a3, a4, a5, a6, a7, a8, a9⟩, ⟨b1, b2, b3, b4, b5⟩, c1, c2⟩ := D
  exact ⟨a1, a2, a3, a4, a5, a6, a7, a8, a9, b1, b2, b3, fun i hi => (b4 i hi).1, fun i hi => (b4 i hi).2, b5, c1, c2⟩
theorem DcB.fr {d : dB} {h h' : qm_H} (D : DcB d h) {P : Nat → Nat → Prop} (e : qFr P h h') (i : ∀ a k, (32 ≤ a ∧ a ≤ 34) ∨ (a = 31 ∧ (k = 7 ∨ k = 8)) → ¬ P a k) : DcB d h' :=
  ⟨D.1, D.2.1.mv (fun a k h1 h2 => (e _ _ (i _ _ (by omega))).1) (e _ _ (i _ _ (by omega))).2, by rw [(e _ _ (i _ _ (by omega))).1]; exact D.2.2.1, by rw [(e _ _ (i _ _ (by omega))).1]; exact D.2.2.2⟩
theorem DcB.fp {d : dB} {h h' : qm_H} (D : DcB d h) (e : qFr fP h h') : DcB d h' := D.fr e (fun a k z => by unfold fP; omega)
/-- cells of the class's reading -/
def cP (a _k : Nat) : Prop := 31 ≤ a ∧ a ≤ 43
theorem fP.c {a k : Nat} (z : fP a k) : cP a k := by unfold fP at z; unfold cP; omega
theorem c_setT {s w t v : Nat} {h : qm_H} (hs : s ≤ 1) (hw : w ≤ 7) : qX0_setTwig 32 (nI s) (nI w) (nI t) (nI v) h = some (qm_seti (qm_seti h 33 (8 * s + w) (nI t)) 34 (8 * s + w) (nI v)) := by
  unfold qX0_setTwig
  simp (disch := omega) only [↓reduceIte, ↓q_m1, ↓q_m2, k_o, k_0, k_1, k_2, k_3, k_4, k_5, k_6, k_7, k_8, k_9, k_10, k_11, k_16, k_17, k_19, k_20, k_24, k_26, k_27, k_30, k_32, k_33, k_35, k_40, k_43, k_48, k_50, k_57, k_60, k_64, k_81, k_86, k_34, k_66, k_322, k_97, k_99, k_100, k_122, k_128, k_160, k_161, k_255, k_256, k_512, k_580, k_600, k_1000, k_4096, k_far, k_o, nI_add, n_mul, n_sub, n_div, n_rem, n_lt, n_le, n_eq, n_cl, n_and, n_or, n_xor, m1_lt, lt_m1, m1_eq, eq_m1, le_m1, m1_le, m2_eq, up_eq, up_ne, n_shl, n_shr, b2_some, let_e, ob_some, bI_0, bI_a, bI_t, bI_f, if_true, if_false, ite_true, ite_false, true_and, and_true, false_and, and_false, true_or, or_true, false_or, or_false, not_true_eq_false, not_false_eq_true, ite_not, ne_eq, Bool.true_eq_false, Bool.false_eq_true, reduceCtorEq, decide_true, decide_false, Bool.and_true, Bool.and_false, Bool.true_and, Bool.false_and, Bool.or_true, Bool.or_false, Bool.not_true, Bool.not_false, Nat.add_zero, Nat.zero_add, eq_self, Nat.not_lt_zero, Nat.reduceAdd, Nat.reduceMul, Nat.reduceSub, Nat.reduceDiv, Nat.reduceMod, Nat.reduceAnd, Nat.reduceXor, Nat.reduceEqDiff, Nat.reducePow, lt_T, lt_F, le_T, le_F, eq_F]
theorem yup_le {f : Nat → Nat} {k v m : Nat} (hv : v ≤ m) (hf : ∀ i, i < 16 → f i ≤ m) (i : Nat) (hi : i < 16) : yup f k v i ≤ m := by
  unfold yup
  split
  · exact hv
  · exact hf i hi
theorem c_twig {B : Nat → Nat} {n s w : Nat} {F : fl} {h : qm_H} {d : dB} (C : fC B n F h) (D : DcB d h) (hs : s ≤ 1) (hw : w ≤ 7) : ∃ h', qX3_readTwig 31 (nI s) (nI w) h = some h' ∧ fC B n (fNum B n 0 9 (fNum B n 0 9 F).2).2 h' ∧ DcB ((bw d.1, bh d.1, bx d.1, yup (bT d.1) (8 * s + w) (fNum B n 0 9 F).1, yup (bR d.1) (8 * s + w) (fNum B n 0 9 (fNum B n 0 9 F).2).1, bO d.1), d.2.1, d.2.2) h' ∧ qFr cP h h' := by
  obtain ⟨h1, a1, a2, a3⟩ := c_num (lo := 0) (hi := 9) C (by omega) (by omega)
  obtain ⟨h2, b1, b2, b3⟩ := c_num (lo := 0) (hi := 9) a2 (by omega) (by omega)
  have r1 := fNum_r B n (lo := 0) (hi := 9) F (by omega)
  have r2 := fNum_r B n (lo := 0) (hi := 9) (fNum B n 0 9 F).2 (by omega)
  have D2 := (D.fp a3).fp b3
  generalize fNum B n 0 9 (fNum B n 0 9 F).2 = N2 at *
  generalize fNum B n 0 9 F = N1 at *
  have st := c_setT (t := N1.1) (v := N2.1) (h := h2) hs hw
  obtain ⟨p1, p2, p3, p4, p5, p6, p7, p8, p9, q3, q4, q5, qT, qRr, qO, q7, q8⟩ := D2.un
  refine ⟨qm_seti (qm_seti h2 33 (8 * s + w) (nI N1.1)) 34 (8 * s + w) (nI N2.1), ?_, b2.mv (fun k => by rw [sI_ne (by omega), sI_ne (by omega)]) (fun k => by rw [sI_ne (by omega), sI_ne (by omega)]) (by rw [sI_ne (by omega), sI_ne (by omega)]) (by rw [sI_ne (by omega), sI_ne (by omega)]), DcB.mk (dBok.mk p1 p2 p3 p4 p5 (fun i hi => ⟨yup_le r1.2 (fun i hi => (p6 i hi).1) i hi, yup_le r2.2 (fun i hi => (p6 i hi).2) i hi⟩) p7 p8 p9) ?_ ?_ ?_ (fun i hi => ?_) (fun i hi => ?_) qO ?_ ?_, ?_⟩
  · unfold qX3_readTwig
    simp (disch := omega) only [↓reduceIte, ↓q_m1, ↓q_m2, k_o, k_0, k_1, k_2, k_3, k_4, k_5, k_6, k_7, k_8, k_9, k_10, k_11, k_16, k_17, k_19, k_20, k_24, k_26, k_27, k_30, k_32, k_33, k_35, k_40, k_43, k_48, k_50, k_57, k_60, k_64, k_81, k_86, k_34, k_66, k_322, k_97, k_99, k_100, k_122, k_128, k_160, k_161, k_255, k_256, k_512, k_580, k_600, k_1000, k_4096, k_far, k_o, nI_add, n_mul, n_sub, n_div, n_rem, n_lt, n_le, n_eq, n_cl, n_and, n_or, n_xor, m1_lt, lt_m1, m1_eq, eq_m1, le_m1, m1_le, m2_eq, up_eq, up_ne, n_shl, n_shr, b2_some, let_e, ob_some, bI_0, bI_a, bI_t, bI_f, if_true, if_false, ite_true, ite_false, true_and, and_true, false_and, and_false, true_or, or_true, false_or, or_false, not_true_eq_false, not_false_eq_true, ite_not, ne_eq, Bool.true_eq_false, Bool.false_eq_true, reduceCtorEq, decide_true, decide_false, Bool.and_true, Bool.and_false, Bool.true_and, Bool.false_and, Bool.or_true, Bool.or_false, Bool.not_true, Bool.not_false, Nat.add_zero, Nat.zero_add, eq_self, Nat.not_lt_zero, Nat.reduceAdd, Nat.reduceMul, Nat.reduceSub, Nat.reduceDiv, Nat.reduceMod, Nat.reduceAnd, Nat.reduceXor, Nat.reduceEqDiff, Nat.reducePow, lt_T, lt_F, le_T, le_F, eq_F, a1, b1, st]
  · rw [sI_ne (by omega), sI_ne (by omega)]; exact q3
  · rw [sI_ne (by omega), sI_ne (by omega)]; exact q4
  · rw [sI_ne (by omega), sI_ne (by omega)]; exact q5
  · rw [sI_ne (by omega)]
    unfold yup
    by_cases z : i = 8 * s + w
    · rw [if_pos z, z]; exact sI_eq _ _ _ _
    · rw [if_neg z, sI_ne (by omega)]; exact qT i hi
  · unfold yup
    by_cases z : i = 8 * s + w
    · rw [if_pos z, z]; exact sI_eq _ _ _ _
    · rw [if_neg z, sI_ne (by omega), sI_ne (by omega)]; exact qRr i hi
  · rw [sI_ne (by omega), sI_ne (by omega)]; exact q7
  · rw [sI_ne (by omega), sI_ne (by omega)]; exact q8
  · exact (((a3.mono (fun _ _ z => z.c)).trans (b3.mono (fun _ _ z => z.c))).trans (qFr.seti (by unfold cP; omega))).trans (qFr.seti (by unfold cP; omega))
