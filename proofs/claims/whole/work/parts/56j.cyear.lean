/-! text: a line of a YEAR, the class's. -/
/-- a draft of a YEAR: how many DEEDS, their numbers -/
abbrev dY : Type := Nat × (Nat → Nat → Int32)
def dAdd (d : dY) (a b c e : Int32) : dY := if d.1 < 40 then (d.1 + 1, fun k p => if k = d.1 then (if p = 0 then a else if p = 1 then b else if p = 2 then c else e) else d.2 k p) else d
def DcY (d : dY) (h : qm_H) : Prop := d.1 ≤ 40 ∧ h.1 36 1 = nI d.1 ∧ (∀ k, k < d.1 → ∀ p, p < 4 → h.1 37 (4 * k + p) = d.2 k p) ∧ ∀ k, k < d.1 → deedOK (d.2 k 0) (d.2 k 1) (d.2 k 2) (d.2 k 3)
theorem DcY.fp {d : dY} {h h' : qm_H} (D : DcY d h) (e : qFr fP h h') : DcY d h' := by
  obtain ⟨a1, a2, a3, a4⟩ := D
  exact ⟨a1, by rw [(e _ _ (by unfold fP; omega)).1]; exact a2, fun k hk p hp => by rw [(e _ _ (by unfold fP; omega)).1]; exact a3 k hk p hp, a4⟩
theorem c_yadd {d : dY} {h : qm_H} {a b c e : Int32} (D : DcY d h) (ok : deedOK a b c e) : ∃ h', qX10_add 36 a b c e h = some h' ∧ DcY (dAdd d a b c e) h' ∧ qFr (fun a _ => a = 36 ∨ a = 37) h h' := by
  obtain ⟨a1, a2, a3, a4⟩ := D
  unfold dAdd
  by_cases q : d.1 < 40
  · rw [if_pos q]
    refine ⟨qm_seti (qm_seti (qm_seti (qm_seti (qm_seti h 37 (4 * d.1) a) 37 (4 * d.1 + 1) b) 37 (4 * d.1 + 2) c) 37 (4 * d.1 + 3) e) 36 1 (nI (d.1 + 1)), ?_, ⟨?_, sI_eq _ _ _ _, fun k hk p hp => ?_, fun k hk => ?_⟩, ?_⟩
    · unfold qX10_add
      simp (disch := omega) only [↓reduceIte, ↓q_m1, ↓q_m2, k_o, k_0, k_1, k_2, k_3, k_4, k_5, k_6, k_7, k_8, k_9, k_10, k_11, k_16, k_17, k_19, k_20, k_24, k_26, k_27, k_30, k_32, k_33, k_35, k_40, k_43, k_48, k_50, k_57, k_60, k_64, k_81, k_86, k_34, k_66, k_322, k_97, k_99, k_100, k_122, k_128, k_160, k_161, k_255, k_256, k_512, k_580, k_600, k_1000, k_4096, k_far, k_o, nI_add, n_mul, n_sub, n_div, n_rem, n_lt, n_le, n_eq, n_cl, n_and, n_or, n_xor, m1_lt, lt_m1, m1_eq, eq_m1, le_m1, m1_le, m2_eq, up_eq, up_ne, n_shl, n_shr, b2_some, let_e, ob_some, bI_0, bI_a, bI_t, bI_f, if_true, if_false, ite_true, ite_false, true_and, and_true, false_and, and_false, true_or, or_true, false_or, or_false, not_true_eq_false, not_false_eq_true, ite_not, ne_eq, Bool.true_eq_false, Bool.false_eq_true, reduceCtorEq, decide_true, decide_false, Bool.and_true, Bool.and_false, Bool.true_and, Bool.false_and, Bool.or_true, Bool.or_false, Bool.not_true, Bool.not_false, Nat.add_zero, Nat.zero_add, eq_self, Nat.not_lt_zero, Nat.reduceAdd, Nat.reduceMul, Nat.reduceSub, Nat.reduceDiv, Nat.reduceMod, Nat.reduceAnd, Nat.reduceXor, Nat.reduceEqDiff, Nat.reducePow, lt_T, lt_F, le_T, le_F, eq_F, a2]
    · show d.1 + 1 ≤ 40
      omega
    · have hk : k < d.1 + 1 := hk
      rw [sI_ne (by omega)]
      show _ = if k = d.1 then (if p = 0 then a else if p = 1 then b else if p = 2 then c else e) else d.2 k p
      by_cases z : k = d.1
      · rw [if_pos z, z]
        rcases (show p = 0 ∨ p = 1 ∨ p = 2 ∨ p = 3 by omega) with rfl | rfl | rfl | rfl
        · rw [sI_ne (by omega), sI_ne (by omega), sI_ne (by omega), if_pos rfl]; exact sI_eq _ _ _ _
        · rw [sI_ne (by omega), sI_ne (by omega), if_neg (by omega), if_pos rfl]; exact sI_eq _ _ _ _
        · rw [sI_ne (by omega), if_neg (by omega), if_neg (by omega), if_pos rfl]; exact sI_eq _ _ _ _
        · rw [if_neg (by omega), if_neg (by omega), if_neg (by omega)]; exact sI_eq _ _ _ _
      · rw [if_neg z, sI_ne (by omega), sI_ne (by omega), sI_ne (by omega), sI_ne (by omega)]
        exact a3 k (by omega) p hp
    · have hk : k < d.1 + 1 := hk
      by_cases z : k = d.1
      · show deedOK (if k = d.1 then _ else _) (if k = d.1 then _ else _) (if k = d.1 then _ else _) (if k = d.1 then _ else _)
        rw [if_pos z, if_pos z, if_pos z, if_pos z]
        exact ok
      · show deedOK (if k = d.1 then _ else _) (if k = d.1 then _ else _) (if k = d.1 then _ else _) (if k = d.1 then _ else _)
        rw [if_neg z, if_neg z, if_neg z, if_neg z]
        exact a4 k (by omega)
    · exact ((((qFr.seti (Or.inr rfl)).trans (qFr.seti (Or.inr rfl))).trans (qFr.seti (Or.inr rfl))).trans (qFr.seti (Or.inr rfl))).trans (qFr.seti (Or.inl rfl))
  · rw [if_neg q]
    refine ⟨h, ?_, ⟨a1, a2, a3, a4⟩, qFr.refl _ _⟩
    unfold qX10_add
    simp (disch := omega) only [↓reduceIte, ↓q_m1, ↓q_m2, k_o, k_0, k_1, k_2, k_3, k_4, k_5, k_6, k_7, k_8, k_9, k_10, k_11, k_16, k_17, k_19, k_20, k_24, k_26, k_27, k_30, k_32, k_33, k_35, k_40, k_43, k_48, k_50, k_57, k_60, k_64, k_81, k_86, k_34, k_66, k_322, k_97, k_99, k_100, k_122, k_128, k_160, k_161, k_255, k_256, k_512, k_580, k_600, k_1000, k_4096, k_far, k_o, nI_add, n_mul, n_sub, n_div, n_rem, n_lt, n_le, n_eq, n_cl, n_and, n_or, n_xor, m1_lt, lt_m1, m1_eq, eq_m1, le_m1, m1_le, m2_eq, up_eq, up_ne, n_shl, n_shr, b2_some, let_e, ob_some, bI_0, bI_a, bI_t, bI_f, if_true, if_false, ite_true, ite_false, true_and, and_true, false_and, and_false, true_or, or_true, false_or, or_false, not_true_eq_false, not_false_eq_true, ite_not, ne_eq, Bool.true_eq_false, Bool.false_eq_true, reduceCtorEq, decide_true, decide_false, Bool.and_true, Bool.and_false, Bool.true_and, Bool.false_and, Bool.or_true, Bool.or_false, Bool.not_true, Bool.not_false, Nat.add_zero, Nat.zero_add, eq_self, Nat.not_lt_zero, Nat.reduceAdd, Nat.reduceMul, Nat.reduceSub, Nat.reduceDiv, Nat.reduceMod, Nat.reduceAnd, Nat.reduceXor, Nat.reduceEqDiff, Nat.reducePow, lt_T, lt_F, le_T, le_F, eq_F, a2]
/-- mend, grow: a side, which -/
def LnCare (B : Nat → Nat) (n t : Nat) (G : fl) (d : dY) (F' : fl) (d' : dY) : Prop :=
  (tW B n G.1 = 495873780581 ∧ F' = (fNum B n 0 7 (fAdv B n G)).2 ∧ d' = dAdd d (nI t) (nI 1) (nI (fNum B n 0 7 (fAdv B n G)).1) m1) ∨
  (tW B n G.1 = 7499620 ∧ F' = (fNum B n 0 7 (fAdv B n G)).2 ∧ d' = dAdd d (nI t) (nI 0) (nI (fNum B n 0 7 (fAdv B n G)).1) m1) ∨
  (tW B n G.1 ≠ 495873780581 ∧ tW B n G.1 ≠ 7499620 ∧ F' = fRef B n G ∧ d' = dAdd d (nI t) (nI 0) (nI (fNum B n 0 7 (fRef B n G)).1) m1)
/-- a line; G: a 41st DEED is noted -/
def LnY2 (B : Nat → Nat) (n : Nat) (G : fl) (d : dY) (F' : fl) (d' : dY) : Prop :=
  (tW B n G.1 = 1684366692 ∧ F' = (fNum B n 0 99 (fNum B n 1 8 (fNum B n 1 8 (fAdv B n G)).2).2).2 ∧ d' = dAdd d (nI 0) (nI (fNum B n 1 8 (fAdv B n G)).1) (nI (fNum B n 1 8 (fNum B n 1 8 (fAdv B n G)).2).1) (nI (fNum B n 0 99 (fNum B n 1 8 (fNum B n 1 8 (fAdv B n G)).2).2).1)) ∨
  (tW B n G.1 = 1835363940 ∧ LnCare B n 1 (fAdv B n G) d F' d') ∨
  (tW B n G.1 = 1735552887 ∧ LnCare B n 2 (fAdv B n G) d F' d') ∨
  (tW B n G.1 = 512801994341 ∧ F' = (fNum B n 0 7 (fNum B n 0 7 (fAdv B n G)).2).2 ∧ d' = dAdd d (nI 3) (nI (fNum B n 0 7 (fAdv B n G)).1) (nI (fNum B n 0 7 (fNum B n 0 7 (fAdv B n G)).2).1) m1) ∨
  (tW B n G.1 = 131294708393330 ∧ F' = fAdv B n G ∧ d' = dAdd d (nI 4) m1 m1 m1) ∨
  (tW B n G.1 = 7824756 ∧ F' = fAdv B n G ∧ d' = dAdd d (nI 5) m1 m1 m1) ∨
  (tW B n G.1 = 6582905 ∧ F' = fAdv B n G ∧ d' = dAdd d (nI 6) m1 m1 m1) ∨
  (tW B n G.1 ≠ 1684366692 ∧ tW B n G.1 ≠ 1835363940 ∧ tW B n G.1 ≠ 1735552887 ∧ tW B n G.1 ≠ 512801994341 ∧ tW B n G.1 ≠ 131294708393330 ∧ tW B n G.1 ≠ 7824756 ∧ tW B n G.1 ≠ 6582905 ∧ F' = fRef B n G ∧ d' = d)
def fFull (B : Nat → Nat) (n m most : Nat) (F : fl) : fl := if m < most then F else fNote 3 (tS B n F.1) F
def LnY (B : Nat → Nat) (n : Nat) (F : fl) (d : dY) (F' : fl) (d' : dY) : Prop := LnY2 B n (fFull B n d.1 40 F) d F' d'
theorem fFull_1 {B : Nat → Nat} {n m most : Nat} {F : fl} (h : F.2.1 ≠ 1) : (fFull B n m most F).1 = F.1 ∧ (fFull B n m most F).2.1 ≠ 1 ∧ ((fFull B n m most F).2.1 = 0 → F.2.1 = 0 ∧ m < most) := by
  unfold fFull
  by_cases q : m < most
  · rw [if_pos q]
    exact ⟨rfl, h, fun z => ⟨z, q⟩⟩
  · rw [if_neg q]
    unfold fNote
    by_cases z : F.2.1 = 0
    · rw [if_pos z]
      exact ⟨rfl, (show (3 : Nat) ≠ 1 by omega), fun y => absurd y (show ¬ (3 : Nat) = 0 by omega)⟩
    · rw [if_neg z]
      exact ⟨rfl, h, fun y => absurd y z⟩
theorem c_care {B : Nat → Nat} {n t : Nat} {G : fl} {h : qm_H} {d : dY} (C : fC B n G h) (h1 : G.2.1 ≠ 1) (D : DcY d h) (ht : t = 1 ∨ t = 2) : ∃ F' d' h', qX3_readCare 31 (nI t) h = some h' ∧ LnCare B n t G d F' d' ∧ fC B n F' h' ∧ DcY d' h' ∧ qFr cP h h' := by
  have fin : ∀ (s : Nat) (F : fl) (hh : qm_H), s ≤ 1 → fC B n F hh → DcY d hh → ∃ h', qX3_readCare_29 31 (nI t) (nI s) hh = some h' ∧ fC B n (fNum B n 0 7 F).2 h' ∧ DcY (dAdd d (nI t) (nI s) (nI (fNum B n 0 7 F).1) m1) h' ∧ qFr cP hh h' := by
    intro s F hh hs C D
    obtain ⟨ha, a1, a2, a3⟩ := c_num (lo := 0) (hi := 7) C (by omega) (by omega)
    have r1 := fNum_r B n (lo := 0) (hi := 7) F (by omega)
    generalize fNum B n 0 7 F = N1 at *
    obtain ⟨hb, b1, b2, b3⟩ := c_yadd (a := nI t) (b := nI s) (c := nI N1.1) (e := m1) (D.fp a3) (Or.inr (Or.inl ⟨t, s, N1.1, ht, rfl, rfl, rfl, hs, r1.2, rfl⟩))
    refine ⟨hb, ?_, a2.fr b3 (fun a k z => by omega), b2, (a3.mono (fun _ _ z => z.c)).trans (b3.mono (fun a k z => by unfold cP; omega))⟩
    unfold qX3_readCare_29
    simp (disch := omega) only [↓reduceIte, ↓q_m1, ↓q_m2, k_o, k_0, k_1, k_2, k_3, k_4, k_5, k_6, k_7, k_8, k_9, k_10, k_11, k_16, k_17, k_19, k_20, k_24, k_26, k_27, k_30, k_32, k_33, k_35, k_40, k_43, k_48, k_50, k_57, k_60, k_64, k_81, k_86, k_34, k_66, k_322, k_97, k_99, k_100, k_122, k_128, k_160, k_161, k_255, k_256, k_512, k_580, k_600, k_1000, k_4096, k_far, k_o, nI_add, n_mul, n_sub, n_div, n_rem, n_lt, n_le, n_eq, n_cl, n_and, n_or, n_xor, m1_lt, lt_m1, m1_eq, eq_m1, le_m1, m1_le, m2_eq, up_eq, up_ne, n_shl, n_shr, b2_some, let_e, ob_some, bI_0, bI_a, bI_t, bI_f, if_true, if_false, ite_true, ite_false, true_and, and_true, false_and, and_false, true_or, or_true, false_or, or_false, not_true_eq_false, not_false_eq_true, ite_not, ne_eq, Bool.true_eq_false, Bool.false_eq_true, reduceCtorEq, decide_true, decide_false, Bool.and_true, Bool.and_false, Bool.true_and, Bool.false_and, Bool.or_true, Bool.or_false, Bool.not_true, Bool.not_false, Nat.add_zero, Nat.zero_add, eq_self, Nat.not_lt_zero, Nat.reduceAdd, Nat.reduceMul, Nat.reduceSub, Nat.reduceDiv, Nat.reduceMod, Nat.reduceAnd, Nat.reduceXor, Nat.reduceEqDiff, Nat.reducePow, lt_T, lt_F, le_T, le_F, eq_F, a1, b1]
  by_cases w3 : tW B n G.1 = 495873780581
  · obtain ⟨ha, a1, a2, a3⟩ := c_word1 (k := 3) C (by omega) h1 w3
    obtain ⟨h', b1, b2, b3, b4⟩ := fin 1 _ ha (by omega) a2 (D.fp a3)
    refine ⟨_, _, h', ?_, Or.inl ⟨w3, rfl, rfl⟩, b2, b3, (a3.mono (fun _ _ z => z.c)).trans b4⟩
    unfold qX3_readCare
    simp (disch := omega) only [↓reduceIte, ↓q_m1, ↓q_m2, k_o, k_0, k_1, k_2, k_3, k_4, k_5, k_6, k_7, k_8, k_9, k_10, k_11, k_16, k_17, k_19, k_20, k_24, k_26, k_27, k_30, k_32, k_33, k_35, k_40, k_43, k_48, k_50, k_57, k_60, k_64, k_81, k_86, k_34, k_66, k_322, k_97, k_99, k_100, k_122, k_128, k_160, k_161, k_255, k_256, k_512, k_580, k_600, k_1000, k_4096, k_far, k_o, nI_add, n_mul, n_sub, n_div, n_rem, n_lt, n_le, n_eq, n_cl, n_and, n_or, n_xor, m1_lt, lt_m1, m1_eq, eq_m1, le_m1, m1_le, m2_eq, up_eq, up_ne, n_shl, n_shr, b2_some, let_e, ob_some, bI_0, bI_a, bI_t, bI_f, if_true, if_false, ite_true, ite_false, true_and, and_true, false_and, and_false, true_or, or_true, false_or, or_false, not_true_eq_false, not_false_eq_true, ite_not, ne_eq, Bool.true_eq_false, Bool.false_eq_true, reduceCtorEq, decide_true, decide_false, Bool.and_true, Bool.and_false, Bool.true_and, Bool.false_and, Bool.or_true, Bool.or_false, Bool.not_true, Bool.not_false, Nat.add_zero, Nat.zero_add, eq_self, Nat.not_lt_zero, Nat.reduceAdd, Nat.reduceMul, Nat.reduceSub, Nat.reduceDiv, Nat.reduceMod, Nat.reduceAnd, Nat.reduceXor, Nat.reduceEqDiff, Nat.reducePow, lt_T, lt_F, le_T, le_F, eq_F, a1, b1]
  · have e3 := c_word0 (k := 3) C (by omega) (Or.inr w3)
    by_cases w2 : tW B n G.1 = 7499620
    · obtain ⟨ha, a1, a2, a3⟩ := c_word1 (k := 2) C (by omega) h1 w2
      obtain ⟨h', b1, b2, b3, b4⟩ := fin 0 _ ha (by omega) a2 (D.fp a3)
      refine ⟨_, _, h', ?_, Or.inr (Or.inl ⟨w2, rfl, rfl⟩), b2, b3, (a3.mono (fun _ _ z => z.c)).trans b4⟩
      unfold qX3_readCare
      simp (disch := omega) only [↓reduceIte, ↓q_m1, ↓q_m2, k_o, k_0, k_1, k_2, k_3, k_4, k_5, k_6, k_7, k_8, k_9, k_10, k_11, k_16, k_17, k_19, k_20, k_24, k_26, k_27, k_30, k_32, k_33, k_35, k_40, k_43, k_48, k_50, k_57, k_60, k_64, k_81, k_86, k_34, k_66, k_322, k_97, k_99, k_100, k_122, k_128, k_160, k_161, k_255, k_256, k_512, k_580, k_600, k_1000, k_4096, k_far, k_o, nI_add, n_mul, n_sub, n_div, n_rem, n_lt, n_le, n_eq, n_cl, n_and, n_or, n_xor, m1_lt, lt_m1, m1_eq, eq_m1, le_m1, m1_le, m2_eq, up_eq, up_ne, n_shl, n_shr, b2_some, let_e, ob_some, bI_0, bI_a, bI_t, bI_f, if_true, if_false, ite_true, ite_false, true_and, and_true, false_and, and_false, true_or, or_true, false_or, or_false, not_true_eq_false, not_false_eq_true, ite_not, ne_eq, Bool.true_eq_false, Bool.false_eq_true, reduceCtorEq, decide_true, decide_false, Bool.and_true, Bool.and_false, Bool.true_and, Bool.false_and, Bool.or_true, Bool.or_false, Bool.not_true, Bool.not_false, Nat.add_zero, Nat.zero_add, eq_self, Nat.not_lt_zero, Nat.reduceAdd, Nat.reduceMul, Nat.reduceSub, Nat.reduceDiv, Nat.reduceMod, Nat.reduceAnd, Nat.reduceXor, Nat.reduceEqDiff, Nat.reducePow, lt_T, lt_F, le_T, le_F, eq_F, e3, a1, b1]
    · have e2 := c_word0 (k := 2) C (by omega) (Or.inr w2)
      obtain ⟨ha, a1, a2, a3⟩ := c_ref C
      obtain ⟨h', b1, b2, b3, b4⟩ := fin 0 _ ha (by omega) a2 (D.fp a3)
      have fr1 : (fRef B n G).2.1 = 1 := by unfold fRef; rw [if_neg h1]
      rw [fNum_1 B n 0 7 fr1] at b2
      refine ⟨_, _, h', ?_, Or.inr (Or.inr ⟨w3, w2, rfl, rfl⟩), b2, b3, (a3.mono (fun _ _ z => z.c)).trans b4⟩
      unfold qX3_readCare
      simp (disch := omega) only [↓reduceIte, ↓q_m1, ↓q_m2, k_o, k_0, k_1, k_2, k_3, k_4, k_5, k_6, k_7, k_8, k_9, k_10, k_11, k_16, k_17, k_19, k_20, k_24, k_26, k_27, k_30, k_32, k_33, k_35, k_40, k_43, k_48, k_50, k_57, k_60, k_64, k_81, k_86, k_34, k_66, k_322, k_97, k_99, k_100, k_122, k_128, k_160, k_161, k_255, k_256, k_512, k_580, k_600, k_1000, k_4096, k_far, k_o, nI_add, n_mul, n_sub, n_div, n_rem, n_lt, n_le, n_eq, n_cl, n_and, n_or, n_xor, m1_lt, lt_m1, m1_eq, eq_m1, le_m1, m1_le, m2_eq, up_eq, up_ne, n_shl, n_shr, b2_some, let_e, ob_some, bI_0, bI_a, bI_t, bI_f, if_true, if_false, ite_true, ite_false, true_and, and_true, false_and, and_false, true_or, or_true, false_or, or_false, not_true_eq_false, not_false_eq_true, ite_not, ne_eq, Bool.true_eq_false, Bool.false_eq_true, reduceCtorEq, decide_true, decide_false, Bool.and_true, Bool.and_false, Bool.true_and, Bool.false_and, Bool.or_true, Bool.or_false, Bool.not_true, Bool.not_false, Nat.add_zero, Nat.zero_add, eq_self, Nat.not_lt_zero, Nat.reduceAdd, Nat.reduceMul, Nat.reduceSub, Nat.reduceDiv, Nat.reduceMod, Nat.reduceAnd, Nat.reduceXor, Nat.reduceEqDiff, Nat.reducePow, lt_T, lt_F, le_T, le_F, eq_F, e3, e2, a1, b1]
theorem c_yfin {B : Nat → Nat} {n : Nat} {F : fl} {h h0 : qm_H} {d : dY} {a b c e : Int32} (C : fC B n F h) (D : DcY d h) (ok : deedOK a b c e) (fr : qFr cP h0 h) : ∃ h', qX10_add 36 a b c e h = some h' ∧ fC B n F h' ∧ DcY (dAdd d a b c e) h' ∧ qFr cP h0 h' := by
  obtain ⟨hb, b1, b2, b3⟩ := c_yadd (a := a) (b := b) (c := c) (e := e) D ok
  exact ⟨hb, b1, C.fr b3 (fun a k z => by omega), b2, fr.trans (b3.mono (fun a k z => by unfold cP; omega))⟩
theorem c_lineY2 {B : Nat → Nat} {n : Nat} {G : fl} {h : qm_H} {d : dY} (C : fC B n G h) (h1 : G.2.1 ≠ 1) (D : DcY d h) : ∃ F' d' h', qX3_readYearLine_24 31 h = some h' ∧ LnY2 B n G d F' d' ∧ fC B n F' h' ∧ DcY d' h' ∧ qFr cP h h' := by
  by_cases w5 : tW B n G.1 = 1684366692
  · obtain ⟨ha, a1, a2, a3⟩ := c_word1 (k := 5) C (by omega) h1 w5
    obtain ⟨hb, b1, b2, b3⟩ := c_num (lo := 1) (hi := 8) a2 (by omega) (by omega)
    obtain ⟨hc, d1, d2, d3⟩ := c_num (lo := 1) (hi := 8) b2 (by omega) (by omega)
    obtain ⟨hd, e1, e2, e3⟩ := c_num (lo := 0) (hi := 99) d2 (by omega) (by omega)
    have r1 := fNum_r B n (lo := 1) (hi := 8) (fAdv B n G) (by omega)
    have r2 := fNum_r B n (lo := 1) (hi := 8) (fNum B n 1 8 (fAdv B n G)).2 (by omega)
    have r3 := fNum_r B n (lo := 0) (hi := 99) (fNum B n 1 8 (fNum B n 1 8 (fAdv B n G)).2).2 (by omega)
    obtain ⟨h', i1, i2, i3, i4⟩ := c_yfin e2 ((((D.fp a3).fp b3).fp d3).fp e3) (Or.inl ⟨_, _, _, rfl, rfl, rfl, rfl, r1.1, r1.2, r2.1, r2.2, r3.2⟩) ((((a3.trans b3).trans d3).trans e3).mono (fun _ _ z => z.c))
    refine ⟨_, _, h', ?_, Or.inl ⟨w5, rfl, rfl⟩, i2, i3, i4⟩
    unfold qX3_readYearLine_24
    simp (disch := omega) only [↓reduceIte, ↓q_m1, ↓q_m2, k_o, k_0, k_1, k_2, k_3, k_4, k_5, k_6, k_7, k_8, k_9, k_10, k_11, k_16, k_17, k_19, k_20, k_24, k_26, k_27, k_30, k_32, k_33, k_35, k_40, k_43, k_48, k_50, k_57, k_60, k_64, k_81, k_86, k_34, k_66, k_322, k_97, k_99, k_100, k_122, k_128, k_160, k_161, k_255, k_256, k_512, k_580, k_600, k_1000, k_4096, k_far, k_o, nI_add, n_mul, n_sub, n_div, n_rem, n_lt, n_le, n_eq, n_cl, n_and, n_or, n_xor, m1_lt, lt_m1, m1_eq, eq_m1, le_m1, m1_le, m2_eq, up_eq, up_ne, n_shl, n_shr, b2_some, let_e, ob_some, bI_0, bI_a, bI_t, bI_f, if_true, if_false, ite_true, ite_false, true_and, and_true, false_and, and_false, true_or, or_true, false_or, or_false, not_true_eq_false, not_false_eq_true, ite_not, ne_eq, Bool.true_eq_false, Bool.false_eq_true, reduceCtorEq, decide_true, decide_false, Bool.and_true, Bool.and_false, Bool.true_and, Bool.false_and, Bool.or_true, Bool.or_false, Bool.not_true, Bool.not_false, Nat.add_zero, Nat.zero_add, eq_self, Nat.not_lt_zero, Nat.reduceAdd, Nat.reduceMul, Nat.reduceSub, Nat.reduceDiv, Nat.reduceMod, Nat.reduceAnd, Nat.reduceXor, Nat.reduceEqDiff, Nat.reducePow, lt_T, lt_F, le_T, le_F, eq_F, a1, b1, d1, e1, i1]
  · have x5 := c_word0 (k := 5) C (by omega) (Or.inr w5)
    by_cases w6 : tW B n G.1 = 1835363940
    · obtain ⟨ha, a1, a2, a3⟩ := c_word1 (k := 6) C (by omega) h1 w6
      obtain ⟨F', d', h', b1, b2, b3, b4, b5⟩ := c_care (t := 1) a2 h1 (D.fp a3) (Or.inl rfl)
      refine ⟨F', d', h', ?_, Or.inr (Or.inl ⟨w6, b2⟩), b3, b4, (a3.mono (fun _ _ z => z.c)).trans b5⟩
      unfold qX3_readYearLine_24
      simp (disch := omega) only [↓reduceIte, ↓q_m1, ↓q_m2, k_o, k_0, k_1, k_2, k_3, k_4, k_5, k_6, k_7, k_8, k_9, k_10, k_11, k_16, k_17, k_19, k_20, k_24, k_26, k_27, k_30, k_32, k_33, k_35, k_40, k_43, k_48, k_50, k_57, k_60, k_64, k_81, k_86, k_34, k_66, k_322, k_97, k_99, k_100, k_122, k_128, k_160, k_161, k_255, k_256, k_512, k_580, k_600, k_1000, k_4096, k_far, k_o, nI_add, n_mul, n_sub, n_div, n_rem, n_lt, n_le, n_eq, n_cl, n_and, n_or, n_xor, m1_lt, lt_m1, m1_eq, eq_m1, le_m1, m1_le, m2_eq, up_eq, up_ne, n_shl, n_shr, b2_some, let_e, ob_some, bI_0, bI_a, bI_t, bI_f, if_true, if_false, ite_true, ite_false, true_and, and_true, false_and, and_false, true_or, or_true, false_or, or_false, not_true_eq_false, not_false_eq_true, ite_not, ne_eq, Bool.true_eq_false, Bool.false_eq_true, reduceCtorEq, decide_true, decide_false, Bool.and_true, Bool.and_false, Bool.true_and, Bool.false_and, Bool.or_true, Bool.or_false, Bool.not_true, Bool.not_false, Nat.add_zero, Nat.zero_add, eq_self, Nat.not_lt_zero, Nat.reduceAdd, Nat.reduceMul, Nat.reduceSub, Nat.reduceDiv, Nat.reduceMod, Nat.reduceAnd, Nat.reduceXor, Nat.reduceEqDiff, Nat.reducePow, lt_T, lt_F, le_T, le_F, eq_F, x5, a1, b1]
    · have x6 := c_word0 (k := 6) C (by omega) (Or.inr w6)
      by_cases w7 : tW B n G.1 = 1735552887
      · obtain ⟨ha, a1, a2, a3⟩ := c_word1 (k := 7) C (by omega) h1 w7
        obtain ⟨F', d', h', b1, b2, b3, b4, b5⟩ := c_care (t := 2) a2 h1 (D.fp a3) (Or.inr rfl)
        refine ⟨F', d', h', ?_, Or.inr (Or.inr (Or.inl ⟨w7, b2⟩)), b3, b4, (a3.mono (fun _ _ z => z.c)).trans b5⟩
        unfold qX3_readYearLine_24
        simp (disch := omega) only [↓reduceIte, ↓q_m1, ↓q_m2, k_o, k_0, k_1, k_2, k_3, k_4, k_5, k_6, k_7, k_8, k_9, k_10, k_11, k_16, k_17, k_19, k_20, k_24, k_26, k_27, k_30, k_32, k_33, k_35, k_40, k_43, k_48, k_50, k_57, k_60, k_64, k_81, k_86, k_34, k_66, k_322, k_97, k_99, k_100, k_122, k_128, k_160, k_161, k_255, k_256, k_512, k_580, k_600, k_1000, k_4096, k_far, k_o, nI_add, n_mul, n_sub, n_div, n_rem, n_lt, n_le, n_eq, n_cl, n_and, n_or, n_xor, m1_lt, lt_m1, m1_eq, eq_m1, le_m1, m1_le, m2_eq, up_eq, up_ne, n_shl, n_shr, b2_some, let_e, ob_some, bI_0, bI_a, bI_t, bI_f, if_true, if_false, ite_true, ite_false, true_and, and_true, false_and, and_false, true_or, or_true, false_or, or_false, not_true_eq_false, not_false_eq_true, ite_not, ne_eq, Bool.true_eq_false, Bool.false_eq_true, reduceCtorEq, decide_true, decide_false, Bool.and_true, Bool.and_false, Bool.true_and, Bool.false_and, Bool.or_true, Bool.or_false, Bool.not_true, Bool.not_false, Nat.add_zero, Nat.zero_add, eq_self, Nat.not_lt_zero, Nat.reduceAdd, Nat.reduceMul, Nat.reduceSub, Nat.reduceDiv, Nat.reduceMod, Nat.reduceAnd, Nat.reduceXor, Nat.reduceEqDiff, Nat.reducePow, lt_T, lt_F, le_T, le_F, eq_F, x5, x6, a1, b1]
      · have x7 := c_word0 (k := 7) C (by omega) (Or.inr w7)
        by_cases w8 : tW B n G.1 = 512801994341
        · obtain ⟨ha, a1, a2, a3⟩ := c_word1 (k := 8) C (by omega) h1 w8
          obtain ⟨hb, b1, b2, b3⟩ := c_num (lo := 0) (hi := 7) a2 (by omega) (by omega)
          obtain ⟨hc, d1, d2, d3⟩ := c_num (lo := 0) (hi := 7) b2 (by omega) (by omega)
          have r1 := fNum_r B n (lo := 0) (hi := 7) (fAdv B n G) (by omega)
          have r2 := fNum_r B n (lo := 0) (hi := 7) (fNum B n 0 7 (fAdv B n G)).2 (by omega)
          obtain ⟨h', i1, i2, i3, i4⟩ := c_yfin d2 (((D.fp a3).fp b3).fp d3) (Or.inr (Or.inr (Or.inl ⟨_, _, rfl, rfl, rfl, r1.2, r2.2, rfl⟩))) (((a3.trans b3).trans d3).mono (fun _ _ z => z.c))
          refine ⟨_, _, h', ?_, Or.inr (Or.inr (Or.inr (Or.inl ⟨w8, rfl, rfl⟩))), i2, i3, i4⟩
          unfold qX3_readYearLine_24
          simp (disch := omega) only [↓reduceIte, ↓q_m1, ↓q_m2, k_o, k_0, k_1, k_2, k_3, k_4, k_5, k_6, k_7, k_8, k_9, k_10, k_11, k_16, k_17, k_19, k_20, k_24, k_26, k_27, k_30, k_32, k_33, k_35, k_40, k_43, k_48, k_50, k_57, k_60, k_64, k_81, k_86, k_34, k_66, k_322, k_97, k_99, k_100, k_122, k_128, k_160, k_161, k_255, k_256, k_512, k_580, k_600, k_1000, k_4096, k_far, k_o, nI_add, n_mul, n_sub, n_div, n_rem, n_lt, n_le, n_eq, n_cl, n_and, n_or, n_xor, m1_lt, lt_m1, m1_eq, eq_m1, le_m1, m1_le, m2_eq, up_eq, up_ne, n_shl, n_shr, b2_some, let_e, ob_some, bI_0, bI_a, bI_t, bI_f, if_true, if_false, ite_true, ite_false, true_and, and_true, false_and, and_false, true_or, or_true, false_or, or_false, not_true_eq_false, not_false_eq_true, ite_not, ne_eq, Bool.true_eq_false, Bool.false_eq_true, reduceCtorEq, decide_true, decide_false, Bool.and_true, Bool.and_false, Bool.true_and, Bool.false_and, Bool.or_true, Bool.or_false, Bool.not_true, Bool.not_false, Nat.add_zero, Nat.zero_add, eq_self, Nat.not_lt_zero, Nat.reduceAdd, Nat.reduceMul, Nat.reduceSub, Nat.reduceDiv, Nat.reduceMod, Nat.reduceAnd, Nat.reduceXor, Nat.reduceEqDiff, Nat.reducePow, lt_T, lt_F, le_T, le_F, eq_F, x5, x6, x7, a1, b1, d1, i1]
        · have x8 := c_word0 (k := 8) C (by omega) (Or.inr w8)
          by_cases w9 : tW B n G.1 = 131294708393330
          · obtain ⟨ha, a1, a2, a3⟩ := c_word1 (k := 9) C (by omega) h1 w9
            obtain ⟨h', i1, i2, i3, i4⟩ := c_yfin a2 (D.fp a3) (Or.inr (Or.inr (Or.inr ⟨4, by omega, by omega, rfl, rfl, rfl, rfl⟩))) (a3.mono (fun _ _ z => z.c))
            refine ⟨_, _, h', ?_, Or.inr (Or.inr (Or.inr (Or.inr (Or.inl ⟨w9, rfl, rfl⟩)))), i2, i3, i4⟩
            unfold qX3_readYearLine_24
            simp (disch := omega) only [↓reduceIte, ↓q_m1, ↓q_m2, k_o, k_0, k_1, k_2, k_3, k_4, k_5, k_6, k_7, k_8, k_9, k_10, k_11, k_16, k_17, k_19, k_20, k_24, k_26, k_27, k_30, k_32, k_33, k_35, k_40, k_43, k_48, k_50, k_57, k_60, k_64, k_81, k_86, k_34, k_66, k_322, k_97, k_99, k_100, k_122, k_128, k_160, k_161, k_255, k_256, k_512, k_580, k_600, k_1000, k_4096, k_far, k_o, nI_add, n_mul, n_sub, n_div, n_rem, n_lt, n_le, n_eq, n_cl, n_and, n_or, n_xor, m1_lt, lt_m1, m1_eq, eq_m1, le_m1, m1_le, m2_eq, up_eq, up_ne, n_shl, n_shr, b2_some, let_e, ob_some, bI_0, bI_a, bI_t, bI_f, if_true, if_false, ite_true, ite_false, true_and, and_true, false_and, and_false, true_or, or_true, false_or, or_false, not_true_eq_false, not_false_eq_true, ite_not, ne_eq, Bool.true_eq_false, Bool.false_eq_true, reduceCtorEq, decide_true, decide_false, Bool.and_true, Bool.and_false, Bool.true_and, Bool.false_and, Bool.or_true, Bool.or_false, Bool.not_true, Bool.not_false, Nat.add_zero, Nat.zero_add, eq_self, Nat.not_lt_zero, Nat.reduceAdd, Nat.reduceMul, Nat.reduceSub, Nat.reduceDiv, Nat.reduceMod, Nat.reduceAnd, Nat.reduceXor, Nat.reduceEqDiff, Nat.reducePow, lt_T, lt_F, le_T, le_F, eq_F, x5, x6, x7, x8, a1, i1]
          · have x9 := c_word0 (k := 9) C (by omega) (Or.inr w9)
            by_cases w4 : tW B n G.1 = 7824756
            · obtain ⟨ha, a1, a2, a3⟩ := c_word1 (k := 4) C (by omega) h1 w4
              obtain ⟨h', i1, i2, i3, i4⟩ := c_yfin a2 (D.fp a3) (Or.inr (Or.inr (Or.inr ⟨5, by omega, by omega, rfl, rfl, rfl, rfl⟩))) (a3.mono (fun _ _ z => z.c))
              refine ⟨_, _, h', ?_, Or.inr (Or.inr (Or.inr (Or.inr (Or.inr (Or.inl ⟨w4, rfl, rfl⟩))))), i2, i3, i4⟩
              unfold qX3_readYearLine_24
              simp (disch := omega) only [↓reduceIte, ↓q_m1, ↓q_m2, k_o, k_0, k_1, k_2, k_3, k_4, k_5, k_6, k_7, k_8, k_9, k_10, k_11, k_16, k_17, k_19, k_20, k_24, k_26, k_27, k_30, k_32, k_33, k_35, k_40, k_43, k_48, k_50, k_57, k_60, k_64, k_81, k_86, k_34, k_66, k_322, k_97, k_99, k_100, k_122, k_128, k_160, k_161, k_255, k_256, k_512, k_580, k_600, k_1000, k_4096, k_far, k_o, nI_add, n_mul, n_sub, n_div, n_rem, n_lt, n_le, n_eq, n_cl, n_and, n_or, n_xor, m1_lt, lt_m1, m1_eq, eq_m1, le_m1, m1_le, m2_eq, up_eq, up_ne, n_shl, n_shr, b2_some, let_e, ob_some, bI_0, bI_a, bI_t, bI_f, if_true, if_false, ite_true, ite_false, true_and, and_true, false_and, and_false, true_or, or_true, false_or, or_false, not_true_eq_false, not_false_eq_true, ite_not, ne_eq, Bool.true_eq_false, Bool.false_eq_true, reduceCtorEq, decide_true, decide_false, Bool.and_true, Bool.and_false, Bool.true_and, Bool.false_and, Bool.or_true, Bool.or_false, Bool.not_true, Bool.not_false, Nat.add_zero, Nat.zero_add, eq_self, Nat.not_lt_zero, Nat.reduceAdd, Nat.reduceMul, Nat.reduceSub, Nat.reduceDiv, Nat.reduceMod, Nat.reduceAnd, Nat.reduceXor, Nat.reduceEqDiff, Nat.reducePow, lt_T, lt_F, le_T, le_F, eq_F, x5, x6, x7, x8, x9, a1, i1]
            · have x4 := c_word0 (k := 4) C (by omega) (Or.inr w4)
              by_cases w10 : tW B n G.1 = 6582905
              · obtain ⟨ha, a1, a2, a3⟩ := c_word1 (k := 10) C (by omega) h1 w10
                obtain ⟨h', i1, i2, i3, i4⟩ := c_yfin a2 (D.fp a3) (Or.inr (Or.inr (Or.inr ⟨6, by omega, by omega, rfl, rfl, rfl, rfl⟩))) (a3.mono (fun _ _ z => z.c))
                refine ⟨_, _, h', ?_, Or.inr (Or.inr (Or.inr (Or.inr (Or.inr (Or.inr (Or.inl ⟨w10, rfl, rfl⟩)))))), i2, i3, i4⟩
                unfold qX3_readYearLine_24
                simp (disch := omega) only [↓reduceIte, ↓q_m1, ↓q_m2, k_o, k_0, k_1, k_2, k_3, k_4, k_5, k_6, k_7, k_8, k_9, k_10, k_11, k_16, k_17, k_19, k_20, k_24, k_26, k_27, k_30, k_32, k_33, k_35, k_40, k_43, k_48, k_50, k_57, k_60, k_64, k_81, k_86, k_34, k_66, k_322, k_97, k_99, k_100, k_122, k_128, k_160, k_161, k_255, k_256, k_512, k_580, k_600, k_1000, k_4096, k_far, k_o, nI_add, n_mul, n_sub, n_div, n_rem, n_lt, n_le, n_eq, n_cl, n_and, n_or, n_xor, m1_lt, lt_m1, m1_eq, eq_m1, le_m1, m1_le, m2_eq, up_eq, up_ne, n_shl, n_shr, b2_some, let_e, ob_some, bI_0, bI_a, bI_t, bI_f, if_true, if_false, ite_true, ite_false, true_and, and_true, false_and, and_false, true_or, or_true, false_or, or_false, not_true_eq_false, not_false_eq_true, ite_not, ne_eq, Bool.true_eq_false, Bool.false_eq_true, reduceCtorEq, decide_true, decide_false, Bool.and_true, Bool.and_false, Bool.true_and, Bool.false_and, Bool.or_true, Bool.or_false, Bool.not_true, Bool.not_false, Nat.add_zero, Nat.zero_add, eq_self, Nat.not_lt_zero, Nat.reduceAdd, Nat.reduceMul, Nat.reduceSub, Nat.reduceDiv, Nat.reduceMod, Nat.reduceAnd, Nat.reduceXor, Nat.reduceEqDiff, Nat.reducePow, lt_T, lt_F, le_T, le_F, eq_F, x5, x6, x7, x8, x9, x4, a1, i1]
              · have x10 := c_word0 (k := 10) C (by omega) (Or.inr w10)
                obtain ⟨ha, a1, a2, a3⟩ := c_ref C
                refine ⟨_, _, ha, ?_, Or.inr (Or.inr (Or.inr (Or.inr (Or.inr (Or.inr (Or.inr ⟨w5, w6, w7, w8, w9, w4, w10, rfl, rfl⟩)))))), a2, D.fp a3, a3.mono (fun _ _ z => z.c)⟩
                unfold qX3_readYearLine_24
                simp (disch := omega) only [↓reduceIte, ↓q_m1, ↓q_m2, k_o, k_0, k_1, k_2, k_3, k_4, k_5, k_6, k_7, k_8, k_9, k_10, k_11, k_16, k_17, k_19, k_20, k_24, k_26, k_27, k_30, k_32, k_33, k_35, k_40, k_43, k_48, k_50, k_57, k_60, k_64, k_81, k_86, k_34, k_66, k_322, k_97, k_99, k_100, k_122, k_128, k_160, k_161, k_255, k_256, k_512, k_580, k_600, k_1000, k_4096, k_far, k_o, nI_add, n_mul, n_sub, n_div, n_rem, n_lt, n_le, n_eq, n_cl, n_and, n_or, n_xor, m1_lt, lt_m1, m1_eq, eq_m1, le_m1, m1_le, m2_eq, up_eq, up_ne, n_shl, n_shr, b2_some, let_e, ob_some, bI_0, bI_a, bI_t, bI_f, if_true, if_false, ite_true, ite_false, true_and, and_true, false_and, and_false, true_or, or_true, false_or, or_false, not_true_eq_false, not_false_eq_true, ite_not, ne_eq, Bool.true_eq_false, Bool.false_eq_true, reduceCtorEq, decide_true, decide_false, Bool.and_true, Bool.and_false, Bool.true_and, Bool.false_and, Bool.or_true, Bool.or_false, Bool.not_true, Bool.not_false, Nat.add_zero, Nat.zero_add, eq_self, Nat.not_lt_zero, Nat.reduceAdd, Nat.reduceMul, Nat.reduceSub, Nat.reduceDiv, Nat.reduceMod, Nat.reduceAnd, Nat.reduceXor, Nat.reduceEqDiff, Nat.reducePow, lt_T, lt_F, le_T, le_F, eq_F, x5, x6, x7, x8, x9, x4, x10, a1]
theorem c_lineY {B : Nat → Nat} {n : Nat} {F : fl} {h : qm_H} {d : dY} (C : fC B n F h) (h1 : F.2.1 ≠ 1) (D : DcY d h) : ∃ F' d' h', qX3_readYearLine 31 h = some h' ∧ LnY B n F d F' d' ∧ fC B n F' h' ∧ DcY d' h' ∧ qFr cP h h' := by
  have g := fFull_1 (B := B) (n := n) (m := d.1) (most := 40) h1
  have hn := C.1.1
  have s1 := t_S B C.2.1
  have e := D.2.1
  have e3 := C.2.2.1.2.1
  have hd := D.1
  obtain ⟨h0, a1, a2, a3⟩ : ∃ h0, qX3_readYearLine 31 h = qX3_readYearLine_24 31 h0 ∧ fC B n (fFull B n d.1 40 F) h0 ∧ qFr fP h h0 := by
    unfold fFull
    by_cases q : d.1 < 40
    · rw [if_pos q]
      refine ⟨h, ?_, C, qFr.refl _ _⟩
      unfold qX3_readYearLine
      simp (disch := omega) only [↓reduceIte, ↓q_m1, ↓q_m2, k_o, k_0, k_1, k_2, k_3, k_4, k_5, k_6, k_7, k_8, k_9, k_10, k_11, k_16, k_17, k_19, k_20, k_24, k_26, k_27, k_30, k_32, k_33, k_35, k_40, k_43, k_48, k_50, k_57, k_60, k_64, k_81, k_86, k_34, k_66, k_322, k_97, k_99, k_100, k_122, k_128, k_160, k_161, k_255, k_256, k_512, k_580, k_600, k_1000, k_4096, k_far, k_o, nI_add, n_mul, n_sub, n_div, n_rem, n_lt, n_le, n_eq, n_cl, n_and, n_or, n_xor, m1_lt, lt_m1, m1_eq, eq_m1, le_m1, m1_le, m2_eq, up_eq, up_ne, n_shl, n_shr, b2_some, let_e, ob_some, bI_0, bI_a, bI_t, bI_f, if_true, if_false, ite_true, ite_false, true_and, and_true, false_and, and_false, true_or, or_true, false_or, or_false, not_true_eq_false, not_false_eq_true, ite_not, ne_eq, Bool.true_eq_false, Bool.false_eq_true, reduceCtorEq, decide_true, decide_false, Bool.and_true, Bool.and_false, Bool.true_and, Bool.false_and, Bool.or_true, Bool.or_false, Bool.not_true, Bool.not_false, Nat.add_zero, Nat.zero_add, eq_self, Nat.not_lt_zero, Nat.reduceAdd, Nat.reduceMul, Nat.reduceSub, Nat.reduceDiv, Nat.reduceMod, Nat.reduceAnd, Nat.reduceXor, Nat.reduceEqDiff, Nat.reducePow, lt_T, lt_F, le_T, le_F, eq_F, e]
    · rw [if_neg q]
      obtain ⟨h0, b1, b2, b3⟩ := c_note (c := 3) (q := tS B n F.1) C (by omega) (by omega) (by omega)
      refine ⟨h0, ?_, b2, b3⟩
      unfold qX3_readYearLine
      simp (disch := omega) only [↓reduceIte, ↓q_m1, ↓q_m2, k_o, k_0, k_1, k_2, k_3, k_4, k_5, k_6, k_7, k_8, k_9, k_10, k_11, k_16, k_17, k_19, k_20, k_24, k_26, k_27, k_30, k_32, k_33, k_35, k_40, k_43, k_48, k_50, k_57, k_60, k_64, k_81, k_86, k_34, k_66, k_322, k_97, k_99, k_100, k_122, k_128, k_160, k_161, k_255, k_256, k_512, k_580, k_600, k_1000, k_4096, k_far, k_o, nI_add, n_mul, n_sub, n_div, n_rem, n_lt, n_le, n_eq, n_cl, n_and, n_or, n_xor, m1_lt, lt_m1, m1_eq, eq_m1, le_m1, m1_le, m2_eq, up_eq, up_ne, n_shl, n_shr, b2_some, let_e, ob_some, bI_0, bI_a, bI_t, bI_f, if_true, if_false, ite_true, ite_false, true_and, and_true, false_and, and_false, true_or, or_true, false_or, or_false, not_true_eq_false, not_false_eq_true, ite_not, ne_eq, Bool.true_eq_false, Bool.false_eq_true, reduceCtorEq, decide_true, decide_false, Bool.and_true, Bool.and_false, Bool.true_and, Bool.false_and, Bool.or_true, Bool.or_false, Bool.not_true, Bool.not_false, Nat.add_zero, Nat.zero_add, eq_self, Nat.not_lt_zero, Nat.reduceAdd, Nat.reduceMul, Nat.reduceSub, Nat.reduceDiv, Nat.reduceMod, Nat.reduceAnd, Nat.reduceXor, Nat.reduceEqDiff, Nat.reducePow, lt_T, lt_F, le_T, le_F, eq_F, e, e3, b1]
  obtain ⟨F', d', h', b1, b2, b3, b4, b5⟩ := c_lineY2 a2 g.2.1 (D.fp a3)
  exact ⟨F', d', h', a1.trans b1, b2, b3, b4, (a3.mono (fun _ _ z => z.c)).trans b5⟩
