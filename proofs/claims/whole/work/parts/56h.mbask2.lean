/-! text: a line of a BASKET, the reference's, word by word. -/
theorem ylN_eq {a b : Nat} (ha : a < 2 ^ 64) (hb : b < 2 ^ 64) : (lN a = lN b) = (a = b) := propext ⟨fun e => by have := congrArg (fun x : Int64 => x.toBitVec.toNat) e; simp only [wb_tn ha, wb_tn hb] at this; exact this, fun e => by rw [e]⟩
theorem wk0 : (1936292453 : Int64) = lN 1936292453 := rfl
theorem wk1 : (1869636974 : Int64) = lN 1869636974 := rfl
theorem wk2 : (7499620 : Int64) = lN 7499620 := rfl
theorem wk3 : (495873780581 : Int64) = lN 495873780581 := rfl
theorem wk4 : (7824756 : Int64) = lN 7824756 := rfl
theorem wk5 : (1684366692 : Int64) = lN 1684366692 := rfl
theorem wk6 : (1835363940 : Int64) = lN 1835363940 := rfl
theorem wk7 : (1735552887 : Int64) = lN 1735552887 := rfl
theorem wk8 : (512801994341 : Int64) = lN 512801994341 := rfl
theorem wk9 : (131294708393330 : Int64) = lN 131294708393330 := rfl
theorem wk10 : (6582905 : Int64) = lN 6582905 := rfl
theorem wk11 : (1852138852 : Int64) = lN 1852138852 := rfl
theorem wk12 : (6518132 : Int64) = lN 6518132 := rfl
theorem wk13 : (1936225652 : Int64) = lN 1936225652 := rfl
theorem wk14 : (495740088435 : Int64) = lN 495740088435 := rfl
theorem wk15 : (1751477348 : Int64) = lN 1751477348 := rfl
theorem tW_K {B : Nat → Nat} {n p : Nat} (h : tW B n p ≠ 0) : tK B n p = 1 := by
  have tk := t_K B n p
  unfold tW at h
  split at h
  · exact tk.2.2.2.mpr (by omega)
  · exact absurd rfl h
theorem m_rod0 {B : Nat → Nat} {n : Nat} {F : fl} {h : qm_H} (M : fM B n F h) (gd : h.1 62 23 = nI 1) : ((fNum B n 0 9 (fNum B n 0 9 (fNum B n 0 7 F).2).2).2.2.1 = 1 ∧ ∃ h', qX12_rodLine 62 (nI 0) h = some (nI 0, h') ∧ h'.1 62 16 = nI (fNum B n 0 9 (fNum B n 0 9 (fNum B n 0 7 F).2).2).2.2.2 ∧ qFr rP h h') ∨ ((fNum B n 0 9 (fNum B n 0 9 (fNum B n 0 7 F).2).2).2.2.1 ≠ 1 ∧ ∃ h', qX12_rodLine 62 (nI 0) h = some (nI 1, h') ∧ fM B n (fNum B n 0 9 (fNum B n 0 9 (fNum B n 0 7 F).2).2).2 h' ∧ ((fNum B n 0 9 (fNum B n 0 9 (fNum B n 0 7 F).2).2).2.2.1 = 0 → ∀ d : dB, dMb d.1 h → farR d.2.1 (h.1 62 21) → farR d.2.2 (h.1 62 22) → dMb (bw d.1, bh d.1, bx d.1, yup (bT d.1) (8 * 0 + (fNum B n 0 7 F).1) (fNum B n 0 9 (fNum B n 0 7 F).2).1, yup (bR d.1) (8 * 0 + (fNum B n 0 7 F).1) (fNum B n 0 9 (fNum B n 0 9 (fNum B n 0 7 F).2).2).1, bO d.1) h' ∧ farR d.2.1 (h'.1 62 21) ∧ farR (max d.2.2 (fNum B n 0 7 F).1) (h'.1 62 22)) ∧ qFr rP h h') := by
  have r1 := fNum_r B n (lo := 0) (hi := 7) F (by omega)
  rcases m_take3 (k := 0) (l1 := 0) (u1 := 7) (l2 := 0) (u2 := 9) (l3 := 0) (u3 := 9) M (by omega) (by omega) (by omega) (by omega) (by omega) (by omega) (by omega) with ⟨z, h', b1, b2, b3⟩ | ⟨z, v1, v2, v3, h1, h2, h3, b1, b2, b3, b4, b5, b6, b7, c1, c2, c3, c4, c5⟩
  · refine Or.inl ⟨z, h', ?_, b1, b2.mono (fun a i y => y.r)⟩
    unfold qX12_rodLine
    rcases b3 with b3 | ⟨h1, b3, b4⟩ | ⟨h1, h2, b3, b4, b5⟩
    · simp (disch := omega) only [↓reduceIte, ↓q_m1, ↓q_m2, k_o, k_0, k_1, k_2, k_3, k_4, k_5, k_6, k_7, k_8, k_9, k_10, k_11, k_16, k_17, k_19, k_20, k_24, k_26, k_27, k_30, k_32, k_33, k_35, k_40, k_43, k_48, k_50, k_57, k_60, k_64, k_81, k_86, k_34, k_66, k_322, k_97, k_99, k_100, k_122, k_128, k_160, k_161, k_255, k_256, k_512, k_580, k_600, k_1000, k_4096, k_far, k_o, nI_add, n_mul, n_sub, n_div, n_rem, n_lt, n_le, n_eq, n_cl, n_and, n_or, n_xor, m1_lt, lt_m1, m1_eq, eq_m1, le_m1, m1_le, m2_eq, up_eq, up_ne, n_shl, n_shr, b2_some, let_e, ob_some, bI_0, bI_a, bI_t, bI_f, if_true, if_false, ite_true, ite_false, true_and, and_true, false_and, and_false, true_or, or_true, false_or, or_false, not_true_eq_false, not_false_eq_true, ite_not, ne_eq, Bool.true_eq_false, Bool.false_eq_true, reduceCtorEq, decide_true, decide_false, Bool.and_true, Bool.and_false, Bool.true_and, Bool.false_and, Bool.or_true, Bool.or_false, Bool.not_true, Bool.not_false, Nat.add_zero, Nat.zero_add, eq_self, Nat.not_lt_zero, Nat.reduceAdd, Nat.reduceMul, Nat.reduceSub, Nat.reduceDiv, Nat.reduceMod, Nat.reduceAnd, Nat.reduceXor, Nat.reduceEqDiff, Nat.reducePow, lt_T, lt_F, le_T, le_F, eq_F, b3]
    · simp only [Nat.zero_add] at b4
      simp (disch := omega) only [↓reduceIte, ↓q_m1, ↓q_m2, k_o, k_0, k_1, k_2, k_3, k_4, k_5, k_6, k_7, k_8, k_9, k_10, k_11, k_16, k_17, k_19, k_20, k_24, k_26, k_27, k_30, k_32, k_33, k_35, k_40, k_43, k_48, k_50, k_57, k_60, k_64, k_81, k_86, k_34, k_66, k_322, k_97, k_99, k_100, k_122, k_128, k_160, k_161, k_255, k_256, k_512, k_580, k_600, k_1000, k_4096, k_far, k_o, nI_add, n_mul, n_sub, n_div, n_rem, n_lt, n_le, n_eq, n_cl, n_and, n_or, n_xor, m1_lt, lt_m1, m1_eq, eq_m1, le_m1, m1_le, m2_eq, up_eq, up_ne, n_shl, n_shr, b2_some, let_e, ob_some, bI_0, bI_a, bI_t, bI_f, if_true, if_false, ite_true, ite_false, true_and, and_true, false_and, and_false, true_or, or_true, false_or, or_false, not_true_eq_false, not_false_eq_true, ite_not, ne_eq, Bool.true_eq_false, Bool.false_eq_true, reduceCtorEq, decide_true, decide_false, Bool.and_true, Bool.and_false, Bool.true_and, Bool.false_and, Bool.or_true, Bool.or_false, Bool.not_true, Bool.not_false, Nat.add_zero, Nat.zero_add, eq_self, Nat.not_lt_zero, Nat.reduceAdd, Nat.reduceMul, Nat.reduceSub, Nat.reduceDiv, Nat.reduceMod, Nat.reduceAnd, Nat.reduceXor, Nat.reduceEqDiff, Nat.reducePow, lt_T, lt_F, le_T, le_F, eq_F, b3, b4]
    · simp only [Nat.zero_add] at b4 b5
      simp (disch := omega) only [↓reduceIte, ↓q_m1, ↓q_m2, k_o, k_0, k_1, k_2, k_3, k_4, k_5, k_6, k_7, k_8, k_9, k_10, k_11, k_16, k_17, k_19, k_20, k_24, k_26, k_27, k_30, k_32, k_33, k_35, k_40, k_43, k_48, k_50, k_57, k_60, k_64, k_81, k_86, k_34, k_66, k_322, k_97, k_99, k_100, k_122, k_128, k_160, k_161, k_255, k_256, k_512, k_580, k_600, k_1000, k_4096, k_far, k_o, nI_add, n_mul, n_sub, n_div, n_rem, n_lt, n_le, n_eq, n_cl, n_and, n_or, n_xor, m1_lt, lt_m1, m1_eq, eq_m1, le_m1, m1_le, m2_eq, up_eq, up_ne, n_shl, n_shr, b2_some, let_e, ob_some, bI_0, bI_a, bI_t, bI_f, if_true, if_false, ite_true, ite_false, true_and, and_true, false_and, and_false, true_or, or_true, false_or, or_false, not_true_eq_false, not_false_eq_true, ite_not, ne_eq, Bool.true_eq_false, Bool.false_eq_true, reduceCtorEq, decide_true, decide_false, Bool.and_true, Bool.and_false, Bool.true_and, Bool.false_and, Bool.or_true, Bool.or_false, Bool.not_true, Bool.not_false, Nat.add_zero, Nat.zero_add, eq_self, Nat.not_lt_zero, Nat.reduceAdd, Nat.reduceMul, Nat.reduceSub, Nat.reduceDiv, Nat.reduceMod, Nat.reduceAnd, Nat.reduceXor, Nat.reduceEqDiff, Nat.reducePow, lt_T, lt_F, le_T, le_F, eq_F, b3, b4, b5]
  · simp only [Nat.zero_add] at b2 b3 c2 c3
    obtain ⟨x, g1⟩ := m_grx (h3.1 62 22) (nI v1) (qm_seti h3 62 21 (h3.1 62 21))
    have M1 : fM B n (fNum B n 0 9 (fNum B n 0 9 (fNum B n 0 7 F).2).2).2 (qm_seti (qm_seti h3 62 21 (h3.1 62 21)) 62 22 x) := b4.mv (fun k _ _ _ => by rw [sI_ne (by omega), sI_ne (by omega)]) rfl (fun j => by rw [sI_ne (by omega), sI_ne (by omega)])
    have f1 : qFr rP h (qm_seti (qm_seti h3 62 21 (h3.1 62 21)) 62 22 x) := ((c5.mono (fun a i y => y.r)).trans (qFr.seti (by unfold rP; omega))).trans (qFr.seti (by unfold rP; omega))
    by_cases g0 : h3.1 62 23 = nI 0
    · refine Or.inr ⟨z, _, ?_, M1, fun z0 => ?_, f1⟩
      · unfold qX12_rodLine qX12_rodLine_60
        simp (disch := omega) only [↓reduceIte, ↓q_m1, ↓q_m2, k_o, k_0, k_1, k_2, k_3, k_4, k_5, k_6, k_7, k_8, k_9, k_10, k_11, k_16, k_17, k_19, k_20, k_24, k_26, k_27, k_30, k_32, k_33, k_35, k_40, k_43, k_48, k_50, k_57, k_60, k_64, k_81, k_86, k_34, k_66, k_322, k_97, k_99, k_100, k_122, k_128, k_160, k_161, k_255, k_256, k_512, k_580, k_600, k_1000, k_4096, k_far, k_o, nI_add, n_mul, n_sub, n_div, n_rem, n_lt, n_le, n_eq, n_cl, n_and, n_or, n_xor, m1_lt, lt_m1, m1_eq, eq_m1, le_m1, m1_le, m2_eq, up_eq, up_ne, n_shl, n_shr, b2_some, let_e, ob_some, bI_0, bI_a, bI_t, bI_f, if_true, if_false, ite_true, ite_false, true_and, and_true, false_and, and_false, true_or, or_true, false_or, or_false, not_true_eq_false, not_false_eq_true, ite_not, ne_eq, Bool.true_eq_false, Bool.false_eq_true, reduceCtorEq, decide_true, decide_false, Bool.and_true, Bool.and_false, Bool.true_and, Bool.false_and, Bool.or_true, Bool.or_false, Bool.not_true, Bool.not_false, Nat.add_zero, Nat.zero_add, eq_self, Nat.not_lt_zero, Nat.reduceAdd, Nat.reduceMul, Nat.reduceSub, Nat.reduceDiv, Nat.reduceMod, Nat.reduceAnd, Nat.reduceXor, Nat.reduceEqDiff, Nat.reducePow, lt_T, lt_F, le_T, le_F, eq_F, b1, b2, b3, c1, c2, c3, g1, eq_true g0]
      · have := (c4 z0).2.2.2
        rw [g0, gd] at this
        exact absurd this (by decide)
    · refine Or.inr ⟨z, qm_seti (qm_seti (qm_seti (qm_seti h3 62 21 (h3.1 62 21)) 62 22 x) 72 (3 + v1) (nI v2)) 72 (11 + v1) (nI v3), ?_, M1.mv (fun k _ _ _ => by rw [sI_ne (by omega), sI_ne (by omega)]) rfl (fun j => by rw [sI_ne (by omega), sI_ne (by omega)]), fun z0 d D fx fy => ?_, (f1.trans (qFr.seti (by unfold rP; omega))).trans (qFr.seti (by unfold rP; omega))⟩
      · unfold qX12_rodLine qX12_rodLine_60 qX12_rodLine_113
        simp (disch := omega) only [↓reduceIte, ↓q_m1, ↓q_m2, k_o, k_0, k_1, k_2, k_3, k_4, k_5, k_6, k_7, k_8, k_9, k_10, k_11, k_16, k_17, k_19, k_20, k_24, k_26, k_27, k_30, k_32, k_33, k_35, k_40, k_43, k_48, k_50, k_57, k_60, k_64, k_81, k_86, k_34, k_66, k_322, k_97, k_99, k_100, k_122, k_128, k_160, k_161, k_255, k_256, k_512, k_580, k_600, k_1000, k_4096, k_far, k_o, nI_add, n_mul, n_sub, n_div, n_rem, n_lt, n_le, n_eq, n_cl, n_and, n_or, n_xor, m1_lt, lt_m1, m1_eq, eq_m1, le_m1, m1_le, m2_eq, up_eq, up_ne, n_shl, n_shr, b2_some, let_e, ob_some, bI_0, bI_a, bI_t, bI_f, if_true, if_false, ite_true, ite_false, true_and, and_true, false_and, and_false, true_or, or_true, false_or, or_false, not_true_eq_false, not_false_eq_true, ite_not, ne_eq, Bool.true_eq_false, Bool.false_eq_true, reduceCtorEq, decide_true, decide_false, Bool.and_true, Bool.and_false, Bool.true_and, Bool.false_and, Bool.or_true, Bool.or_false, Bool.not_true, Bool.not_false, Nat.add_zero, Nat.zero_add, eq_self, Nat.not_lt_zero, Nat.reduceAdd, Nat.reduceMul, Nat.reduceSub, Nat.reduceDiv, Nat.reduceMod, Nat.reduceAnd, Nat.reduceXor, Nat.reduceEqDiff, Nat.reducePow, lt_T, lt_F, le_T, le_F, eq_F, b1, b2, b3, c1, c2, c3, g1, eq_false g0]
      · obtain ⟨w1, w2, w3, _⟩ := c4 z0
        clear M1 M b4
        generalize fNum B n 0 9 (fNum B n 0 9 (fNum B n 0 7 F).2).2 = N3 at *
        generalize fNum B n 0 9 (fNum B n 0 7 F).2 = N2 at *
        generalize fNum B n 0 7 F = N1 at *
        subst w1 w2 w3
        have e22 : h3.1 62 22 = h.1 62 22 := (c5 _ _ (by unfold mU mP; omega)).1
        have e21 : h3.1 62 21 = h.1 62 21 := (c5 _ _ (by unfold mU mP; omega)).1
        rw [e22, m_far fy b5] at g1
        have i1 : x = nI (max d.2.2 N1.1) := (congrArg Prod.fst (Option.some.inj g1)).symm
        have q : ∀ k, k ≠ 3 + N1.1 → k ≠ 11 + N1.1 → (qm_seti (qm_seti (qm_seti (qm_seti h3 62 21 (h3.1 62 21)) 62 22 x) 72 (3 + N1.1) (nI N2.1)) 72 (11 + N1.1) (nI N3.1)).1 72 k = h.1 72 k := fun k k1 k2 => by rw [sI_ne (by omega), sI_ne (by omega), sI_ne (by omega), sI_ne (by omega), (c5 _ _ (by unfold mU mP; omega)).1]
        obtain ⟨a1, a2, a3, a4, a5, a6, a7, a8⟩ := D
        refine ⟨dMb.mk ?_ ?_ ?_ (fun k hk => ?_) (fun k hk => ?_) (fun k hk => ?_) (fun k hk => ?_) (fun k hk => ?_), ?_, ?_⟩
        · rw [q _ (by omega) (by omega)]; exact a1
        · rw [q _ (by omega) (by omega)]; exact a2
        · rw [q _ (by omega) (by omega)]; exact a3
        · unfold yup
          by_cases y : k = N1.1
          · rw [if_pos (by omega), y, sI_ne (by omega), sI_eq]
          · rw [if_neg (by omega), q _ (by omega) (by omega)]; exact a4 k hk
        · unfold yup
          by_cases y : k = N1.1
          · rw [if_pos (by omega), y, sI_eq]
          · rw [if_neg (by omega), q _ (by omega) (by omega)]; exact a5 k hk
        · unfold yup
          rw [if_neg (by omega), q _ (by omega) (by omega)]; exact a6 k hk
        · unfold yup
          rw [if_neg (by omega), q _ (by omega) (by omega)]; exact a7 k hk
        · rw [q _ (by omega) (by omega)]; exact a8 k hk
        · rw [sI_ne (by omega), sI_ne (by omega), sI_ne (by omega), sI_eq, e21]; exact fx
        · rw [sI_ne (by omega), sI_ne (by omega), sI_eq, i1]; exact farR.mx fy.1 b5
theorem m_rod1 {B : Nat → Nat} {n : Nat} {F : fl} {h : qm_H} (M : fM B n F h) (gd : h.1 62 23 = nI 1) : ((fNum B n 0 9 (fNum B n 0 9 (fNum B n 0 7 F).2).2).2.2.1 = 1 ∧ ∃ h', qX12_rodLine 62 (nI 1) h = some (nI 0, h') ∧ h'.1 62 16 = nI (fNum B n 0 9 (fNum B n 0 9 (fNum B n 0 7 F).2).2).2.2.2 ∧ qFr rP h h') ∨ ((fNum B n 0 9 (fNum B n 0 9 (fNum B n 0 7 F).2).2).2.2.1 ≠ 1 ∧ ∃ h', qX12_rodLine 62 (nI 1) h = some (nI 1, h') ∧ fM B n (fNum B n 0 9 (fNum B n 0 9 (fNum B n 0 7 F).2).2).2 h' ∧ ((fNum B n 0 9 (fNum B n 0 9 (fNum B n 0 7 F).2).2).2.2.1 = 0 → ∀ d : dB, dMb d.1 h → farR d.2.1 (h.1 62 21) → farR d.2.2 (h.1 62 22) → dMb (bw d.1, bh d.1, bx d.1, yup (bT d.1) (8 * 1 + (fNum B n 0 7 F).1) (fNum B n 0 9 (fNum B n 0 7 F).2).1, yup (bR d.1) (8 * 1 + (fNum B n 0 7 F).1) (fNum B n 0 9 (fNum B n 0 9 (fNum B n 0 7 F).2).2).1, bO d.1) h' ∧ farR (max d.2.1 (fNum B n 0 7 F).1) (h'.1 62 21) ∧ farR d.2.2 (h'.1 62 22)) ∧ qFr rP h h') := by
  have r1 := fNum_r B n (lo := 0) (hi := 7) F (by omega)
  rcases m_take3 (k := 0) (l1 := 0) (u1 := 7) (l2 := 0) (u2 := 9) (l3 := 0) (u3 := 9) M (by omega) (by omega) (by omega) (by omega) (by omega) (by omega) (by omega) with ⟨z, h', b1, b2, b3⟩ | ⟨z, v1, v2, v3, h1, h2, h3, b1, b2, b3, b4, b5, b6, b7, c1, c2, c3, c4, c5⟩
  · refine Or.inl ⟨z, h', ?_, b1, b2.mono (fun a i y => y.r)⟩
    unfold qX12_rodLine
    rcases b3 with b3 | ⟨h1, b3, b4⟩ | ⟨h1, h2, b3, b4, b5⟩
    · simp (disch := omega) only [↓reduceIte, ↓q_m1, ↓q_m2, k_o, k_0, k_1, k_2, k_3, k_4, k_5, k_6, k_7, k_8, k_9, k_10, k_11, k_16, k_17, k_19, k_20, k_24, k_26, k_27, k_30, k_32, k_33, k_35, k_40, k_43, k_48, k_50, k_57, k_60, k_64, k_81, k_86, k_34, k_66, k_322, k_97, k_99, k_100, k_122, k_128, k_160, k_161, k_255, k_256, k_512, k_580, k_600, k_1000, k_4096, k_far, k_o, nI_add, n_mul, n_sub, n_div, n_rem, n_lt, n_le, n_eq, n_cl, n_and, n_or, n_xor, m1_lt, lt_m1, m1_eq, eq_m1, le_m1, m1_le, m2_eq, up_eq, up_ne, n_shl, n_shr, b2_some, let_e, ob_some, bI_0, bI_a, bI_t, bI_f, if_true, if_false, ite_true, ite_false, true_and, and_true, false_and, and_false, true_or, or_true, false_or, or_false, not_true_eq_false, not_false_eq_true, ite_not, ne_eq, Bool.true_eq_false, Bool.false_eq_true, reduceCtorEq, decide_true, decide_false, Bool.and_true, Bool.and_false, Bool.true_and, Bool.false_and, Bool.or_true, Bool.or_false, Bool.not_true, Bool.not_false, Nat.add_zero, Nat.zero_add, eq_self, Nat.not_lt_zero, Nat.reduceAdd, Nat.reduceMul, Nat.reduceSub, Nat.reduceDiv, Nat.reduceMod, Nat.reduceAnd, Nat.reduceXor, Nat.reduceEqDiff, Nat.reducePow, lt_T, lt_F, le_T, le_F, eq_F, b3]
    · simp only [Nat.zero_add] at b4
      simp (disch := omega) only [↓reduceIte, ↓q_m1, ↓q_m2, k_o, k_0, k_1, k_2, k_3, k_4, k_5, k_6, k_7, k_8, k_9, k_10, k_11, k_16, k_17, k_19, k_20, k_24, k_26, k_27, k_30, k_32, k_33, k_35, k_40, k_43, k_48, k_50, k_57, k_60, k_64, k_81, k_86, k_34, k_66, k_322, k_97, k_99, k_100, k_122, k_128, k_160, k_161, k_255, k_256, k_512, k_580, k_600, k_1000, k_4096, k_far, k_o, nI_add, n_mul, n_sub, n_div, n_rem, n_lt, n_le, n_eq, n_cl, n_and, n_or, n_xor, m1_lt, lt_m1, m1_eq, eq_m1, le_m1, m1_le, m2_eq, up_eq, up_ne, n_shl, n_shr, b2_some, let_e, ob_some, bI_0, bI_a, bI_t, bI_f, if_true, if_false, ite_true, ite_false, true_and, and_true, false_and, and_false, true_or, or_true, false_or, or_false, not_true_eq_false, not_false_eq_true, ite_not, ne_eq, Bool.true_eq_false, Bool.false_eq_true, reduceCtorEq, decide_true, decide_false, Bool.and_true, Bool.and_false, Bool.true_and, Bool.false_and, Bool.or_true, Bool.or_false, Bool.not_true, Bool.not_false, Nat.add_zero, Nat.zero_add, eq_self, Nat.not_lt_zero, Nat.reduceAdd, Nat.reduceMul, Nat.reduceSub, Nat.reduceDiv, Nat.reduceMod, Nat.reduceAnd, Nat.reduceXor, Nat.reduceEqDiff, Nat.reducePow, lt_T, lt_F, le_T, le_F, eq_F, b3, b4]
    · simp only [Nat.zero_add] at b4 b5
      simp (disch := omega) only [↓reduceIte, ↓q_m1, ↓q_m2, k_o, k_0, k_1, k_2, k_3, k_4, k_5, k_6, k_7, k_8, k_9, k_10, k_11, k_16, k_17, k_19, k_20, k_24, k_26, k_27, k_30, k_32, k_33, k_35, k_40, k_43, k_48, k_50, k_57, k_60, k_64, k_81, k_86, k_34, k_66, k_322, k_97, k_99, k_100, k_122, k_128, k_160, k_161, k_255, k_256, k_512, k_580, k_600, k_1000, k_4096, k_far, k_o, nI_add, n_mul, n_sub, n_div, n_rem, n_lt, n_le, n_eq, n_cl, n_and, n_or, n_xor, m1_lt, lt_m1, m1_eq, eq_m1, le_m1, m1_le, m2_eq, up_eq, up_ne, n_shl, n_shr, b2_some, let_e, ob_some, bI_0, bI_a, bI_t, bI_f, if_true, if_false, ite_true, ite_false, true_and, and_true, false_and, and_false, true_or, or_true, false_or, or_false, not_true_eq_false, not_false_eq_true, ite_not, ne_eq, Bool.true_eq_false, Bool.false_eq_true, reduceCtorEq, decide_true, decide_false, Bool.and_true, Bool.and_false, Bool.true_and, Bool.false_and, Bool.or_true, Bool.or_false, Bool.not_true, Bool.not_false, Nat.add_zero, Nat.zero_add, eq_self, Nat.not_lt_zero, Nat.reduceAdd, Nat.reduceMul, Nat.reduceSub, Nat.reduceDiv, Nat.reduceMod, Nat.reduceAnd, Nat.reduceXor, Nat.reduceEqDiff, Nat.reducePow, lt_T, lt_F, le_T, le_F, eq_F, b3, b4, b5]
  · simp only [Nat.zero_add] at b2 b3 c2 c3
    obtain ⟨x, g1⟩ := m_grx (h3.1 62 21) (nI v1) h3
    have M1 : fM B n (fNum B n 0 9 (fNum B n 0 9 (fNum B n 0 7 F).2).2).2 (qm_seti (qm_seti h3 62 21 x) 62 22 (h3.1 62 22)) := b4.mv (fun k _ _ _ => by rw [sI_ne (by omega), sI_ne (by omega)]) rfl (fun j => by rw [sI_ne (by omega), sI_ne (by omega)])
    have f1 : qFr rP h (qm_seti (qm_seti h3 62 21 x) 62 22 (h3.1 62 22)) := ((c5.mono (fun a i y => y.r)).trans (qFr.seti (by unfold rP; omega))).trans (qFr.seti (by unfold rP; omega))
    by_cases g0 : h3.1 62 23 = nI 0
    · refine Or.inr ⟨z, _, ?_, M1, fun z0 => ?_, f1⟩
      · unfold qX12_rodLine qX12_rodLine_60
        simp (disch := omega) only [↓reduceIte, ↓q_m1, ↓q_m2, k_o, k_0, k_1, k_2, k_3, k_4, k_5, k_6, k_7, k_8, k_9, k_10, k_11, k_16, k_17, k_19, k_20, k_24, k_26, k_27, k_30, k_32, k_33, k_35, k_40, k_43, k_48, k_50, k_57, k_60, k_64, k_81, k_86, k_34, k_66, k_322, k_97, k_99, k_100, k_122, k_128, k_160, k_161, k_255, k_256, k_512, k_580, k_600, k_1000, k_4096, k_far, k_o, nI_add, n_mul, n_sub, n_div, n_rem, n_lt, n_le, n_eq, n_cl, n_and, n_or, n_xor, m1_lt, lt_m1, m1_eq, eq_m1, le_m1, m1_le, m2_eq, up_eq, up_ne, n_shl, n_shr, b2_some, let_e, ob_some, bI_0, bI_a, bI_t, bI_f, if_true, if_false, ite_true, ite_false, true_and, and_true, false_and, and_false, true_or, or_true, false_or, or_false, not_true_eq_false, not_false_eq_true, ite_not, ne_eq, Bool.true_eq_false, Bool.false_eq_true, reduceCtorEq, decide_true, decide_false, Bool.and_true, Bool.and_false, Bool.true_and, Bool.false_and, Bool.or_true, Bool.or_false, Bool.not_true, Bool.not_false, Nat.add_zero, Nat.zero_add, eq_self, Nat.not_lt_zero, Nat.reduceAdd, Nat.reduceMul, Nat.reduceSub, Nat.reduceDiv, Nat.reduceMod, Nat.reduceAnd, Nat.reduceXor, Nat.reduceEqDiff, Nat.reducePow, lt_T, lt_F, le_T, le_F, eq_F, b1, b2, b3, c1, c2, c3, g1, eq_true g0]
      · have := (c4 z0).2.2.2
        rw [g0, gd] at this
        exact absurd this (by decide)
    · refine Or.inr ⟨z, qm_seti (qm_seti (qm_seti (qm_seti h3 62 21 x) 62 22 (h3.1 62 22)) 72 (19 + v1) (nI v2)) 72 (27 + v1) (nI v3), ?_, M1.mv (fun k _ _ _ => by rw [sI_ne (by omega), sI_ne (by omega)]) rfl (fun j => by rw [sI_ne (by omega), sI_ne (by omega)]), fun z0 d D fx fy => ?_, (f1.trans (qFr.seti (by unfold rP; omega))).trans (qFr.seti (by unfold rP; omega))⟩
      · unfold qX12_rodLine qX12_rodLine_60 qX12_rodLine_113
        simp (disch := omega) only [↓reduceIte, ↓q_m1, ↓q_m2, k_o, k_0, k_1, k_2, k_3, k_4, k_5, k_6, k_7, k_8, k_9, k_10, k_11, k_16, k_17, k_19, k_20, k_24, k_26, k_27, k_30, k_32, k_33, k_35, k_40, k_43, k_48, k_50, k_57, k_60, k_64, k_81, k_86, k_34, k_66, k_322, k_97, k_99, k_100, k_122, k_128, k_160, k_161, k_255, k_256, k_512, k_580, k_600, k_1000, k_4096, k_far, k_o, nI_add, n_mul, n_sub, n_div, n_rem, n_lt, n_le, n_eq, n_cl, n_and, n_or, n_xor, m1_lt, lt_m1, m1_eq, eq_m1, le_m1, m1_le, m2_eq, up_eq, up_ne, n_shl, n_shr, b2_some, let_e, ob_some, bI_0, bI_a, bI_t, bI_f, if_true, if_false, ite_true, ite_false, true_and, and_true, false_and, and_false, true_or, or_true, false_or, or_false, not_true_eq_false, not_false_eq_true, ite_not, ne_eq, Bool.true_eq_false, Bool.false_eq_true, reduceCtorEq, decide_true, decide_false, Bool.and_true, Bool.and_false, Bool.true_and, Bool.false_and, Bool.or_true, Bool.or_false, Bool.not_true, Bool.not_false, Nat.add_zero, Nat.zero_add, eq_self, Nat.not_lt_zero, Nat.reduceAdd, Nat.reduceMul, Nat.reduceSub, Nat.reduceDiv, Nat.reduceMod, Nat.reduceAnd, Nat.reduceXor, Nat.reduceEqDiff, Nat.reducePow, lt_T, lt_F, le_T, le_F, eq_F, b1, b2, b3, c1, c2, c3, g1, eq_false g0]
      · obtain ⟨w1, w2, w3, _⟩ := c4 z0
        clear M1 M b4
        generalize fNum B n 0 9 (fNum B n 0 9 (fNum B n 0 7 F).2).2 = N3 at *
        generalize fNum B n 0 9 (fNum B n 0 7 F).2 = N2 at *
        generalize fNum B n 0 7 F = N1 at *
        subst w1 w2 w3
        have e22 : h3.1 62 22 = h.1 62 22 := (c5 _ _ (by unfold mU mP; omega)).1
        have e21 : h3.1 62 21 = h.1 62 21 := (c5 _ _ (by unfold mU mP; omega)).1
        rw [e21, m_far fx b5] at g1
        have i1 : x = nI (max d.2.1 N1.1) := (congrArg Prod.fst (Option.some.inj g1)).symm
        have q : ∀ k, k ≠ 19 + N1.1 → k ≠ 27 + N1.1 → (qm_seti (qm_seti (qm_seti (qm_seti h3 62 21 x) 62 22 (h3.1 62 22)) 72 (19 + N1.1) (nI N2.1)) 72 (27 + N1.1) (nI N3.1)).1 72 k = h.1 72 k := fun k k1 k2 => by rw [sI_ne (by omega), sI_ne (by omega), sI_ne (by omega), sI_ne (by omega), (c5 _ _ (by unfold mU mP; omega)).1]
        obtain ⟨a1, a2, a3, a4, a5, a6, a7, a8⟩ := D
        refine ⟨dMb.mk ?_ ?_ ?_ (fun k hk => ?_) (fun k hk => ?_) (fun k hk => ?_) (fun k hk => ?_) (fun k hk => ?_), ?_, ?_⟩
        · rw [q _ (by omega) (by omega)]; exact a1
        · rw [q _ (by omega) (by omega)]; exact a2
        · rw [q _ (by omega) (by omega)]; exact a3
        · unfold yup
          rw [if_neg (by omega), q _ (by omega) (by omega)]; exact a4 k hk
        · unfold yup
          rw [if_neg (by omega), q _ (by omega) (by omega)]; exact a5 k hk
        · unfold yup
          by_cases y : k = N1.1
          · rw [if_pos (by omega), y, sI_ne (by omega), sI_eq]
          · rw [if_neg (by omega), q _ (by omega) (by omega)]; exact a6 k hk
        · unfold yup
          by_cases y : k = N1.1
          · rw [if_pos (by omega), y, sI_eq]
          · rw [if_neg (by omega), q _ (by omega) (by omega)]; exact a7 k hk
        · rw [q _ (by omega) (by omega)]; exact a8 k hk
        · rw [sI_ne (by omega), sI_ne (by omega), sI_ne (by omega), sI_eq, i1]; exact farR.mx fx.1 b5
        · rw [sI_ne (by omega), sI_ne (by omega), sI_eq, e22]; exact fy
theorem m_lineB {B : Nat → Nat} {n : Nat} {F F' : fl} {h : qm_H} {d d' : dB} (M : fM B n F h) (D : DmB F d h) (gd : h.1 62 23 = nI 1) (L : LnB B n F d F' d') : (F'.2.1 = 1 ∧ ∃ h', qX12_lineOf 62 (nI 0) (lN (tW B n F.1)) (nI (tS B n F.1)) h = some (nI 0, h') ∧ h'.1 62 16 = nI F'.2.2 ∧ qFr rP h h') ∨ (F'.2.1 ≠ 1 ∧ ∃ h', qX12_lineOf 62 (nI 0) (lN (tW B n F.1)) (nI (tS B n F.1)) h = some (nI 1, h') ∧ fM B n F' h' ∧ DmB F' d' h' ∧ qFr rP h h') := by
  have tl := tW_lt B n F.1
  have adv : tW B n F.1 ≠ 0 → ∃ h1, qX12_token 62 h = some h1 ∧ fM B n (fAdv B n F) h1 ∧ h1.1 62 23 = nI 1 ∧ ((fAdv B n F).2.1 = 0 → dMb d.1 h1 ∧ farR d.2.1 (h1.1 62 21) ∧ farR d.2.2 (h1.1 62 22)) ∧ qFr rP h h1 := fun z => by
    have tk := tW_K z
    obtain ⟨h1, a1, a2, a3⟩ := m_fadv M.w (by omega)
    refine ⟨h1, a1, a2, ?_, fun z0 => ⟨(D z0).1.mv (fun k => (a3 _ _ (by unfold mtk; omega)).1), ?_, ?_⟩, a3.mono (fun a k y => y.r)⟩
    · rw [(a3 _ _ (by unfold mtk; omega)).1]; exact gd
    · rw [(a3 _ _ (by unfold mtk; omega)).1]; exact (D z0).2.1
    · rw [(a3 _ _ (by unfold mtk; omega)).1]; exact (D z0).2.2
  rcases L with ⟨w, rfl, rfl⟩ | ⟨w, rfl, rfl⟩ | ⟨w, rfl, rfl⟩ | ⟨w, rfl, rfl⟩ | ⟨w, rfl, rfl⟩ | ⟨w0, w1, w2, w3, w4, rfl, rfl⟩
  · obtain ⟨h1, a1, a2, a3, a4, a5⟩ := adv (by omega)
    rw [w]
    rcases ym_size a2 with ⟨z, h', b1, b2, b3⟩ | ⟨z, h', b1, b2, b3, b4⟩
    · refine Or.inl ⟨z, h', ?_, b2, a5.trans (b3.mono (fun a k y => y.r))⟩
      unfold qX12_lineOf qX12_basketLine qX12_basketLine_45
      simp (disch := omega) only [↓reduceIte, ↓q_m1, ↓q_m2, k_o, k_0, k_1, k_2, k_3, k_4, k_5, k_6, k_7, k_8, k_9, k_10, k_11, k_16, k_17, k_19, k_20, k_24, k_26, k_27, k_30, k_32, k_33, k_35, k_40, k_43, k_48, k_50, k_57, k_60, k_64, k_81, k_86, k_34, k_66, k_322, k_97, k_99, k_100, k_122, k_128, k_160, k_161, k_255, k_256, k_512, k_580, k_600, k_1000, k_4096, k_far, k_o, nI_add, n_mul, n_sub, n_div, n_rem, n_lt, n_le, n_eq, n_cl, n_and, n_or, n_xor, m1_lt, lt_m1, m1_eq, eq_m1, le_m1, m1_le, m2_eq, up_eq, up_ne, n_shl, n_shr, b2_some, let_e, ob_some, bI_0, bI_a, bI_t, bI_f, if_true, if_false, ite_true, ite_false, true_and, and_true, false_and, and_false, true_or, or_true, false_or, or_false, not_true_eq_false, not_false_eq_true, ite_not, ne_eq, Bool.true_eq_false, Bool.false_eq_true, reduceCtorEq, decide_true, decide_false, Bool.and_true, Bool.and_false, Bool.true_and, Bool.false_and, Bool.or_true, Bool.or_false, Bool.not_true, Bool.not_false, Nat.add_zero, Nat.zero_add, eq_self, Nat.not_lt_zero, Nat.reduceAdd, Nat.reduceMul, Nat.reduceSub, Nat.reduceDiv, Nat.reduceMod, Nat.reduceAnd, Nat.reduceXor, Nat.reduceEqDiff, Nat.reducePow, lt_T, lt_F, le_T, le_F, eq_F, l_cmp0, wk0, wk1, wk2, wk3, wk4, ylN_eq, a1, b1]
    · refine Or.inr ⟨z, h', ?_, b2, fun z0 => ?_, a5.trans (b4.mono (fun a k y => y.r))⟩
      · unfold qX12_lineOf qX12_basketLine qX12_basketLine_45
        simp (disch := omega) only [↓reduceIte, ↓q_m1, ↓q_m2, k_o, k_0, k_1, k_2, k_3, k_4, k_5, k_6, k_7, k_8, k_9, k_10, k_11, k_16, k_17, k_19, k_20, k_24, k_26, k_27, k_30, k_32, k_33, k_35, k_40, k_43, k_48, k_50, k_57, k_60, k_64, k_81, k_86, k_34, k_66, k_322, k_97, k_99, k_100, k_122, k_128, k_160, k_161, k_255, k_256, k_512, k_580, k_600, k_1000, k_4096, k_far, k_o, nI_add, n_mul, n_sub, n_div, n_rem, n_lt, n_le, n_eq, n_cl, n_and, n_or, n_xor, m1_lt, lt_m1, m1_eq, eq_m1, le_m1, m1_le, m2_eq, up_eq, up_ne, n_shl, n_shr, b2_some, let_e, ob_some, bI_0, bI_a, bI_t, bI_f, if_true, if_false, ite_true, ite_false, true_and, and_true, false_and, and_false, true_or, or_true, false_or, or_false, not_true_eq_false, not_false_eq_true, ite_not, ne_eq, Bool.true_eq_false, Bool.false_eq_true, reduceCtorEq, decide_true, decide_false, Bool.and_true, Bool.and_false, Bool.true_and, Bool.false_and, Bool.or_true, Bool.or_false, Bool.not_true, Bool.not_false, Nat.add_zero, Nat.zero_add, eq_self, Nat.not_lt_zero, Nat.reduceAdd, Nat.reduceMul, Nat.reduceSub, Nat.reduceDiv, Nat.reduceMod, Nat.reduceAnd, Nat.reduceXor, Nat.reduceEqDiff, Nat.reducePow, lt_T, lt_F, le_T, le_F, eq_F, l_cmp0, wk0, wk1, wk2, wk3, wk4, ylN_eq, a1, b1]
      · obtain ⟨x1, x2⟩ := b3 z0
        have k1 := fNum_0 (fNum_0 z0)
        obtain ⟨⟨y1, y2, y3, y4, y5, y6, y7, y8⟩, yx, yy⟩ := a4 k1
        have q : ∀ k, 2 ≤ k → h'.1 72 k = h1.1 72 k := fun k hk => (b4 _ _ (by unfold ySz mP; omega)).1
        refine ⟨dMb.mk x1 x2 (by rw [q _ (by omega)]; exact y3) (fun k hk => by rw [q _ (by omega)]; exact y4 k hk) (fun k hk => by rw [q _ (by omega)]; exact y5 k hk) (fun k hk => by rw [q _ (by omega)]; exact y6 k hk) (fun k hk => by rw [q _ (by omega)]; exact y7 k hk) (fun k hk => by rw [q _ (by omega)]; exact y8 k hk), ?_, ?_⟩
        · rw [(b4 _ _ (by unfold ySz mP; omega)).1]; exact yx
        · rw [(b4 _ _ (by unfold ySz mP; omega)).1]; exact yy
  · obtain ⟨h1, a1, a2, a3, a4, a5⟩ := adv (by omega)
    rw [w]
    rcases m_open a2 a3 with ⟨z, h', b1, b2, b3⟩ | ⟨z, h', b1, b2, b3, b4⟩
    · refine Or.inl ⟨z, h', ?_, b2, a5.trans b3⟩
      unfold qX12_lineOf qX12_basketLine qX12_basketLine_45
      simp (disch := omega) only [↓reduceIte, ↓q_m1, ↓q_m2, k_o, k_0, k_1, k_2, k_3, k_4, k_5, k_6, k_7, k_8, k_9, k_10, k_11, k_16, k_17, k_19, k_20, k_24, k_26, k_27, k_30, k_32, k_33, k_35, k_40, k_43, k_48, k_50, k_57, k_60, k_64, k_81, k_86, k_34, k_66, k_322, k_97, k_99, k_100, k_122, k_128, k_160, k_161, k_255, k_256, k_512, k_580, k_600, k_1000, k_4096, k_far, k_o, nI_add, n_mul, n_sub, n_div, n_rem, n_lt, n_le, n_eq, n_cl, n_and, n_or, n_xor, m1_lt, lt_m1, m1_eq, eq_m1, le_m1, m1_le, m2_eq, up_eq, up_ne, n_shl, n_shr, b2_some, let_e, ob_some, bI_0, bI_a, bI_t, bI_f, if_true, if_false, ite_true, ite_false, true_and, and_true, false_and, and_false, true_or, or_true, false_or, or_false, not_true_eq_false, not_false_eq_true, ite_not, ne_eq, Bool.true_eq_false, Bool.false_eq_true, reduceCtorEq, decide_true, decide_false, Bool.and_true, Bool.and_false, Bool.true_and, Bool.false_and, Bool.or_true, Bool.or_false, Bool.not_true, Bool.not_false, Nat.add_zero, Nat.zero_add, eq_self, Nat.not_lt_zero, Nat.reduceAdd, Nat.reduceMul, Nat.reduceSub, Nat.reduceDiv, Nat.reduceMod, Nat.reduceAnd, Nat.reduceXor, Nat.reduceEqDiff, Nat.reducePow, lt_T, lt_F, le_T, le_F, eq_F, l_cmp0, wk0, wk1, wk2, wk3, wk4, ylN_eq, a1, b1]
    · refine Or.inr ⟨z, h', ?_, b2, fun z0 => ?_, a5.trans b4⟩
      · unfold qX12_lineOf qX12_basketLine qX12_basketLine_45
        simp (disch := omega) only [↓reduceIte, ↓q_m1, ↓q_m2, k_o, k_0, k_1, k_2, k_3, k_4, k_5, k_6, k_7, k_8, k_9, k_10, k_11, k_16, k_17, k_19, k_20, k_24, k_26, k_27, k_30, k_32, k_33, k_35, k_40, k_43, k_48, k_50, k_57, k_60, k_64, k_81, k_86, k_34, k_66, k_322, k_97, k_99, k_100, k_122, k_128, k_160, k_161, k_255, k_256, k_512, k_580, k_600, k_1000, k_4096, k_far, k_o, nI_add, n_mul, n_sub, n_div, n_rem, n_lt, n_le, n_eq, n_cl, n_and, n_or, n_xor, m1_lt, lt_m1, m1_eq, eq_m1, le_m1, m1_le, m2_eq, up_eq, up_ne, n_shl, n_shr, b2_some, let_e, ob_some, bI_0, bI_a, bI_t, bI_f, if_true, if_false, ite_true, ite_false, true_and, and_true, false_and, and_false, true_or, or_true, false_or, or_false, not_true_eq_false, not_false_eq_true, ite_not, ne_eq, Bool.true_eq_false, Bool.false_eq_true, reduceCtorEq, decide_true, decide_false, Bool.and_true, Bool.and_false, Bool.true_and, Bool.false_and, Bool.or_true, Bool.or_false, Bool.not_true, Bool.not_false, Nat.add_zero, Nat.zero_add, eq_self, Nat.not_lt_zero, Nat.reduceAdd, Nat.reduceMul, Nat.reduceSub, Nat.reduceDiv, Nat.reduceMod, Nat.reduceAnd, Nat.reduceXor, Nat.reduceEqDiff, Nat.reducePow, lt_T, lt_F, le_T, le_F, eq_F, l_cmp0, wk0, wk1, wk2, wk3, wk4, ylN_eq, a1, b1]
      · have k1 := fNum_0 (fNum_0 z0)
        obtain ⟨y1, y2, y3⟩ := a4 k1
        exact b3 z0 d y1 y2 y3
  · obtain ⟨h1, a1, a2, a3, a4, a5⟩ := adv (by omega)
    rw [w]
    rcases m_rod0 a2 a3 with ⟨z, h', b1, b2, b3⟩ | ⟨z, h', b1, b2, b3, b4⟩
    · refine Or.inl ⟨z, h', ?_, b2, a5.trans b3⟩
      unfold qX12_lineOf qX12_basketLine qX12_basketLine_45 qX12_basketLine_110
      simp (disch := omega) only [↓reduceIte, ↓q_m1, ↓q_m2, k_o, k_0, k_1, k_2, k_3, k_4, k_5, k_6, k_7, k_8, k_9, k_10, k_11, k_16, k_17, k_19, k_20, k_24, k_26, k_27, k_30, k_32, k_33, k_35, k_40, k_43, k_48, k_50, k_57, k_60, k_64, k_81, k_86, k_34, k_66, k_322, k_97, k_99, k_100, k_122, k_128, k_160, k_161, k_255, k_256, k_512, k_580, k_600, k_1000, k_4096, k_far, k_o, nI_add, n_mul, n_sub, n_div, n_rem, n_lt, n_le, n_eq, n_cl, n_and, n_or, n_xor, m1_lt, lt_m1, m1_eq, eq_m1, le_m1, m1_le, m2_eq, up_eq, up_ne, n_shl, n_shr, b2_some, let_e, ob_some, bI_0, bI_a, bI_t, bI_f, if_true, if_false, ite_true, ite_false, true_and, and_true, false_and, and_false, true_or, or_true, false_or, or_false, not_true_eq_false, not_false_eq_true, ite_not, ne_eq, Bool.true_eq_false, Bool.false_eq_true, reduceCtorEq, decide_true, decide_false, Bool.and_true, Bool.and_false, Bool.true_and, Bool.false_and, Bool.or_true, Bool.or_false, Bool.not_true, Bool.not_false, Nat.add_zero, Nat.zero_add, eq_self, Nat.not_lt_zero, Nat.reduceAdd, Nat.reduceMul, Nat.reduceSub, Nat.reduceDiv, Nat.reduceMod, Nat.reduceAnd, Nat.reduceXor, Nat.reduceEqDiff, Nat.reducePow, lt_T, lt_F, le_T, le_F, eq_F, l_cmp0, wk0, wk1, wk2, wk3, wk4, ylN_eq, a1, b1]
    · refine Or.inr ⟨z, h', ?_, b2, fun z0 => ?_, a5.trans b4⟩
      · unfold qX12_lineOf qX12_basketLine qX12_basketLine_45 qX12_basketLine_110
        simp (disch := omega) only [↓reduceIte, ↓q_m1, ↓q_m2, k_o, k_0, k_1, k_2, k_3, k_4, k_5, k_6, k_7, k_8, k_9, k_10, k_11, k_16, k_17, k_19, k_20, k_24, k_26, k_27, k_30, k_32, k_33, k_35, k_40, k_43, k_48, k_50, k_57, k_60, k_64, k_81, k_86, k_34, k_66, k_322, k_97, k_99, k_100, k_122, k_128, k_160, k_161, k_255, k_256, k_512, k_580, k_600, k_1000, k_4096, k_far, k_o, nI_add, n_mul, n_sub, n_div, n_rem, n_lt, n_le, n_eq, n_cl, n_and, n_or, n_xor, m1_lt, lt_m1, m1_eq, eq_m1, le_m1, m1_le, m2_eq, up_eq, up_ne, n_shl, n_shr, b2_some, let_e, ob_some, bI_0, bI_a, bI_t, bI_f, if_true, if_false, ite_true, ite_false, true_and, and_true, false_and, and_false, true_or, or_true, false_or, or_false, not_true_eq_false, not_false_eq_true, ite_not, ne_eq, Bool.true_eq_false, Bool.false_eq_true, reduceCtorEq, decide_true, decide_false, Bool.and_true, Bool.and_false, Bool.true_and, Bool.false_and, Bool.or_true, Bool.or_false, Bool.not_true, Bool.not_false, Nat.add_zero, Nat.zero_add, eq_self, Nat.not_lt_zero, Nat.reduceAdd, Nat.reduceMul, Nat.reduceSub, Nat.reduceDiv, Nat.reduceMod, Nat.reduceAnd, Nat.reduceXor, Nat.reduceEqDiff, Nat.reducePow, lt_T, lt_F, le_T, le_F, eq_F, l_cmp0, wk0, wk1, wk2, wk3, wk4, ylN_eq, a1, b1]
      · have k1 := fNum_0 (fNum_0 (fNum_0 z0))
        obtain ⟨y1, y2, y3⟩ := a4 k1
        exact b3 z0 d y1 y2 y3
  · obtain ⟨h1, a1, a2, a3, a4, a5⟩ := adv (by omega)
    rw [w]
    rcases m_rod1 a2 a3 with ⟨z, h', b1, b2, b3⟩ | ⟨z, h', b1, b2, b3, b4⟩
    · refine Or.inl ⟨z, h', ?_, b2, a5.trans b3⟩
      unfold qX12_lineOf qX12_basketLine qX12_basketLine_45 qX12_basketLine_110
      simp (disch := omega) only [↓reduceIte, ↓q_m1, ↓q_m2, k_o, k_0, k_1, k_2, k_3, k_4, k_5, k_6, k_7, k_8, k_9, k_10, k_11, k_16, k_17, k_19, k_20, k_24, k_26, k_27, k_30, k_32, k_33, k_35, k_40, k_43, k_48, k_50, k_57, k_60, k_64, k_81, k_86, k_34, k_66, k_322, k_97, k_99, k_100, k_122, k_128, k_160, k_161, k_255, k_256, k_512, k_580, k_600, k_1000, k_4096, k_far, k_o, nI_add, n_mul, n_sub, n_div, n_rem, n_lt, n_le, n_eq, n_cl, n_and, n_or, n_xor, m1_lt, lt_m1, m1_eq, eq_m1, le_m1, m1_le, m2_eq, up_eq, up_ne, n_shl, n_shr, b2_some, let_e, ob_some, bI_0, bI_a, bI_t, bI_f, if_true, if_false, ite_true, ite_false, true_and, and_true, false_and, and_false, true_or, or_true, false_or, or_false, not_true_eq_false, not_false_eq_true, ite_not, ne_eq, Bool.true_eq_false, Bool.false_eq_true, reduceCtorEq, decide_true, decide_false, Bool.and_true, Bool.and_false, Bool.true_and, Bool.false_and, Bool.or_true, Bool.or_false, Bool.not_true, Bool.not_false, Nat.add_zero, Nat.zero_add, eq_self, Nat.not_lt_zero, Nat.reduceAdd, Nat.reduceMul, Nat.reduceSub, Nat.reduceDiv, Nat.reduceMod, Nat.reduceAnd, Nat.reduceXor, Nat.reduceEqDiff, Nat.reducePow, lt_T, lt_F, le_T, le_F, eq_F, l_cmp0, wk0, wk1, wk2, wk3, wk4, ylN_eq, a1, b1]
    · refine Or.inr ⟨z, h', ?_, b2, fun z0 => ?_, a5.trans b4⟩
      · unfold qX12_lineOf qX12_basketLine qX12_basketLine_45 qX12_basketLine_110
        simp (disch := omega) only [↓reduceIte, ↓q_m1, ↓q_m2, k_o, k_0, k_1, k_2, k_3, k_4, k_5, k_6, k_7, k_8, k_9, k_10, k_11, k_16, k_17, k_19, k_20, k_24, k_26, k_27, k_30, k_32, k_33, k_35, k_40, k_43, k_48, k_50, k_57, k_60, k_64, k_81, k_86, k_34, k_66, k_322, k_97, k_99, k_100, k_122, k_128, k_160, k_161, k_255, k_256, k_512, k_580, k_600, k_1000, k_4096, k_far, k_o, nI_add, n_mul, n_sub, n_div, n_rem, n_lt, n_le, n_eq, n_cl, n_and, n_or, n_xor, m1_lt, lt_m1, m1_eq, eq_m1, le_m1, m1_le, m2_eq, up_eq, up_ne, n_shl, n_shr, b2_some, let_e, ob_some, bI_0, bI_a, bI_t, bI_f, if_true, if_false, ite_true, ite_false, true_and, and_true, false_and, and_false, true_or, or_true, false_or, or_false, not_true_eq_false, not_false_eq_true, ite_not, ne_eq, Bool.true_eq_false, Bool.false_eq_true, reduceCtorEq, decide_true, decide_false, Bool.and_true, Bool.and_false, Bool.true_and, Bool.false_and, Bool.or_true, Bool.or_false, Bool.not_true, Bool.not_false, Nat.add_zero, Nat.zero_add, eq_self, Nat.not_lt_zero, Nat.reduceAdd, Nat.reduceMul, Nat.reduceSub, Nat.reduceDiv, Nat.reduceMod, Nat.reduceAnd, Nat.reduceXor, Nat.reduceEqDiff, Nat.reducePow, lt_T, lt_F, le_T, le_F, eq_F, l_cmp0, wk0, wk1, wk2, wk3, wk4, ylN_eq, a1, b1]
      · have k1 := fNum_0 (fNum_0 (fNum_0 z0))
        obtain ⟨y1, y2, y3⟩ := a4 k1
        exact b3 z0 d y1 y2 y3
  · obtain ⟨h1, a1, a2, a3, a4, a5⟩ := adv (by omega)
    rw [w]
    refine Or.inr ⟨a2.2.2.1, qm_seti h1 72 2 (nI 1), ?_, a2.mv (fun k _ _ _ => sI_ne (by omega)) rfl (fun j => sI_ne (by omega)), fun z0 => ?_, a5.trans (qFr.seti (by unfold rP; omega))⟩
    · unfold qX12_lineOf qX12_basketLine qX12_basketLine_45
      simp (disch := omega) only [↓reduceIte, ↓q_m1, ↓q_m2, k_o, k_0, k_1, k_2, k_3, k_4, k_5, k_6, k_7, k_8, k_9, k_10, k_11, k_16, k_17, k_19, k_20, k_24, k_26, k_27, k_30, k_32, k_33, k_35, k_40, k_43, k_48, k_50, k_57, k_60, k_64, k_81, k_86, k_34, k_66, k_322, k_97, k_99, k_100, k_122, k_128, k_160, k_161, k_255, k_256, k_512, k_580, k_600, k_1000, k_4096, k_far, k_o, nI_add, n_mul, n_sub, n_div, n_rem, n_lt, n_le, n_eq, n_cl, n_and, n_or, n_xor, m1_lt, lt_m1, m1_eq, eq_m1, le_m1, m1_le, m2_eq, up_eq, up_ne, n_shl, n_shr, b2_some, let_e, ob_some, bI_0, bI_a, bI_t, bI_f, if_true, if_false, ite_true, ite_false, true_and, and_true, false_and, and_false, true_or, or_true, false_or, or_false, not_true_eq_false, not_false_eq_true, ite_not, ne_eq, Bool.true_eq_false, Bool.false_eq_true, reduceCtorEq, decide_true, decide_false, Bool.and_true, Bool.and_false, Bool.true_and, Bool.false_and, Bool.or_true, Bool.or_false, Bool.not_true, Bool.not_false, Nat.add_zero, Nat.zero_add, eq_self, Nat.not_lt_zero, Nat.reduceAdd, Nat.reduceMul, Nat.reduceSub, Nat.reduceDiv, Nat.reduceMod, Nat.reduceAnd, Nat.reduceXor, Nat.reduceEqDiff, Nat.reducePow, lt_T, lt_F, le_T, le_F, eq_F, l_cmp0, wk0, wk1, wk2, wk3, wk4, ylN_eq, a1]
    · obtain ⟨⟨y1, y2, y3, y4, y5, y6, y7, y8⟩, yx, yy⟩ := a4 z0
      have q : ∀ k, k ≠ 2 → (qm_seti h1 72 2 (nI 1)).1 72 k = h1.1 72 k := fun k hk => sI_ne (by omega)
      refine ⟨dMb.mk (by rw [q _ (by omega)]; exact y1) (by rw [q _ (by omega)]; exact y2) (sI_eq _ _ _ _) (fun k hk => by rw [q _ (by omega)]; exact y4 k hk) (fun k hk => by rw [q _ (by omega)]; exact y5 k hk) (fun k hk => by rw [q _ (by omega)]; exact y6 k hk) (fun k hk => by rw [q _ (by omega)]; exact y7 k hk) (fun k hk => by rw [q _ (by omega)]; exact y8 k hk), ?_, ?_⟩
      · rw [sI_ne (by omega)]; exact yx
      · rw [sI_ne (by omega)]; exact yy
  · have fl1 := m_fails M.w
    have nr : fRef B n F = (F.1, 1, tS B n F.1) := if_neg M.2.2.1
    rw [nr]
    refine Or.inl ⟨rfl, _, ?_, sI_eq _ _ _ _, qFr.seti (by unfold rP; omega)⟩
    unfold qX12_lineOf qX12_basketLine
    simp (disch := omega) only [↓reduceIte, ↓q_m1, ↓q_m2, k_o, k_0, k_1, k_2, k_3, k_4, k_5, k_6, k_7, k_8, k_9, k_10, k_11, k_16, k_17, k_19, k_20, k_24, k_26, k_27, k_30, k_32, k_33, k_35, k_40, k_43, k_48, k_50, k_57, k_60, k_64, k_81, k_86, k_34, k_66, k_322, k_97, k_99, k_100, k_122, k_128, k_160, k_161, k_255, k_256, k_512, k_580, k_600, k_1000, k_4096, k_far, k_o, nI_add, n_mul, n_sub, n_div, n_rem, n_lt, n_le, n_eq, n_cl, n_and, n_or, n_xor, m1_lt, lt_m1, m1_eq, eq_m1, le_m1, m1_le, m2_eq, up_eq, up_ne, n_shl, n_shr, b2_some, let_e, ob_some, bI_0, bI_a, bI_t, bI_f, if_true, if_false, ite_true, ite_false, true_and, and_true, false_and, and_false, true_or, or_true, false_or, or_false, not_true_eq_false, not_false_eq_true, ite_not, ne_eq, Bool.true_eq_false, Bool.false_eq_true, reduceCtorEq, decide_true, decide_false, Bool.and_true, Bool.and_false, Bool.true_and, Bool.false_and, Bool.or_true, Bool.or_false, Bool.not_true, Bool.not_false, Nat.add_zero, Nat.zero_add, eq_self, Nat.not_lt_zero, Nat.reduceAdd, Nat.reduceMul, Nat.reduceSub, Nat.reduceDiv, Nat.reduceMod, Nat.reduceAnd, Nat.reduceXor, Nat.reduceEqDiff, Nat.reducePow, lt_T, lt_F, le_T, le_F, eq_F, l_cmp0, wk0, wk1, wk2, wk3, wk4, ylN_eq, fl1]
