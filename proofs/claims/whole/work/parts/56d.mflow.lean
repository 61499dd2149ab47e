/-! text: what the reference's reading does. -/
theorem mkd_r (k : Nat) : mkd k ≤ 4 ∧ (mkd k = 0 ↔ k = 0) ∧ (mkd k = 2 ↔ k = 1) ∧ (mkd k = 3 ↔ k = 2) ∧ (mkd k = 4 ↔ k = 3) := by
  unfold mkd
  repeat' split
  all_goals omega
/-- the reference's reading stands there (and has not been refused) -/
def fM (B : Nat → Nat) (n : Nat) (F : fl) (h : qm_H) : Prop := tpM B n h ∧ F.1 ≤ n ∧ F.2.1 ≠ 1 ∧ F.2.1 ≤ 3 ∧ tM B n F.1 h ∧ h.1 62 17 = nI F.2.1 ∧ (F.2.1 ≠ 0 → h.1 62 18 = nI F.2.2 ∧ F.2.2 < tS B n F.1)
/-- the same, a FAULT noted at this TOKEN -/
def fMw (B : Nat → Nat) (n : Nat) (F : fl) (h : qm_H) : Prop := tpM B n h ∧ F.1 ≤ n ∧ F.2.1 ≠ 1 ∧ F.2.1 ≤ 3 ∧ tM B n F.1 h ∧ h.1 62 17 = nI F.2.1 ∧ (F.2.1 ≠ 0 → h.1 62 18 = nI F.2.2 ∧ F.2.2 ≤ tS B n F.1)
theorem fM.w {B : Nat → Nat} {n : Nat} {F : fl} {h : qm_H} (M : fM B n F h) : fMw B n F h := by
  obtain ⟨a1, a2, a3, a4, a5, a6, a7⟩ := M
  exact ⟨a1, a2, a3, a4, a5, a6, fun z => ⟨(a7 z).1, Nat.le_of_lt (a7 z).2⟩⟩
theorem tM.mv {B : Nat → Nat} {n p : Nat} {h h' : qm_H} (M : tM B n p h) (e1 : ∀ k, k = 10 ∨ (12 ≤ k ∧ k ≤ 14) → h'.1 62 k = h.1 62 k) (e2 : h'.2 62 15 = h.2 62 15) : tM B n p h' := by
  unfold tM
  rw [e1 10 (by omega), e1 12 (by omega), e1 13 (by omega), e1 14 (by omega), e2]
  exact M
theorem fM.mv {B : Nat → Nat} {n : Nat} {F : fl} {h h' : qm_H} (M : fM B n F h) (e1 : ∀ k, 10 ≤ k → k ≤ 18 → k ≠ 16 → h'.1 62 k = h.1 62 k) (e2 : h'.2 62 15 = h.2 62 15) (e3 : ∀ j, h'.1 63 j = h.1 63 j) : fM B n F h' := by
  obtain ⟨a1, a2, a3, a4, a5, a6, a7⟩ := M
  refine ⟨a1.mv (e1 11 (by omega) (by omega) (by omega)) e3, a2, a3, a4, a5.mv (fun k hk => e1 k (by omega) (by omega) (by omega)) e2, ?_, ?_⟩
  · rw [e1 17 (by omega) (by omega) (by omega)]; exact a6
  · rw [e1 18 (by omega) (by omega) (by omega)]; exact a7
theorem fMw.mv {B : Nat → Nat} {n : Nat} {F : fl} {h h' : qm_H} (M : fMw B n F h) (e1 : ∀ k, 10 ≤ k → k ≤ 18 → k ≠ 16 → h'.1 62 k = h.1 62 k) (e2 : h'.2 62 15 = h.2 62 15) (e3 : ∀ j, h'.1 63 j = h.1 63 j) : fMw B n F h' := by
  obtain ⟨a1, a2, a3, a4, a5, a6, a7⟩ := M
  refine ⟨a1.mv (e1 11 (by omega) (by omega) (by omega)) e3, a2, a3, a4, a5.mv (fun k hk => e1 k (by omega) (by omega) (by omega)) e2, ?_, ?_⟩
  · rw [e1 17 (by omega) (by omega) (by omega)]; exact a6
  · rw [e1 18 (by omega) (by omega) (by omega)]; exact a7
theorem m_later {f c q q0 : Nat} {h : qm_H} (e17 : h.1 62 17 = nI f) (hf : f ≤ 4) (hc : c ≤ 4) (hq : q ≤ 600) (e18 : f ≠ 0 → h.1 62 18 = nI q0 ∧ q0 < q) : ∃ h', qX12_later 62 (nI c) (nI q) h = some h' ∧ h'.1 62 17 = nI (if f = 0 then c else f) ∧ h'.1 62 18 = (if f = 0 then nI q else h.1 62 18) ∧ qFr (fun a k => a = 62 ∧ (k = 17 ∨ k = 18)) h h' := by
  by_cases z : f = 0
  · rw [if_pos z, if_pos z]
    rw [z] at e17
    refine ⟨qm_seti (qm_seti h 62 17 (nI c)) 62 18 (nI q), ?_, by rw [sI_ne (by omega)]; exact sI_eq _ _ _ _, sI_eq _ _ _ _, (qFr.seti (by omega)).trans (qFr.seti (by omega))⟩
    unfold qX12_later
    simp (disch := omega) only [↓reduceIte, ↓q_m1, ↓q_m2, k_o, k_0, k_1, k_2, k_3, k_4, k_5, k_6, k_7, k_8, k_9, k_10, k_11, k_16, k_17, k_19, k_20, k_24, k_26, k_27, k_30, k_32, k_33, k_35, k_40, k_43, k_48, k_50, k_57, k_60, k_64, k_81, k_86, k_34, k_66, k_322, k_97, k_99, k_100, k_122, k_128, k_160, k_161, k_255, k_256, k_512, k_580, k_600, k_1000, k_4096, k_far, k_o, nI_add, n_mul, n_sub, n_div, n_rem, n_lt, n_le, n_eq, n_cl, n_and, n_or, n_xor, m1_lt, lt_m1, m1_eq, eq_m1, le_m1, m1_le, m2_eq, up_eq, up_ne, n_shl, n_shr, b2_some, let_e, ob_some, bI_0, bI_a, bI_t, bI_f, if_true, if_false, ite_true, ite_false, true_and, and_true, false_and, and_false, true_or, or_true, false_or, or_false, not_true_eq_false, not_false_eq_true, ite_not, ne_eq, Bool.true_eq_false, Bool.false_eq_true, reduceCtorEq, decide_true, decide_false, Bool.and_true, Bool.and_false, Bool.true_and, Bool.false_and, Bool.or_true, Bool.or_false, Bool.not_true, Bool.not_false, Nat.add_zero, Nat.zero_add, eq_self, Nat.not_lt_zero, Nat.reduceAdd, Nat.reduceMul, Nat.reduceSub, Nat.reduceDiv, Nat.reduceMod, Nat.reduceAnd, Nat.reduceXor, Nat.reduceEqDiff, Nat.reducePow, lt_T, lt_F, le_T, le_F, eq_F, e17]
  · rw [if_neg z, if_neg z]
    obtain ⟨y1, y2⟩ := e18 z
    refine ⟨h, ?_, e17, rfl, qFr.refl _ _⟩
    unfold qX12_later
    simp (disch := omega) only [↓reduceIte, ↓q_m1, ↓q_m2, k_o, k_0, k_1, k_2, k_3, k_4, k_5, k_6, k_7, k_8, k_9, k_10, k_11, k_16, k_17, k_19, k_20, k_24, k_26, k_27, k_30, k_32, k_33, k_35, k_40, k_43, k_48, k_50, k_57, k_60, k_64, k_81, k_86, k_34, k_66, k_322, k_97, k_99, k_100, k_122, k_128, k_160, k_161, k_255, k_256, k_512, k_580, k_600, k_1000, k_4096, k_far, k_o, nI_add, n_mul, n_sub, n_div, n_rem, n_lt, n_le, n_eq, n_cl, n_and, n_or, n_xor, m1_lt, lt_m1, m1_eq, eq_m1, le_m1, m1_le, m2_eq, up_eq, up_ne, n_shl, n_shr, b2_some, let_e, ob_some, bI_0, bI_a, bI_t, bI_f, if_true, if_false, ite_true, ite_false, true_and, and_true, false_and, and_false, true_or, or_true, false_or, or_false, not_true_eq_false, not_false_eq_true, ite_not, ne_eq, Bool.true_eq_false, Bool.false_eq_true, reduceCtorEq, decide_true, decide_false, Bool.and_true, Bool.and_false, Bool.true_and, Bool.false_and, Bool.or_true, Bool.or_false, Bool.not_true, Bool.not_false, Nat.add_zero, Nat.zero_add, eq_self, Nat.not_lt_zero, Nat.reduceAdd, Nat.reduceMul, Nat.reduceSub, Nat.reduceDiv, Nat.reduceMod, Nat.reduceAnd, Nat.reduceXor, Nat.reduceEqDiff, Nat.reducePow, lt_T, lt_F, le_T, le_F, eq_F, e17, y1]
theorem m_note {B : Nat → Nat} {n c : Nat} {F : fl} {h : qm_H} (M : fM B n F h) (hc : c = 2 ∨ c = 3) : ∃ h', qX12_later 62 (nI c) (nI (tS B n F.1)) h = some h' ∧ fMw B n (fNote c (tS B n F.1) F) h' ∧ qFr (fun a k => a = 62 ∧ (k = 17 ∨ k = 18)) h h' := by
  obtain ⟨a1, a2, a3, a4, a5, a6, a7⟩ := M
  have hn := a1.1
  have s1 := t_S B a2
  obtain ⟨h', b1, b2, b3, b4⟩ := m_later (c := c) (q := tS B n F.1) a6 (by omega) (by omega) (by omega) a7
  refine ⟨h', b1, ?_, b4⟩
  have T : tpM B n h' := a1.mv (b4 _ _ (by omega)).1 (fun j => (b4 _ _ (by omega)).1)
  have K : tM B n F.1 h' := a5.mv (fun k hk => (b4 _ _ (by omega)).1) (b4 _ _ (by omega)).2
  unfold fNote
  by_cases z : F.2.1 = 0
  · rw [if_pos z] at b2 b3 ⊢
    refine ⟨T, a2, ?_, ?_, K, b2, fun _ => ⟨b3, Nat.le_refl _⟩⟩
    · show c ≠ 1
      omega
    · show c ≤ 3
      omega
  · rw [if_neg z] at b2 b3 ⊢
    refine ⟨T, a2, a3, a4, K, b2, fun _ => ⟨by rw [b3]; exact (a7 z).1, Nat.le_of_lt (a7 z).2⟩⟩
theorem m_fadv {B : Nat → Nat} {n : Nat} {F : fl} {h : qm_H} (M : fMw B n F h) (hk : tK B n F.1 ≠ 0) : ∃ h', qX12_token 62 h = some h' ∧ fM B n (fAdv B n F) h' ∧ qFr mtk h h' := by
  obtain ⟨a1, a2, a3, a4, a5, a6, a7⟩ := M
  have tk := t_K B n F.1
  have E1 := t_E B a2
  have s2 := t_S B E1.1
  obtain ⟨h', b1, b2, b3⟩ := m_tok (p := tE B n F.1) a1 E1.1 a5.1
  refine ⟨h', b1, ⟨a1.mv (b3 _ _ (by unfold mtk; omega)).1 (fun j => (b3 _ _ (by unfold mtk; omega)).1), E1.1, a3, a4, b2, ?_, fun z => ⟨?_, ?_⟩⟩, b3⟩
  · rw [(b3 _ _ (by unfold mtk; omega)).1]; exact a6
  · rw [(b3 _ _ (by unfold mtk; omega)).1]; exact (a7 z).1
  · have e := E1.2.2 (fun y => hk (tk.2.2.1.mpr y))
    have w := (a7 z).2
    show F.2.2 < tS B n (tE B n F.1)
    omega
theorem m_fails {B : Nat → Nat} {n : Nat} {F : fl} {h : qm_H} (M : fMw B n F h) : qX12_fails 62 h = some (nI 0, qm_seti h 62 16 (nI (tS B n F.1))) := by
  have e := M.2.2.2.2.1.2.1
  unfold qX12_fails
  simp (disch := omega) only [↓reduceIte, ↓q_m1, ↓q_m2, k_o, k_0, k_1, k_2, k_3, k_4, k_5, k_6, k_7, k_8, k_9, k_10, k_11, k_16, k_17, k_19, k_20, k_24, k_26, k_27, k_30, k_32, k_33, k_35, k_40, k_43, k_48, k_50, k_57, k_60, k_64, k_81, k_86, k_34, k_66, k_322, k_97, k_99, k_100, k_122, k_128, k_160, k_161, k_255, k_256, k_512, k_580, k_600, k_1000, k_4096, k_far, k_o, nI_add, n_mul, n_sub, n_div, n_rem, n_lt, n_le, n_eq, n_cl, n_and, n_or, n_xor, m1_lt, lt_m1, m1_eq, eq_m1, le_m1, m1_le, m2_eq, up_eq, up_ne, n_shl, n_shr, b2_some, let_e, ob_some, bI_0, bI_a, bI_t, bI_f, if_true, if_false, ite_true, ite_false, true_and, and_true, false_and, and_false, true_or, or_true, false_or, or_false, not_true_eq_false, not_false_eq_true, ite_not, ne_eq, Bool.true_eq_false, Bool.false_eq_true, reduceCtorEq, decide_true, decide_false, Bool.and_true, Bool.and_false, Bool.true_and, Bool.false_and, Bool.or_true, Bool.or_false, Bool.not_true, Bool.not_false, Nat.add_zero, Nat.zero_add, eq_self, Nat.not_lt_zero, Nat.reduceAdd, Nat.reduceMul, Nat.reduceSub, Nat.reduceDiv, Nat.reduceMod, Nat.reduceAnd, Nat.reduceXor, Nat.reduceEqDiff, Nat.reducePow, lt_T, lt_F, le_T, le_F, eq_F, e]
theorem fRef_1 (B : Nat → Nat) (n : Nat) {F : fl} (h : F.2.1 = 1) : fRef B n F = F := if_pos h
theorem fNum_1 (B : Nat → Nat) (n lo hi : Nat) {F : fl} (h : F.2.1 = 1) : (fNum B n lo hi F).2 = F := by
  unfold fNum
  rw [if_pos (Or.inl h)]
  exact fRef_1 B n h
theorem fNum_0 {B : Nat → Nat} {n lo hi : Nat} {F : fl} (h : (fNum B n lo hi F).2.2.1 = 0) : F.2.1 = 0 := by
  unfold fNum at h
  split at h
  · unfold fRef at h
    dsimp only at h
    split at h
    · exact h
    · exact absurd h (by show ¬ (1 = 0); omega)
  · split at h
    · unfold fAdv fNote at h
      dsimp only at h
      split at h
      · assumption
      · exact h
    · exact h
theorem fNum_p {B : Nat → Nat} {n lo hi : Nat} {F : fl} (hp : F.1 ≤ n) (h : (fNum B n lo hi F).2.2.1 ≠ 1) : F.2.1 ≠ 1 ∧ (fNum B n lo hi F).2.1 = tE B n F.1 ∧ F.1 ≤ tE B n F.1 := by
  have s1 := t_S B hp
  have E1 := t_E B hp
  unfold fNum at h ⊢
  split at h
  · unfold fRef at h
    dsimp only at h
    split at h
    · omega
    · exact absurd rfl h
  · rename_i q
    rw [if_neg q]
    split
    · refine ⟨by omega, ?_, by omega⟩
      unfold fAdv fNote
      dsimp only
      split <;> rfl
    · exact ⟨by omega, rfl, by omega⟩
/-- cells of the reference's reading -/
def mP (a k : Nat) : Prop := a = 62 ∧ (k = 10 ∨ (12 ≤ k ∧ k ≤ 18) ∨ k = 23)
def mT (j a k : Nat) : Prop := mP a k ∨ (a = 73 ∧ k = j)
theorem m_take {B : Nat → Nat} {n lo hi k : Nat} {F : fl} {h : qm_H} (M : fM B n F h) (hk : k < 4) (hlo : lo ≤ hi) (hhi : hi < 100) : ((fNum B n lo hi F).2.2.1 = 1 ∧ ∃ h', qX12_take 62 (nI k) (nI lo) (nI hi) h = some (nI 0, h') ∧ h'.1 62 16 = nI (fNum B n lo hi F).2.2.2 ∧ qFr (mT k) h h') ∨ ((fNum B n lo hi F).2.2.1 ≠ 1 ∧ ∃ v h', qX12_take 62 (nI k) (nI lo) (nI hi) h = some (nI 1, h') ∧ fM B n (fNum B n lo hi F).2 h' ∧ v < 100 ∧ h'.1 73 k = nI v ∧ ((fNum B n lo hi F).2.2.1 = 0 → v = (fNum B n lo hi F).1 ∧ h'.1 62 23 = h.1 62 23) ∧ qFr (mT k) h h') := by
  have M0 := M
  obtain ⟨a1, a2, a3, a4, a5, a6, a7⟩ := M
  have tk := t_K B n F.1
  have mk := mkd_r (tK B n F.1)
  have C13 := a5.2.2.1
  unfold fNum
  by_cases q : tK B n F.1 = 2
  · rw [if_neg (by omega)]
    have vl := tV_lt B q
    have C14 := a5.2.2.2.1 q
    rw [mk.2.2.2.1.mpr q] at C13
    have M1 : fM B n F (qm_seti h 73 k (nI (tV B n F.1))) := M0.mv (fun k _ _ _ => sI_ne (by omega)) rfl (fun j => sI_ne (by omega))
    have C12 := a5.2.1
    have fr1 : qFr (mT k) h (qm_seti h 73 k (nI (tV B n F.1))) := qFr.seti (Or.inr ⟨rfl, rfl⟩)
    by_cases v : tV B n F.1 < lo ∨ hi < tV B n F.1
    · rw [if_pos v]
      obtain ⟨h2, b1, b2, b3⟩ := m_note (c := 2) M1 (Or.inl rfl)
      have M2 : fMw B n (fNote 2 (tS B n F.1) F) (qm_seti h2 62 23 (nI 0)) := b2.mv (fun k _ _ _ => sI_ne (by omega)) rfl (fun j => sI_ne (by omega))
      have p1 : (fNote 2 (tS B n F.1) F).1 = F.1 := by unfold fNote; split <;> rfl
      obtain ⟨h3, d1, d2, d3⟩ := m_fadv M2 (by rw [p1]; omega)
      have nz : (fAdv B n (fNote 2 (tS B n F.1) F)).2.1 ≠ 0 := by
        unfold fAdv fNote
        dsimp only
        split
        · show ¬ (2 = 0); omega
        · assumption
      refine Or.inr ⟨M2.2.2.1, tV B n F.1, h3, ?_, d2, by omega, ?_, fun z => absurd z nz, ?_⟩
      · unfold qX12_take qX12_take_49
        by_cases v1 : tV B n F.1 < lo
        · simp (disch := omega) only [↓reduceIte, ↓q_m1, ↓q_m2, k_o, k_0, k_1, k_2, k_3, k_4, k_5, k_6, k_7, k_8, k_9, k_10, k_11, k_16, k_17, k_19, k_20, k_24, k_26, k_27, k_30, k_32, k_33, k_35, k_40, k_43, k_48, k_50, k_57, k_60, k_64, k_81, k_86, k_34, k_66, k_322, k_97, k_99, k_100, k_122, k_128, k_160, k_161, k_255, k_256, k_512, k_580, k_600, k_1000, k_4096, k_far, k_o, nI_add, n_mul, n_sub, n_div, n_rem, n_lt, n_le, n_eq, n_cl, n_and, n_or, n_xor, m1_lt, lt_m1, m1_eq, eq_m1, le_m1, m1_le, m2_eq, up_eq, up_ne, n_shl, n_shr, b2_some, let_e, ob_some, bI_0, bI_a, bI_t, bI_f, if_true, if_false, ite_true, ite_false, true_and, and_true, false_and, and_false, true_or, or_true, false_or, or_false, not_true_eq_false, not_false_eq_true, ite_not, ne_eq, Bool.true_eq_false, Bool.false_eq_true, reduceCtorEq, decide_true, decide_false, Bool.and_true, Bool.and_false, Bool.true_and, Bool.false_and, Bool.or_true, Bool.or_false, Bool.not_true, Bool.not_false, Nat.add_zero, Nat.zero_add, eq_self, Nat.not_lt_zero, Nat.reduceAdd, Nat.reduceMul, Nat.reduceSub, Nat.reduceDiv, Nat.reduceMod, Nat.reduceAnd, Nat.reduceXor, Nat.reduceEqDiff, Nat.reducePow, lt_T, lt_F, le_T, le_F, eq_F, C13, C14, m_in, C12, b1, d1]
        · have v2 : hi < tV B n F.1 := by omega
          simp (disch := omega) only [↓reduceIte, ↓q_m1, ↓q_m2, k_o, k_0, k_1, k_2, k_3, k_4, k_5, k_6, k_7, k_8, k_9, k_10, k_11, k_16, k_17, k_19, k_20, k_24, k_26, k_27, k_30, k_32, k_33, k_35, k_40, k_43, k_48, k_50, k_57, k_60, k_64, k_81, k_86, k_34, k_66, k_322, k_97, k_99, k_100, k_122, k_128, k_160, k_161, k_255, k_256, k_512, k_580, k_600, k_1000, k_4096, k_far, k_o, nI_add, n_mul, n_sub, n_div, n_rem, n_lt, n_le, n_eq, n_cl, n_and, n_or, n_xor, m1_lt, lt_m1, m1_eq, eq_m1, le_m1, m1_le, m2_eq, up_eq, up_ne, n_shl, n_shr, b2_some, let_e, ob_some, bI_0, bI_a, bI_t, bI_f, if_true, if_false, ite_true, ite_false, true_and, and_true, false_and, and_false, true_or, or_true, false_or, or_false, not_true_eq_false, not_false_eq_true, ite_not, ne_eq, Bool.true_eq_false, Bool.false_eq_true, reduceCtorEq, decide_true, decide_false, Bool.and_true, Bool.and_false, Bool.true_and, Bool.false_and, Bool.or_true, Bool.or_false, Bool.not_true, Bool.not_false, Nat.add_zero, Nat.zero_add, eq_self, Nat.not_lt_zero, Nat.reduceAdd, Nat.reduceMul, Nat.reduceSub, Nat.reduceDiv, Nat.reduceMod, Nat.reduceAnd, Nat.reduceXor, Nat.reduceEqDiff, Nat.reducePow, lt_T, lt_F, le_T, le_F, eq_F, C13, C14, m_in, C12, b1, d1]
      · rw [(d3 _ _ (by unfold mtk; omega)).1, sI_ne (by omega), (b3 _ _ (by omega)).1]
        exact sI_eq _ _ _ _
      · refine ((fr1.trans (b3.mono (fun a j z => Or.inl ?_))).trans (qFr.seti (Or.inl ?_))).trans (d3.mono (fun a j z => Or.inl ?_))
        · unfold mP; omega
        · unfold mP; omega
        · unfold mtk at z; unfold mP; omega
    · rw [if_neg v]
      obtain ⟨h3, d1, d2, d3⟩ := m_fadv M1.w (by omega)
      refine Or.inr ⟨a3, tV B n F.1, h3, ?_, d2, by omega, ?_, fun _ => ⟨rfl, ?_⟩, ?_⟩
      · unfold qX12_take qX12_take_49
        simp (disch := omega) only [↓reduceIte, ↓q_m1, ↓q_m2, k_o, k_0, k_1, k_2, k_3, k_4, k_5, k_6, k_7, k_8, k_9, k_10, k_11, k_16, k_17, k_19, k_20, k_24, k_26, k_27, k_30, k_32, k_33, k_35, k_40, k_43, k_48, k_50, k_57, k_60, k_64, k_81, k_86, k_34, k_66, k_322, k_97, k_99, k_100, k_122, k_128, k_160, k_161, k_255, k_256, k_512, k_580, k_600, k_1000, k_4096, k_far, k_o, nI_add, n_mul, n_sub, n_div, n_rem, n_lt, n_le, n_eq, n_cl, n_and, n_or, n_xor, m1_lt, lt_m1, m1_eq, eq_m1, le_m1, m1_le, m2_eq, up_eq, up_ne, n_shl, n_shr, b2_some, let_e, ob_some, bI_0, bI_a, bI_t, bI_f, if_true, if_false, ite_true, ite_false, true_and, and_true, false_and, and_false, true_or, or_true, false_or, or_false, not_true_eq_false, not_false_eq_true, ite_not, ne_eq, Bool.true_eq_false, Bool.false_eq_true, reduceCtorEq, decide_true, decide_false, Bool.and_true, Bool.and_false, Bool.true_and, Bool.false_and, Bool.or_true, Bool.or_false, Bool.not_true, Bool.not_false, Nat.add_zero, Nat.zero_add, eq_self, Nat.not_lt_zero, Nat.reduceAdd, Nat.reduceMul, Nat.reduceSub, Nat.reduceDiv, Nat.reduceMod, Nat.reduceAnd, Nat.reduceXor, Nat.reduceEqDiff, Nat.reducePow, lt_T, lt_F, le_T, le_F, eq_F, C13, C14, m_in, d1]
      · rw [(d3 _ _ (by unfold mtk; omega)).1]
        exact sI_eq _ _ _ _
      · rw [(d3 _ _ (by unfold mtk; omega)).1, sI_ne (by omega)]
      · refine fr1.trans (d3.mono (fun a j z => Or.inl ?_))
        unfold mtk at z; unfold mP; omega
  · rw [if_pos (Or.inr q)]
    have fl1 := m_fails M0.w
    have nr : fRef B n F = (F.1, 1, tS B n F.1) := if_neg a3
    rw [nr]
    refine Or.inl ⟨rfl, _, ?_, sI_eq _ _ _ _, qFr.seti (Or.inl (by unfold mP; omega))⟩
    unfold qX12_take
    simp (disch := omega) only [↓reduceIte, ↓q_m1, ↓q_m2, k_o, k_0, k_1, k_2, k_3, k_4, k_5, k_6, k_7, k_8, k_9, k_10, k_11, k_16, k_17, k_19, k_20, k_24, k_26, k_27, k_30, k_32, k_33, k_35, k_40, k_43, k_48, k_50, k_57, k_60, k_64, k_81, k_86, k_34, k_66, k_322, k_97, k_99, k_100, k_122, k_128, k_160, k_161, k_255, k_256, k_512, k_580, k_600, k_1000, k_4096, k_far, k_o, nI_add, n_mul, n_sub, n_div, n_rem, n_lt, n_le, n_eq, n_cl, n_and, n_or, n_xor, m1_lt, lt_m1, m1_eq, eq_m1, le_m1, m1_le, m2_eq, up_eq, up_ne, n_shl, n_shr, b2_some, let_e, ob_some, bI_0, bI_a, bI_t, bI_f, if_true, if_false, ite_true, ite_false, true_and, and_true, false_and, and_false, true_or, or_true, false_or, or_false, not_true_eq_false, not_false_eq_true, ite_not, ne_eq, Bool.true_eq_false, Bool.false_eq_true, reduceCtorEq, decide_true, decide_false, Bool.and_true, Bool.and_false, Bool.true_and, Bool.false_and, Bool.or_true, Bool.or_false, Bool.not_true, Bool.not_false, Nat.add_zero, Nat.zero_add, eq_self, Nat.not_lt_zero, Nat.reduceAdd, Nat.reduceMul, Nat.reduceSub, Nat.reduceDiv, Nat.reduceMod, Nat.reduceAnd, Nat.reduceXor, Nat.reduceEqDiff, Nat.reducePow, lt_T, lt_F, le_T, le_F, eq_F, C13, fl1]
theorem m_full {B : Nat → Nat} {n c m most : Nat} {F : fl} {h : qm_H} (M : fM B n F h) (hc : c < 161) (e : h.1 72 c = nI m) (hm : m ≤ most) (hm2 : most < 100) : ∃ h', qX12_full 62 (nI c) (nI most) (nI (tS B n F.1)) h = some h' ∧ fMw B n (if m < most then F else fNote 3 (tS B n F.1) F) h' ∧ qFr (fun a k => a = 62 ∧ (k = 17 ∨ k = 18)) h h' := by
  by_cases q : m < most
  · rw [if_pos q]
    refine ⟨h, ?_, M.w, qFr.refl _ _⟩
    unfold qX12_full
    simp (disch := omega) only [↓reduceIte, ↓q_m1, ↓q_m2, k_o, k_0, k_1, k_2, k_3, k_4, k_5, k_6, k_7, k_8, k_9, k_10, k_11, k_16, k_17, k_19, k_20, k_24, k_26, k_27, k_30, k_32, k_33, k_35, k_40, k_43, k_48, k_50, k_57, k_60, k_64, k_81, k_86, k_34, k_66, k_322, k_97, k_99, k_100, k_122, k_128, k_160, k_161, k_255, k_256, k_512, k_580, k_600, k_1000, k_4096, k_far, k_o, nI_add, n_mul, n_sub, n_div, n_rem, n_lt, n_le, n_eq, n_cl, n_and, n_or, n_xor, m1_lt, lt_m1, m1_eq, eq_m1, le_m1, m1_le, m2_eq, up_eq, up_ne, n_shl, n_shr, b2_some, let_e, ob_some, bI_0, bI_a, bI_t, bI_f, if_true, if_false, ite_true, ite_false, true_and, and_true, false_and, and_false, true_or, or_true, false_or, or_false, not_true_eq_false, not_false_eq_true, ite_not, ne_eq, Bool.true_eq_false, Bool.false_eq_true, reduceCtorEq, decide_true, decide_false, Bool.and_true, Bool.and_false, Bool.true_and, Bool.false_and, Bool.or_true, Bool.or_false, Bool.not_true, Bool.not_false, Nat.add_zero, Nat.zero_add, eq_self, Nat.not_lt_zero, Nat.reduceAdd, Nat.reduceMul, Nat.reduceSub, Nat.reduceDiv, Nat.reduceMod, Nat.reduceAnd, Nat.reduceXor, Nat.reduceEqDiff, Nat.reducePow, lt_T, lt_F, le_T, le_F, eq_F, e]
  · rw [if_neg q]
    obtain ⟨h', b1, b2, b3⟩ := m_note (c := 3) M (Or.inr rfl)
    obtain rfl : m = most := by omega
    refine ⟨h', ?_, b2, b3⟩
    unfold qX12_full
    simp (disch := omega) only [↓reduceIte, ↓q_m1, ↓q_m2, k_o, k_0, k_1, k_2, k_3, k_4, k_5, k_6, k_7, k_8, k_9, k_10, k_11, k_16, k_17, k_19, k_20, k_24, k_26, k_27, k_30, k_32, k_33, k_35, k_40, k_43, k_48, k_50, k_57, k_60, k_64, k_81, k_86, k_34, k_66, k_322, k_97, k_99, k_100, k_122, k_128, k_160, k_161, k_255, k_256, k_512, k_580, k_600, k_1000, k_4096, k_far, k_o, nI_add, n_mul, n_sub, n_div, n_rem, n_lt, n_le, n_eq, n_cl, n_and, n_or, n_xor, m1_lt, lt_m1, m1_eq, eq_m1, le_m1, m1_le, m2_eq, up_eq, up_ne, n_shl, n_shr, b2_some, let_e, ob_some, bI_0, bI_a, bI_t, bI_f, if_true, if_false, ite_true, ite_false, true_and, and_true, false_and, and_false, true_or, or_true, false_or, or_false, not_true_eq_false, not_false_eq_true, ite_not, ne_eq, Bool.true_eq_false, Bool.false_eq_true, reduceCtorEq, decide_true, decide_false, Bool.and_true, Bool.and_false, Bool.true_and, Bool.false_and, Bool.or_true, Bool.or_false, Bool.not_true, Bool.not_false, Nat.add_zero, Nat.zero_add, eq_self, Nat.not_lt_zero, Nat.reduceAdd, Nat.reduceMul, Nat.reduceSub, Nat.reduceDiv, Nat.reduceMod, Nat.reduceAnd, Nat.reduceXor, Nat.reduceEqDiff, Nat.reducePow, lt_T, lt_F, le_T, le_F, eq_F, e, b1]
/-- how far STROKES were told of: the reference begins with none -/
def farR (x : Nat) (y : Int32) : Prop := x < 100 ∧ (y = nI x ∨ (y = m1 ∧ x = 0))
theorem m_far {x v : Nat} {y : Int32} (f : farR x y) (hv : v < 100) (h : qm_H) : qX12_greater y (nI v) h = some (nI (max x v), h) := by
  obtain ⟨f0, f1 | ⟨f1, f2⟩⟩ := f
  · rw [f1]
    exact m_gr (by omega) (by omega) h
  · rw [f1, f2, show max 0 v = v by omega]
    unfold qX12_greater
    simp (disch := omega) only [↓reduceIte, ↓q_m1, ↓q_m2, k_o, k_0, k_1, k_2, k_3, k_4, k_5, k_6, k_7, k_8, k_9, k_10, k_11, k_16, k_17, k_19, k_20, k_24, k_26, k_27, k_30, k_32, k_33, k_35, k_40, k_43, k_48, k_50, k_57, k_60, k_64, k_81, k_86, k_34, k_66, k_322, k_97, k_99, k_100, k_122, k_128, k_160, k_161, k_255, k_256, k_512, k_580, k_600, k_1000, k_4096, k_far, k_o, nI_add, n_mul, n_sub, n_div, n_rem, n_lt, n_le, n_eq, n_cl, n_and, n_or, n_xor, m1_lt, lt_m1, m1_eq, eq_m1, le_m1, m1_le, m2_eq, up_eq, up_ne, n_shl, n_shr, b2_some, let_e, ob_some, bI_0, bI_a, bI_t, bI_f, if_true, if_false, ite_true, ite_false, true_and, and_true, false_and, and_false, true_or, or_true, false_or, or_false, not_true_eq_false, not_false_eq_true, ite_not, ne_eq, Bool.true_eq_false, Bool.false_eq_true, reduceCtorEq, decide_true, decide_false, Bool.and_true, Bool.and_false, Bool.true_and, Bool.false_and, Bool.or_true, Bool.or_false, Bool.not_true, Bool.not_false, Nat.add_zero, Nat.zero_add, eq_self, Nat.not_lt_zero, Nat.reduceAdd, Nat.reduceMul, Nat.reduceSub, Nat.reduceDiv, Nat.reduceMod, Nat.reduceAnd, Nat.reduceXor, Nat.reduceEqDiff, Nat.reducePow, lt_T, lt_F, le_T, le_F, eq_F]
theorem m_grx (a b : Int32) (h : qm_H) : ∃ z, qX12_greater a b h = some (z, h) := by
  unfold qX12_greater
  split
  · exact ⟨_, rfl⟩
  · exact ⟨_, rfl⟩
theorem farR.mx {x v : Nat} (hx : x < 100) (hv : v < 100) : farR (max x v) (nI (max x v)) := ⟨by omega, Or.inl rfl⟩
def mT2 (j a k : Nat) : Prop := mP a k ∨ (a = 73 ∧ (k = j ∨ k = j + 1)) ∨ (a = 62 ∧ (k = 21 ∨ k = 22))
theorem m_cell {B : Nat → Nat} {n k : Nat} {F : fl} {h : qm_H} (M : fM B n F h) (hk : k < 3) : ((fNum B n 0 7 (fNum B n 0 7 F).2).2.2.1 = 1 ∧ ∃ h', qX12_takeCell 62 (nI k) h = some (nI 0, h') ∧ h'.1 62 16 = nI (fNum B n 0 7 (fNum B n 0 7 F).2).2.2.2 ∧ qFr (mT2 k) h h') ∨ ((fNum B n 0 7 (fNum B n 0 7 F).2).2.2.1 ≠ 1 ∧ ∃ v1 v2 h', qX12_takeCell 62 (nI k) h = some (nI 1, h') ∧ fM B n (fNum B n 0 7 (fNum B n 0 7 F).2).2 h' ∧ v1 < 100 ∧ v2 < 100 ∧ h'.1 73 k = nI v1 ∧ h'.1 73 (k + 1) = nI v2 ∧ ((fNum B n 0 7 (fNum B n 0 7 F).2).2.2.1 = 0 → v1 = (fNum B n 0 7 F).1 ∧ v2 = (fNum B n 0 7 (fNum B n 0 7 F).2).1 ∧ h'.1 62 23 = h.1 62 23 ∧ ∀ x y, farR x (h.1 62 21) → farR y (h.1 62 22) → farR (max x v1) (h'.1 62 21) ∧ farR (max y v2) (h'.1 62 22)) ∧ qFr (mT2 k) h h') := by
  have mm : ∀ j a i, (j = k ∨ j = k + 1) → mT j a i → mT2 k a i := fun j a i hj z => by
    unfold mT at z
    unfold mT2
    rcases z with z | z
    · exact Or.inl z
    · exact Or.inr (Or.inl (by omega))
  rcases m_take (lo := 0) (hi := 7) M (show k < 4 by omega) (by omega) (by omega) with ⟨z, h1, b1, b2, b3⟩ | ⟨z, v1, h1, b1, b2, b3, b4, b5, b6⟩
  · rw [fNum_1 B n 0 7 z]
    refine Or.inl ⟨z, h1, ?_, b2, b3.mono (fun a i y => mm k a i (Or.inl rfl) y)⟩
    unfold qX12_takeCell
    simp (disch := omega) only [↓reduceIte, ↓q_m1, ↓q_m2, k_o, k_0, k_1, k_2, k_3, k_4, k_5, k_6, k_7, k_8, k_9, k_10, k_11, k_16, k_17, k_19, k_20, k_24, k_26, k_27, k_30, k_32, k_33, k_35, k_40, k_43, k_48, k_50, k_57, k_60, k_64, k_81, k_86, k_34, k_66, k_322, k_97, k_99, k_100, k_122, k_128, k_160, k_161, k_255, k_256, k_512, k_580, k_600, k_1000, k_4096, k_far, k_o, nI_add, n_mul, n_sub, n_div, n_rem, n_lt, n_le, n_eq, n_cl, n_and, n_or, n_xor, m1_lt, lt_m1, m1_eq, eq_m1, le_m1, m1_le, m2_eq, up_eq, up_ne, n_shl, n_shr, b2_some, let_e, ob_some, bI_0, bI_a, bI_t, bI_f, if_true, if_false, ite_true, ite_false, true_and, and_true, false_and, and_false, true_or, or_true, false_or, or_false, not_true_eq_false, not_false_eq_true, ite_not, ne_eq, Bool.true_eq_false, Bool.false_eq_true, reduceCtorEq, decide_true, decide_false, Bool.and_true, Bool.and_false, Bool.true_and, Bool.false_and, Bool.or_true, Bool.or_false, Bool.not_true, Bool.not_false, Nat.add_zero, Nat.zero_add, eq_self, Nat.not_lt_zero, Nat.reduceAdd, Nat.reduceMul, Nat.reduceSub, Nat.reduceDiv, Nat.reduceMod, Nat.reduceAnd, Nat.reduceXor, Nat.reduceEqDiff, Nat.reducePow, lt_T, lt_F, le_T, le_F, eq_F, b1]
  · rcases m_take (lo := 0) (hi := 7) b2 (show k + 1 < 4 by omega) (by omega) (by omega) with ⟨z2, h2, d1, d2, d3⟩ | ⟨z2, v2, h2, d1, d2, d3, d4, d5, d6⟩
    · refine Or.inl ⟨z2, h2, ?_, d2, (b6.mono (fun a i y => mm k a i (Or.inl rfl) y)).trans (d3.mono (fun a i y => mm (k + 1) a i (Or.inr rfl) y))⟩
      unfold qX12_takeCell
      simp (disch := omega) only [↓reduceIte, ↓q_m1, ↓q_m2, k_o, k_0, k_1, k_2, k_3, k_4, k_5, k_6, k_7, k_8, k_9, k_10, k_11, k_16, k_17, k_19, k_20, k_24, k_26, k_27, k_30, k_32, k_33, k_35, k_40, k_43, k_48, k_50, k_57, k_60, k_64, k_81, k_86, k_34, k_66, k_322, k_97, k_99, k_100, k_122, k_128, k_160, k_161, k_255, k_256, k_512, k_580, k_600, k_1000, k_4096, k_far, k_o, nI_add, n_mul, n_sub, n_div, n_rem, n_lt, n_le, n_eq, n_cl, n_and, n_or, n_xor, m1_lt, lt_m1, m1_eq, eq_m1, le_m1, m1_le, m2_eq, up_eq, up_ne, n_shl, n_shr, b2_some, let_e, ob_some, bI_0, bI_a, bI_t, bI_f, if_true, if_false, ite_true, ite_false, true_and, and_true, false_and, and_false, true_or, or_true, false_or, or_false, not_true_eq_false, not_false_eq_true, ite_not, ne_eq, Bool.true_eq_false, Bool.false_eq_true, reduceCtorEq, decide_true, decide_false, Bool.and_true, Bool.and_false, Bool.true_and, Bool.false_and, Bool.or_true, Bool.or_false, Bool.not_true, Bool.not_false, Nat.add_zero, Nat.zero_add, eq_self, Nat.not_lt_zero, Nat.reduceAdd, Nat.reduceMul, Nat.reduceSub, Nat.reduceDiv, Nat.reduceMod, Nat.reduceAnd, Nat.reduceXor, Nat.reduceEqDiff, Nat.reducePow, lt_T, lt_F, le_T, le_F, eq_F, b1, d1]
    · have r1 : h2.1 73 k = nI v1 := by rw [(d6 _ _ (by unfold mT mP; omega)).1]; exact b4
      obtain ⟨x1, g1⟩ := m_grx (h2.1 62 21) (nI v1) h2
      obtain ⟨x2, g2⟩ := m_grx (h2.1 62 22) (nI v2) (qm_seti h2 62 21 x1)
      refine Or.inr ⟨z2, v1, v2, qm_seti (qm_seti h2 62 21 x1) 62 22 x2, ?_, d2.mv (fun k _ _ _ => by rw [sI_ne (by omega), sI_ne (by omega)]) rfl (fun j => by rw [sI_ne (by omega), sI_ne (by omega)]), b3, d3, ?_, ?_, fun z3 => ?_, ?_⟩
      · unfold qX12_takeCell
        simp (disch := omega) only [↓reduceIte, ↓q_m1, ↓q_m2, k_o, k_0, k_1, k_2, k_3, k_4, k_5, k_6, k_7, k_8, k_9, k_10, k_11, k_16, k_17, k_19, k_20, k_24, k_26, k_27, k_30, k_32, k_33, k_35, k_40, k_43, k_48, k_50, k_57, k_60, k_64, k_81, k_86, k_34, k_66, k_322, k_97, k_99, k_100, k_122, k_128, k_160, k_161, k_255, k_256, k_512, k_580, k_600, k_1000, k_4096, k_far, k_o, nI_add, n_mul, n_sub, n_div, n_rem, n_lt, n_le, n_eq, n_cl, n_and, n_or, n_xor, m1_lt, lt_m1, m1_eq, eq_m1, le_m1, m1_le, m2_eq, up_eq, up_ne, n_shl, n_shr, b2_some, let_e, ob_some, bI_0, bI_a, bI_t, bI_f, if_true, if_false, ite_true, ite_false, true_and, and_true, false_and, and_false, true_or, or_true, false_or, or_false, not_true_eq_false, not_false_eq_true, ite_not, ne_eq, Bool.true_eq_false, Bool.false_eq_true, reduceCtorEq, decide_true, decide_false, Bool.and_true, Bool.and_false, Bool.true_and, Bool.false_and, Bool.or_true, Bool.or_false, Bool.not_true, Bool.not_false, Nat.add_zero, Nat.zero_add, eq_self, Nat.not_lt_zero, Nat.reduceAdd, Nat.reduceMul, Nat.reduceSub, Nat.reduceDiv, Nat.reduceMod, Nat.reduceAnd, Nat.reduceXor, Nat.reduceEqDiff, Nat.reducePow, lt_T, lt_F, le_T, le_F, eq_F, b1, d1, r1, d4, g1, g2]
      · rw [sI_ne (by omega), sI_ne (by omega)]; exact r1
      · rw [sI_ne (by omega), sI_ne (by omega)]; exact d4
      · have w2 := d5 z3
        have w1 := b5 (fNum_0 z3)
        refine ⟨w1.1, w2.1, ?_, fun x y fx fy => ?_⟩
        · rw [sI_ne (by omega), sI_ne (by omega), w2.2, w1.2]
        · have e21 : h2.1 62 21 = h.1 62 21 := by rw [(d6 _ _ (by unfold mT mP; omega)).1, (b6 _ _ (by unfold mT mP; omega)).1]
          have e22 : h2.1 62 22 = h.1 62 22 := by rw [(d6 _ _ (by unfold mT mP; omega)).1, (b6 _ _ (by unfold mT mP; omega)).1]
          rw [e21, m_far fx b3] at g1
          rw [e22, m_far fy d3] at g2
          have i1 : x1 = nI (max x v1) := (congrArg Prod.fst (Option.some.inj g1)).symm
          have i2 : x2 = nI (max y v2) := (congrArg Prod.fst (Option.some.inj g2)).symm
          rw [sI_ne (by omega), sI_eq, sI_eq, i1, i2]
          exact ⟨farR.mx fx.1 b3, farR.mx fy.1 d3⟩
      · refine ((b6.mono (fun a i y => mm k a i (Or.inl rfl) y)).trans (d6.mono (fun a i y => mm (k + 1) a i (Or.inr rfl) y))).trans ((qFr.seti ?_).trans (qFr.seti ?_))
        · unfold mT2; omega
        · unfold mT2; omega
