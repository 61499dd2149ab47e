/-! cutting: fewest rods; kept. -/
section KP
variable {π : qQ} {b i f : Nat}
theorem Wt_0 (P : Nat → Nat) : Wt P 0 = 0 := by
  unfold Wt
  rw [fb_sm_cong (g := fun _ => 0) (fun i _ => by rw [Nat.zero_testBit]; rfl), fb_sm_const]
theorem rC_0 {r t v : Nat} : rC π (fun _ => 0) f r t v ↔ cC (pO π 0) (pR π) (pri π f) r t v := by
  unfold rC cC kRd
  rw [Nat.or_zero]
  by_cases q : t = 0
  · subst q
    rw [Wt_0, if_pos rfl]
    constructor
    · rintro ⟨_, h⟩
      exact Or.inl ⟨rfl, h⟩
    · rintro (⟨_, h⟩ | ⟨h, _⟩)
      · exact ⟨Nat.zero_le _, h⟩
      · exact absurd rfl h
  · rw [if_neg q]
    constructor
    · rintro ⟨h1, h2⟩
      exact Or.inr ⟨q, h1, h2⟩
    · rintro (⟨h, _⟩ | ⟨_, h1, h2⟩)
      · exact absurd h q
      · exact ⟨h1, h2⟩
theorem rC_0' : rC π (fun _ => 0) f = cC (pO π 0) (pR π) (pri π f) := by
  funext r t v
  exact propext rC_0
theorem ED {E D : Nat → Nat} {h1 h2 : qm_H} (hE : tabE (pO π 0) (pR π) (pri π f) (pn π) (2 ^ pp π - 1) E h1) (hD : tD π (fun _ => 0) f 0 D h2) {s : Nat} (hs : s < 2 ^ pp π) : E s = D s := by
  have a := (hE s (by omega)).2
  have b := (hD s hs).2
  rw [Nat.sub_zero, rC_0'] at b
  exact lea.one a b (fun v => At_eq)
theorem c_whole_l (k : pOK π) (hb : b + 2 < 53) {h0 : qm_H} (C : pC b π h0) (hf1 : f ≤ 1) : ∀ d r h fuel, r + d = pn π → d < fuel → qFr (fun a _ => a = 54 ∨ a = 55) h0 h → (∀ j, j < r → h.1 54 j = nI (pR π j) ∧ h.1 55 j = nI (pri π f j)) → ∃ h', qFr (fun a _ => a = 54 ∨ a = 55) h0 h' ∧ (∀ j, j < pn π → h'.1 54 j = nI (pR π j) ∧ h'.1 55 j = nI (pri π f j)) ∧ qX4_wholeRods_2 fuel 53 b (nI f) (nI r) h = some h' := by
  have hn := k.1
  intro d
  induction d with
  | zero =>
    intro r h fuel hr hf F A
    obtain ⟨g, rfl⟩ : ∃ g, fuel = g + 1 := ⟨fuel - 1, by omega⟩
    have C1 : pC b π h := C.mv (fun q k _ _ => (F q k (by omega)).1)
    refine ⟨h, F, fun j hj => A j (by omega), ?_⟩
    unfold qX4_wholeRods_2
    simp (disch := omega) only [↓reduceIte, ↓q_m1, ↓q_m2, k_o, k_0, k_1, k_2, k_3, k_4, k_5, k_6, k_7, k_8, k_9, k_10, k_11, k_16, k_17, k_19, k_20, k_24, k_26, k_27, k_30, k_32, k_33, k_35, k_40, k_43, k_48, k_50, k_57, k_60, k_64, k_81, k_86, k_34, k_66, k_322, k_97, k_99, k_100, k_122, k_128, k_160, k_161, k_255, k_256, k_512, k_580, k_600, k_1000, k_4096, k_far, k_o, nI_add, n_mul, n_sub, n_div, n_rem, n_lt, n_le, n_eq, n_cl, n_and, n_or, n_xor, m1_lt, lt_m1, m1_eq, eq_m1, le_m1, m1_le, m2_eq, up_eq, up_ne, n_shl, n_shr, b2_some, let_e, ob_some, bI_0, bI_a, bI_t, bI_f, if_true, if_false, ite_true, ite_false, true_and, and_true, false_and, and_false, true_or, or_true, false_or, or_false, not_true_eq_false, not_false_eq_true, ite_not, ne_eq, Bool.true_eq_false, Bool.false_eq_true, reduceCtorEq, decide_true, decide_false, Bool.and_true, Bool.and_false, Bool.true_and, Bool.false_and, Bool.or_true, Bool.or_false, Bool.not_true, Bool.not_false, Nat.add_zero, Nat.zero_add, eq_self, Nat.not_lt_zero, Nat.reduceAdd, Nat.reduceMul, Nat.reduceSub, Nat.reduceDiv, Nat.reduceMod, Nat.reduceAnd, Nat.reduceXor, Nat.reduceEqDiff, Nat.reducePow, lt_T, lt_F, le_T, le_F, eq_F, C1.1]
  | succ d ih =>
    intro r h fuel hr hf F A
    obtain ⟨g, rfl⟩ : ∃ g, fuel = g + 1 := ⟨fuel - 1, by omega⟩
    have C1 : pC b π h := C.mv (fun q k _ _ => (F q k (by omega)).1)
    have rr := C1.2.2.2.1 r (by omega)
    have step : ∃ h', qFr (fun a _ => a = 54 ∨ a = 55) h0 h' ∧ (∀ j, j < pn π → h'.1 54 j = nI (pR π j) ∧ h'.1 55 j = nI (pri π f j)) ∧ qX4_wholeRods_2 g 53 b (nI f) (nI (r + 1)) (qm_seti (qm_seti h 54 r (nI (pR π r))) 55 r (nI (pri π f r))) = some h' := ih (r + 1) _ g (by omega) (by omega) ((F.trans (qFr.seti (Or.inl rfl))).trans (qFr.seti (Or.inr rfl))) (fun j hj => by
      by_cases y : j = r
      · subst y
        rw [sI_ne (by omega), sI_eq, sI_eq]
        exact ⟨rfl, rfl⟩
      · rw [sI_ne (by omega), sI_ne (by omega), sI_ne (by omega), sI_ne (by omega)]
        exact A j (by omega))
    obtain ⟨h', p1, p2, p3⟩ := step
    refine ⟨h', p1, p2, ?_⟩
    unfold pri at p3
    unfold qX4_wholeRods_2
    by_cases f0 : f = 0
    · subst f0
      rw [if_pos rfl] at p3
      simp (disch := omega) only [↓reduceIte, ↓q_m1, ↓q_m2, k_o, k_0, k_1, k_2, k_3, k_4, k_5, k_6, k_7, k_8, k_9, k_10, k_11, k_16, k_17, k_19, k_20, k_24, k_26, k_27, k_30, k_32, k_33, k_35, k_40, k_43, k_48, k_50, k_57, k_60, k_64, k_81, k_86, k_34, k_66, k_322, k_97, k_99, k_100, k_122, k_128, k_160, k_161, k_255, k_256, k_512, k_580, k_600, k_1000, k_4096, k_far, k_o, nI_add, n_mul, n_sub, n_div, n_rem, n_lt, n_le, n_eq, n_cl, n_and, n_or, n_xor, m1_lt, lt_m1, m1_eq, eq_m1, le_m1, m1_le, m2_eq, up_eq, up_ne, n_shl, n_shr, b2_some, let_e, ob_some, bI_0, bI_a, bI_t, bI_f, if_true, if_false, ite_true, ite_false, true_and, and_true, false_and, and_false, true_or, or_true, false_or, or_false, not_true_eq_false, not_false_eq_true, ite_not, ne_eq, Bool.true_eq_false, Bool.false_eq_true, reduceCtorEq, decide_true, decide_false, Bool.and_true, Bool.and_false, Bool.true_and, Bool.false_and, Bool.or_true, Bool.or_false, Bool.not_true, Bool.not_false, Nat.add_zero, Nat.zero_add, eq_self, Nat.not_lt_zero, Nat.reduceAdd, Nat.reduceMul, Nat.reduceSub, Nat.reduceDiv, Nat.reduceMod, Nat.reduceAnd, Nat.reduceXor, Nat.reduceEqDiff, Nat.reducePow, lt_T, lt_F, le_T, le_F, eq_F, C1.1, rr]
      exact p3
    · rw [if_neg f0] at p3
      have rr2 : (qm_seti h 54 r (nI (pR π r))).1 (b + 1) r = nI (pR π r) := by rw [sI_ne (by omega)]; exact rr
      simp (disch := omega) only [↓reduceIte, ↓q_m1, ↓q_m2, k_o, k_0, k_1, k_2, k_3, k_4, k_5, k_6, k_7, k_8, k_9, k_10, k_11, k_16, k_17, k_19, k_20, k_24, k_26, k_27, k_30, k_32, k_33, k_35, k_40, k_43, k_48, k_50, k_57, k_60, k_64, k_81, k_86, k_34, k_66, k_322, k_97, k_99, k_100, k_122, k_128, k_160, k_161, k_255, k_256, k_512, k_580, k_600, k_1000, k_4096, k_far, k_o, nI_add, n_mul, n_sub, n_div, n_rem, n_lt, n_le, n_eq, n_cl, n_and, n_or, n_xor, m1_lt, lt_m1, m1_eq, eq_m1, le_m1, m1_le, m2_eq, up_eq, up_ne, n_shl, n_shr, b2_some, let_e, ob_some, bI_0, bI_a, bI_t, bI_f, if_true, if_false, ite_true, ite_false, true_and, and_true, false_and, and_false, true_or, or_true, false_or, or_false, not_true_eq_false, not_false_eq_true, ite_not, ne_eq, Bool.true_eq_false, Bool.false_eq_true, reduceCtorEq, decide_true, decide_false, Bool.and_true, Bool.and_false, Bool.true_and, Bool.false_and, Bool.or_true, Bool.or_false, Bool.not_true, Bool.not_false, Nat.add_zero, Nat.zero_add, eq_self, Nat.not_lt_zero, Nat.reduceAdd, Nat.reduceMul, Nat.reduceSub, Nat.reduceDiv, Nat.reduceMod, Nat.reduceAnd, Nat.reduceXor, Nat.reduceEqDiff, Nat.reducePow, lt_T, lt_F, le_T, le_F, eq_F, C1.1, rr, rr2, eq_false f0]
      exact p3
theorem c_whole (k : pOK π) (hb : b + 2 < 53) {h : qm_H} (C : pC b π h) (hf1 : f ≤ 1) : ∃ h', qFr (fun a _ => a = 54 ∨ a = 55) h h' ∧ (∀ j, j < pn π → h'.1 54 j = nI (pR π j) ∧ h'.1 55 j = nI (pri π f j)) ∧ qX4_wholeRods 53 b (nI f) h = some h' := by
  have hn := k.1
  unfold qX4_wholeRods
  exact c_whole_l k hb C hf1 (pn π) 0 h qm_N (by omega) (by unfold qm_N; omega) (qFr.refl _ h) (fun j hj => absurd hj (Nat.not_lt_zero j))
theorem pri_le (k : pOK π) {r : Nat} (hr : r < pn π) : pR π r ≤ 1000 ∧ pri π f r ≤ 1000 := by
  have := (k.2.2.2.2.1 r hr).2
  unfold pri
  split <;> omega
def frS (a _q : Nat) : Prop := 54 ≤ a ∧ a ≤ 57
/-- whole rods, all pieces: the class -/
theorem c_wpack (k : pOK π) (hb : b + 2 < 53) {h : qm_H} (C : pC b π h) (hf1 : f ≤ 1) : ∃ h1 E h2, qX4_wholeRods 53 b (nI f) h = some h1 ∧ qX4_pack 53 b (nI 0) h1 = some (nI (E (2 ^ pp π - 1)), h2) ∧ qFr frS h h2 ∧ tabE (pO π 0) (pR π) (pri π f) (pn π) (2 ^ pp π - 1) E h2 ∧ (∀ m, m ≤ 2 ^ pp π - 1 → h2.1 56 m = nI (Wt (pO π 0) m)) ∧ (∀ j, j < pn π → h2.1 54 j = nI (pR π j) ∧ h2.1 55 j = nI (pri π f j)) := by
  obtain ⟨h1, p1, p2, p3⟩ := c_whole k hb C hf1
  have C1 : pC b π h1 := C.mv (fun q k _ _ => (p1 q k (by omega)).1)
  obtain ⟨E, h2, q1, q2, q3, q4⟩ := c_pack k C1 hb (Nat.zero_le _) (fun r hr => pri_le (f := f) k hr) p2
  rw [Nat.sub_zero] at q2 q3 q4
  exact ⟨h1, E, h2, p3, q4, (p1.mono (fun a q z => by unfold frS; omega)).trans (q1.mono (fun a q z => by unfold frS; omega)), q2, q3, fun j hj => by rw [(q1 54 j (by omega)).1, (q1 55 j (by omega)).1]; exact p2 j hj⟩
theorem m_cAll_l (k : pOK π) (hi : i < 2) (hf1 : f ≤ 1) {h0 : qm_H} (M : pM i π h0) : ∀ d r h fuel, r + d = 6 → d < fuel → qFr (fun a _ => a = 83) h0 h → (∀ j, j < r → h.1 83 j = nI 0) → ∃ D h', qFr (fun a _ => a = 83 ∨ a = 84) h0 h' ∧ tD π (fun _ => 0) f 0 D h' ∧ (∀ j, j < 6 → h'.1 83 j = nI 0) ∧ qX12_costAll_2 fuel 62 (nI f) (nI r) h = some (nI (D (2 ^ pp π - 1)), h') := by
  have hn := k.1
  have hp : pp π ≤ 8 := k.2.1
  have hM := q_256 hp
  have hM1 := Nat.two_pow_pos (pp π)
  intro d
  induction d with
  | zero =>
    intro r h fuel hr hf F A
    obtain ⟨g, rfl⟩ : ∃ g, fuel = g + 1 := ⟨fuel - 1, by omega⟩
    have M1 : pM i π h := M.mv (fun q _ _ => (F 62 q (by omega)).1) (fun q => (F 70 q (by omega)).1)
    obtain ⟨D, h', p1, p2, p3⟩ := m_fcosts (mu := fun _ => 0) k hi hf1 M1 (fun r hr => ⟨by omega, A r (by omega)⟩)
    refine ⟨D, h', (F.mono (fun a q z => Or.inl z)).trans (p1.mono (fun a q z => Or.inr z)), p2, fun j hj => by rw [(p1 83 j (by omega)).1]; exact A j (by omega), ?_⟩
    have e42 : h'.1 62 42 = nI (pp π) := by rw [(p1 62 42 (by omega)).1]; exact M1.2.2.1
    have v := (p2 (2 ^ pp π - 1) (by omega)).1
    rw [Nat.mul_zero, Nat.zero_add] at v
    unfold qX12_costAll_2
    simp (disch := omega) only [↓reduceIte, ↓q_m1, ↓q_m2, k_o, k_0, k_1, k_2, k_3, k_4, k_5, k_6, k_7, k_8, k_9, k_10, k_11, k_16, k_17, k_19, k_20, k_24, k_26, k_27, k_30, k_32, k_33, k_35, k_40, k_43, k_48, k_50, k_57, k_60, k_64, k_81, k_86, k_34, k_66, k_322, k_97, k_99, k_100, k_122, k_128, k_160, k_161, k_255, k_256, k_512, k_580, k_600, k_1000, k_4096, k_far, k_o, nI_add, n_mul, n_sub, n_div, n_rem, n_lt, n_le, n_eq, n_cl, n_and, n_or, n_xor, m1_lt, lt_m1, m1_eq, eq_m1, le_m1, m1_le, m2_eq, up_eq, up_ne, n_shl, n_shr, b2_some, let_e, ob_some, bI_0, bI_a, bI_t, bI_f, if_true, if_false, ite_true, ite_false, true_and, and_true, false_and, and_false, true_or, or_true, false_or, or_false, not_true_eq_false, not_false_eq_true, ite_not, ne_eq, Bool.true_eq_false, Bool.false_eq_true, reduceCtorEq, decide_true, decide_false, Bool.and_true, Bool.and_false, Bool.true_and, Bool.false_and, Bool.or_true, Bool.or_false, Bool.not_true, Bool.not_false, Nat.add_zero, Nat.zero_add, eq_self, Nat.not_lt_zero, Nat.reduceAdd, Nat.reduceMul, Nat.reduceSub, Nat.reduceDiv, Nat.reduceMod, Nat.reduceAnd, Nat.reduceXor, Nat.reduceEqDiff, Nat.reducePow, lt_T, lt_F, le_T, le_F, eq_F, p3, e42, Nat.one_mul, v]
  | succ d ih =>
    intro r h fuel hr hf F A
    obtain ⟨g, rfl⟩ : ∃ g, fuel = g + 1 := ⟨fuel - 1, by omega⟩
    obtain ⟨D, h', p1, p2, p3, p4⟩ := ih (r + 1) (qm_seti h 83 r (nI 0)) g (by omega) (by omega) (F.trans (qFr.seti rfl)) (fun j hj => by
      by_cases y : j = r
      · subst y
        rw [sI_eq]
      · rw [sI_ne (by omega)]
        exact A j (by omega))
    refine ⟨D, h', p1, p2, p3, ?_⟩
    unfold qX12_costAll_2
    simp (disch := omega) only [↓reduceIte, ↓q_m1, ↓q_m2, k_o, k_0, k_1, k_2, k_3, k_4, k_5, k_6, k_7, k_8, k_9, k_10, k_11, k_16, k_17, k_19, k_20, k_24, k_26, k_27, k_30, k_32, k_33, k_35, k_40, k_43, k_48, k_50, k_57, k_60, k_64, k_81, k_86, k_34, k_66, k_322, k_97, k_99, k_100, k_122, k_128, k_160, k_161, k_255, k_256, k_512, k_580, k_600, k_1000, k_4096, k_far, k_o, nI_add, n_mul, n_sub, n_div, n_rem, n_lt, n_le, n_eq, n_cl, n_and, n_or, n_xor, m1_lt, lt_m1, m1_eq, eq_m1, le_m1, m1_le, m2_eq, up_eq, up_ne, n_shl, n_shr, b2_some, let_e, ob_some, bI_0, bI_a, bI_t, bI_f, if_true, if_false, ite_true, ite_false, true_and, and_true, false_and, and_false, true_or, or_true, false_or, or_false, not_true_eq_false, not_false_eq_true, ite_not, ne_eq, Bool.true_eq_false, Bool.false_eq_true, reduceCtorEq, decide_true, decide_false, Bool.and_true, Bool.and_false, Bool.true_and, Bool.false_and, Bool.or_true, Bool.or_false, Bool.not_true, Bool.not_false, Nat.add_zero, Nat.zero_add, eq_self, Nat.not_lt_zero, Nat.reduceAdd, Nat.reduceMul, Nat.reduceSub, Nat.reduceDiv, Nat.reduceMod, Nat.reduceAnd, Nat.reduceXor, Nat.reduceEqDiff, Nat.reducePow, lt_T, lt_F, le_T, le_F, eq_F]
    exact p4
theorem m_costAll (k : pOK π) (hi : i < 2) (hf1 : f ≤ 1) {h : qm_H} (M : pM i π h) : ∃ D h', qFr (fun a _ => a = 83 ∨ a = 84) h h' ∧ tD π (fun _ => 0) f 0 D h' ∧ (∀ j, j < 6 → h'.1 83 j = nI 0) ∧ qX12_costAll 62 (nI f) h = some (nI (D (2 ^ pp π - 1)), h') := by
  unfold qX12_costAll
  exact m_cAll_l k hi hf1 M 6 0 h qm_N (by omega) (by unfold qm_N; omega) (qFr.refl _ h) (fun j hj => absurd hj (Nat.not_lt_zero j))
end KP
theorem fr_R {h h' : qm_H} (R : qR h) (F : qFr frS h h') : qE h h' ∧ qR h' := by
  have E3 : qE h h' := F.mono (fun a q z => by unfold frS at z; unfold qScr; omega)
  exact ⟨E3, R.mv E3 (R.2.2.mv (fun a q z => (F a q (by unfold frS; omega)).1))⟩
theorem P_28 : ∀ h, qR h → ∀ x1 : Int32, ∃ (r : Int32) (h1 h2 : qm_H), qX11_kept 0 x1 h = some (r, h1) ∧ qX12_kept 62 x1 h1 = some (r, h2) ∧ qR h2 := by
  intro h R x1
  have hE := e0 (qFr.refl qScr h)
  rcases c_par R x1 with ⟨y1, y2⟩ | ⟨i, π, hi, rfl, k, C, y1, y2⟩
  · obtain ⟨h2, w1, w2⟩ := y2 _ hE
    refine ⟨m1, h, h2, ?_, ?_, R.mvm ((em0 h).trans (qPd.e w2))⟩
    · unfold qX11_kept
      simp (disch := omega) only [↓q_m1, ↓q_m2, k_o, k_0, k_1, k_2, k_3, k_4, k_5, k_6, k_7, k_8, k_9, k_10, k_11, k_16, k_17, k_19, k_20, k_24, k_26, k_27, k_30, k_32, k_33, k_35, k_40, k_43, k_48, k_50, k_57, k_60, k_64, k_81, k_86, k_34, k_66, k_322, k_97, k_99, k_100, k_122, k_128, k_160, k_161, k_255, k_256, k_512, k_580, k_600, k_1000, k_4096, k_far, k_o, nI_add, n_mul, n_sub, n_div, n_rem, n_lt, n_le, n_eq, n_cl, n_and, n_or, n_xor, m1_lt, lt_m1, m1_eq, eq_m1, le_m1, m1_le, m2_eq, up_eq, up_ne, n_shl, n_shr, b2_some, let_e, ob_some, bI_0, bI_a, bI_t, bI_f, if_true, if_false, ite_true, ite_false, true_and, and_true, false_and, and_false, true_or, or_true, false_or, or_false, not_true_eq_false, not_false_eq_true, ite_not, ne_eq, Bool.true_eq_false, Bool.false_eq_true, reduceCtorEq, decide_true, decide_false, Bool.and_true, Bool.and_false, Bool.true_and, Bool.false_and, Bool.or_true, Bool.or_false, Bool.not_true, Bool.not_false, Nat.add_zero, Nat.zero_add, eq_self, Nat.not_lt_zero, Nat.reduceAdd, Nat.reduceMul, Nat.reduceSub, Nat.reduceDiv, Nat.reduceMod, Nat.reduceAnd, Nat.reduceXor, Nat.reduceEqDiff, Nat.reducePow, y1, om_n]
    · unfold qX12_kept
      simp (disch := omega) only [↓q_m1, ↓q_m2, k_o, k_0, k_1, k_2, k_3, k_4, k_5, k_6, k_7, k_8, k_9, k_10, k_11, k_16, k_17, k_19, k_20, k_24, k_26, k_27, k_30, k_32, k_33, k_35, k_40, k_43, k_48, k_50, k_57, k_60, k_64, k_81, k_86, k_34, k_66, k_322, k_97, k_99, k_100, k_122, k_128, k_160, k_161, k_255, k_256, k_512, k_580, k_600, k_1000, k_4096, k_far, k_o, nI_add, n_mul, n_sub, n_div, n_rem, n_lt, n_le, n_eq, n_cl, n_and, n_or, n_xor, m1_lt, lt_m1, m1_eq, eq_m1, le_m1, m1_le, m2_eq, up_eq, up_ne, n_shl, n_shr, b2_some, let_e, ob_some, bI_0, bI_a, bI_t, bI_f, if_true, if_false, ite_true, ite_false, true_and, and_true, false_and, and_false, true_or, or_true, false_or, or_false, not_true_eq_false, not_false_eq_true, ite_not, ne_eq, Bool.true_eq_false, Bool.false_eq_true, reduceCtorEq, decide_true, decide_false, Bool.and_true, Bool.and_false, Bool.true_and, Bool.false_and, Bool.or_true, Bool.or_false, Bool.not_true, Bool.not_false, Nat.add_zero, Nat.zero_add, eq_self, Nat.not_lt_zero, Nat.reduceAdd, Nat.reduceMul, Nat.reduceSub, Nat.reduceDiv, Nat.reduceMod, Nat.reduceAnd, Nat.reduceXor, Nat.reduceEqDiff, Nat.reducePow, w1]
  · have hM1 := Nat.two_pow_pos (pp π)
    have hn := k.1
    obtain ⟨h1, E, h2, c1, c2, c3, c4, _, _⟩ := c_wpack (f := 0) k (show 14 + 11 * i + 2 < 53 by omega) C (by omega)
    obtain ⟨E2, R2⟩ := fr_R R c3
    have C2 : pC (14 + 11 * i) π h2 := C.mv (fun q k _ _ => (c3 q k (by unfold frS; omega)).1)
    obtain ⟨h3, w1, w2, M⟩ := y2 _ (e0 E2)
    obtain ⟨D, h4, d1, d2, _, d4⟩ := m_costAll (f := 0) k hi (by omega) M
    have e41 : h4.1 62 41 = nI (pn π) := by rw [(d1 62 41 (by omega)).1]; exact M.2.1
    have ee := ED c4 d2 (show 2 ^ pp π - 1 < 2 ^ pp π by omega)
    have dl := (d2 (2 ^ pp π - 1) (by omega)).2.1
    rw [ee] at c2
    have R4 : qR h4 := R2.mvm (((em0 h2).trans (qPd.e w2)).trans (d1.mono (fun a q z => by unfold qMs; omega)))
    by_cases q : D (2 ^ pp π - 1) < 1000000
    · refine ⟨nI (pn π) - nI (D (2 ^ pp π - 1)), h2, h4, ?_, ?_, R4⟩
      · unfold qX11_kept qX4_fewest
        simp (disch := omega) only [↓reduceIte, ↓q_m1, ↓q_m2, k_o, k_0, k_1, k_2, k_3, k_4, k_5, k_6, k_7, k_8, k_9, k_10, k_11, k_16, k_17, k_19, k_20, k_24, k_26, k_27, k_30, k_32, k_33, k_35, k_40, k_43, k_48, k_50, k_57, k_60, k_64, k_81, k_86, k_34, k_66, k_322, k_97, k_99, k_100, k_122, k_128, k_160, k_161, k_255, k_256, k_512, k_580, k_600, k_1000, k_4096, k_far, k_o, nI_add, n_mul, n_sub, n_div, n_rem, n_lt, n_le, n_eq, n_cl, n_and, n_or, n_xor, m1_lt, lt_m1, m1_eq, eq_m1, le_m1, m1_le, m2_eq, up_eq, up_ne, n_shl, n_shr, b2_some, let_e, ob_some, bI_0, bI_a, bI_t, bI_f, if_true, if_false, ite_true, ite_false, true_and, and_true, false_and, and_false, true_or, or_true, false_or, or_false, not_true_eq_false, not_false_eq_true, ite_not, ne_eq, Bool.true_eq_false, Bool.false_eq_true, reduceCtorEq, decide_true, decide_false, Bool.and_true, Bool.and_false, Bool.true_and, Bool.false_and, Bool.or_true, Bool.or_false, Bool.not_true, Bool.not_false, Nat.add_zero, Nat.zero_add, eq_self, Nat.not_lt_zero, Nat.reduceAdd, Nat.reduceMul, Nat.reduceSub, Nat.reduceDiv, Nat.reduceMod, Nat.reduceAnd, Nat.reduceXor, Nat.reduceEqDiff, Nat.reducePow, lt_T, lt_F, le_T, le_F, eq_F, y1, om_s, c1, c2, C2.1]
      · unfold qX12_kept
        simp (disch := omega) only [↓reduceIte, ↓q_m1, ↓q_m2, k_o, k_0, k_1, k_2, k_3, k_4, k_5, k_6, k_7, k_8, k_9, k_10, k_11, k_16, k_17, k_19, k_20, k_24, k_26, k_27, k_30, k_32, k_33, k_35, k_40, k_43, k_48, k_50, k_57, k_60, k_64, k_81, k_86, k_34, k_66, k_322, k_97, k_99, k_100, k_122, k_128, k_160, k_161, k_255, k_256, k_512, k_580, k_600, k_1000, k_4096, k_far, k_o, nI_add, n_mul, n_sub, n_div, n_rem, n_lt, n_le, n_eq, n_cl, n_and, n_or, n_xor, m1_lt, lt_m1, m1_eq, eq_m1, le_m1, m1_le, m2_eq, up_eq, up_ne, n_shl, n_shr, b2_some, let_e, ob_some, bI_0, bI_a, bI_t, bI_f, if_true, if_false, ite_true, ite_false, true_and, and_true, false_and, and_false, true_or, or_true, false_or, or_false, not_true_eq_false, not_false_eq_true, ite_not, ne_eq, Bool.true_eq_false, Bool.false_eq_true, reduceCtorEq, decide_true, decide_false, Bool.and_true, Bool.and_false, Bool.true_and, Bool.false_and, Bool.or_true, Bool.or_false, Bool.not_true, Bool.not_false, Nat.add_zero, Nat.zero_add, eq_self, Nat.not_lt_zero, Nat.reduceAdd, Nat.reduceMul, Nat.reduceSub, Nat.reduceDiv, Nat.reduceMod, Nat.reduceAnd, Nat.reduceXor, Nat.reduceEqDiff, Nat.reducePow, lt_T, lt_F, le_T, le_F, eq_F, w1, d4, e41]
    · refine ⟨m1, h2, h4, ?_, ?_, R4⟩
      · unfold qX11_kept qX4_fewest
        simp (disch := omega) only [↓reduceIte, ↓q_m1, ↓q_m2, k_o, k_0, k_1, k_2, k_3, k_4, k_5, k_6, k_7, k_8, k_9, k_10, k_11, k_16, k_17, k_19, k_20, k_24, k_26, k_27, k_30, k_32, k_33, k_35, k_40, k_43, k_48, k_50, k_57, k_60, k_64, k_81, k_86, k_34, k_66, k_322, k_97, k_99, k_100, k_122, k_128, k_160, k_161, k_255, k_256, k_512, k_580, k_600, k_1000, k_4096, k_far, k_o, nI_add, n_mul, n_sub, n_div, n_rem, n_lt, n_le, n_eq, n_cl, n_and, n_or, n_xor, m1_lt, lt_m1, m1_eq, eq_m1, le_m1, m1_le, m2_eq, up_eq, up_ne, n_shl, n_shr, b2_some, let_e, ob_some, bI_0, bI_a, bI_t, bI_f, if_true, if_false, ite_true, ite_false, true_and, and_true, false_and, and_false, true_or, or_true, false_or, or_false, not_true_eq_false, not_false_eq_true, ite_not, ne_eq, Bool.true_eq_false, Bool.false_eq_true, reduceCtorEq, decide_true, decide_false, Bool.and_true, Bool.and_false, Bool.true_and, Bool.false_and, Bool.or_true, Bool.or_false, Bool.not_true, Bool.not_false, Nat.add_zero, Nat.zero_add, eq_self, Nat.not_lt_zero, Nat.reduceAdd, Nat.reduceMul, Nat.reduceSub, Nat.reduceDiv, Nat.reduceMod, Nat.reduceAnd, Nat.reduceXor, Nat.reduceEqDiff, Nat.reducePow, lt_T, lt_F, le_T, le_F, eq_F, y1, om_s, c1, c2]
      · unfold qX12_kept
        simp (disch := omega) only [↓reduceIte, ↓q_m1, ↓q_m2, k_o, k_0, k_1, k_2, k_3, k_4, k_5, k_6, k_7, k_8, k_9, k_10, k_11, k_16, k_17, k_19, k_20, k_24, k_26, k_27, k_30, k_32, k_33, k_35, k_40, k_43, k_48, k_50, k_57, k_60, k_64, k_81, k_86, k_34, k_66, k_322, k_97, k_99, k_100, k_122, k_128, k_160, k_161, k_255, k_256, k_512, k_580, k_600, k_1000, k_4096, k_far, k_o, nI_add, n_mul, n_sub, n_div, n_rem, n_lt, n_le, n_eq, n_cl, n_and, n_or, n_xor, m1_lt, lt_m1, m1_eq, eq_m1, le_m1, m1_le, m2_eq, up_eq, up_ne, n_shl, n_shr, b2_some, let_e, ob_some, bI_0, bI_a, bI_t, bI_f, if_true, if_false, ite_true, ite_false, true_and, and_true, false_and, and_false, true_or, or_true, false_or, or_false, not_true_eq_false, not_false_eq_true, ite_not, ne_eq, Bool.true_eq_false, Bool.false_eq_true, reduceCtorEq, decide_true, decide_false, Bool.and_true, Bool.and_false, Bool.true_and, Bool.false_and, Bool.or_true, Bool.or_false, Bool.not_true, Bool.not_false, Nat.add_zero, Nat.zero_add, eq_self, Nat.not_lt_zero, Nat.reduceAdd, Nat.reduceMul, Nat.reduceSub, Nat.reduceDiv, Nat.reduceMod, Nat.reduceAnd, Nat.reduceXor, Nat.reduceEqDiff, Nat.reducePow, lt_T, lt_F, le_T, le_F, eq_F, w1, d4]
