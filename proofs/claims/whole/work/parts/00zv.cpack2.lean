/-! cutting: the class's pack. -/
def pO (π : qQ) (o i : Nat) : Nat := if o + i < pp π then pP π (o + i) else 0
theorem pO_le {π : qQ} (k : pOK π) (o i : Nat) : pO π o i ≤ 60 := by
  unfold pO
  split
  · exact (k.2.2.2.2.2 _ (by assumption)).2
  · omega
theorem Wt_le {P : Nat → Nat} (H : ∀ i, P i ≤ 60) (m : Nat) : Wt P m ≤ 480 := by
  have := fb_sm_bound (f := fun i => if m.testBit i then P i else 0) (c := 60) (n := 8) (fun i _ => by
    show (if m.testBit i then P i else 0) ≤ 60
    split
    · exact H i
    · omega)
  unfold Wt
  omega
theorem low8 : ∀ m, m < 256 → m = 0 ∨ ∃ k, k < 8 ∧ m.testBit k = true ∧ (∀ j, j < k → m.testBit j = false) ∧ ∀ i, i < 8 → (m &&& (m - 1)).testBit i = (m.testBit i && !decide (i = k)) := by decide +kernel
theorem Wt_low {P : Nat → Nat} {m k : Nat} (hk : k < 8) (b : m.testBit k = true) (H : ∀ i, i < 8 → (m &&& (m - 1)).testBit i = (m.testBit i && !decide (i = k))) : Wt P m = Wt P (m &&& (m - 1)) + P k := by
  have o := fb_sm_upd (fun i => if m.testBit i then P i else 0) 0 hk
  have e : Wt P (m &&& (m - 1)) = fb_sm (fun i => if i = k then 0 else if m.testBit i then P i else 0) 8 := fb_sm_cong (fun i hi => by
    show (if (m &&& (m - 1)).testBit i then P i else 0) = if i = k then 0 else if m.testBit i then P i else 0
    rw [H i hi]
    by_cases q : i = k
    · rw [decide_eq_true q, Bool.not_true, Bool.and_false, if_pos q]
      rfl
    · rw [decide_eq_false q, Bool.not_false, Bool.and_true, if_neg q])
  rw [← e] at o
  unfold Wt at o ⊢
  simp only [b, if_true] at o
  omega
theorem bit_q {m q k : Nat} (h : m ≤ 2 ^ q - 1) (b : m.testBit k = true) : k < q := by
  have h1 := Nat.ge_two_pow_of_testBit b
  have h2 := Nat.two_pow_pos q
  apply Classical.byContradiction
  intro y
  have := Nat.pow_le_pow_right (n := 2) (by omega) (show q ≤ k by omega)
  omega
theorem q_256 {q : Nat} (h : q ≤ 8) : 2 ^ q - 1 < 256 := by
  have := Nat.pow_le_pow_right (n := 2) (by omega) h
  have := Nat.two_pow_pos q
  omega
section CPK
variable {π : qQ} {b : Nat} {L c : Nat → Nat}
theorem c_p102 {P : Nat → Nat} {M n : Nat} {h0 : qm_H} (hn : n ≤ 6) (hb : b + 2 < 53) (hM : M < 256) (en : h0.1 b 2 = nI n) (hl : ∀ r, r < n → L r ≤ 1000 ∧ c r ≤ 1000) (hW : ∀ m, m ≤ M → Wt P m ≤ 1000) (e1 : ∀ r, r < n → h0.1 54 r = nI (L r) ∧ h0.1 55 r = nI (c r)) (e3 : ∀ m, m ≤ M → h0.1 56 m = nI (Wt P m)) : ∀ d r E h fuel, r + d = n → d < fuel → qFr (fun a _ => a = 57) h0 h → tabE P L c r M E h → ∃ E' h', qFr (fun a _ => a = 57) h0 h' ∧ tabE P L c n M E' h' ∧ qX4_pack_102 fuel 53 b (nI M) (nI r) h = some (nI (E' M), h') := by
  intro d
  induction d with
  | zero =>
    intro r E h fuel hr hf F T
    obtain ⟨g, rfl⟩ : ∃ g, fuel = g + 1 := ⟨fuel - 1, by omega⟩
    have hr' : r = n := by omega
    subst hr'
    have en' : h.1 b 2 = nI r := by rw [(F b 2 (by omega)).1]; exact en
    refine ⟨E, h, F, T, ?_⟩
    have e := (T M (Nat.le_refl M)).1
    unfold qX4_pack_102
    simp (disch := omega) only [↓reduceIte, ↓q_m1, ↓q_m2, k_o, k_0, k_1, k_2, k_3, k_4, k_5, k_6, k_7, k_8, k_9, k_10, k_11, k_16, k_17, k_19, k_20, k_24, k_26, k_27, k_30, k_32, k_33, k_35, k_40, k_43, k_48, k_50, k_57, k_60, k_64, k_81, k_86, k_34, k_66, k_322, k_97, k_99, k_100, k_122, k_128, k_160, k_161, k_255, k_256, k_512, k_580, k_600, k_1000, k_4096, k_far, k_o, nI_add, n_mul, n_sub, n_div, n_rem, n_lt, n_le, n_eq, n_cl, n_and, n_or, n_xor, m1_lt, lt_m1, m1_eq, eq_m1, le_m1, m1_le, m2_eq, up_eq, up_ne, n_shl, n_shr, b2_some, let_e, ob_some, bI_0, bI_a, bI_t, bI_f, if_true, if_false, ite_true, ite_false, true_and, and_true, false_and, and_false, true_or, or_true, false_or, or_false, not_true_eq_false, not_false_eq_true, ite_not, ne_eq, Bool.true_eq_false, Bool.false_eq_true, reduceCtorEq, decide_true, decide_false, Bool.and_true, Bool.and_false, Bool.true_and, Bool.false_and, Bool.or_true, Bool.or_false, Bool.not_true, Bool.not_false, Nat.add_zero, Nat.zero_add, eq_self, Nat.not_lt_zero, Nat.reduceAdd, Nat.reduceMul, Nat.reduceSub, Nat.reduceDiv, Nat.reduceMod, Nat.reduceAnd, Nat.reduceXor, Nat.reduceEqDiff, Nat.reducePow, lt_T, lt_F, le_T, le_F, eq_F, en', e]
  | succ d ih =>
    intro r E h fuel hr hf F T
    obtain ⟨g, rfl⟩ : ∃ g, fuel = g + 1 := ⟨fuel - 1, by omega⟩
    have en' : h.1 b 2 = nI n := by rw [(F b 2 (by omega)).1]; exact en
    obtain ⟨h1, p1, ⟨E1, p2⟩, p3⟩ := c_packInto (r := r) (by omega) hM (hl r (by omega)).1 (hl r (by omega)).2 hW T (by rw [(F 54 r (by omega)).1]; exact (e1 r (by omega)).1) (by rw [(F 55 r (by omega)).1]; exact (e1 r (by omega)).2) (fun m hm => by rw [(F 56 m (by omega)).1]; exact e3 m hm)
    obtain ⟨E', h', q1, q2, q3⟩ := ih (r + 1) E1 h1 g (by omega) (by omega) (F.trans p1) p2
    refine ⟨E', h', q1, q2, ?_⟩
    unfold qX4_pack_102
    simp (disch := omega) only [↓reduceIte, ↓q_m1, ↓q_m2, k_o, k_0, k_1, k_2, k_3, k_4, k_5, k_6, k_7, k_8, k_9, k_10, k_11, k_16, k_17, k_19, k_20, k_24, k_26, k_27, k_30, k_32, k_33, k_35, k_40, k_43, k_48, k_50, k_57, k_60, k_64, k_81, k_86, k_34, k_66, k_322, k_97, k_99, k_100, k_122, k_128, k_160, k_161, k_255, k_256, k_512, k_580, k_600, k_1000, k_4096, k_far, k_o, nI_add, n_mul, n_sub, n_div, n_rem, n_lt, n_le, n_eq, n_cl, n_and, n_or, n_xor, m1_lt, lt_m1, m1_eq, eq_m1, le_m1, m1_le, m2_eq, up_eq, up_ne, n_shl, n_shr, b2_some, let_e, ob_some, bI_0, bI_a, bI_t, bI_f, if_true, if_false, ite_true, ite_false, true_and, and_true, false_and, and_false, true_or, or_true, false_or, or_false, not_true_eq_false, not_false_eq_true, ite_not, ne_eq, Bool.true_eq_false, Bool.false_eq_true, reduceCtorEq, decide_true, decide_false, Bool.and_true, Bool.and_false, Bool.true_and, Bool.false_and, Bool.or_true, Bool.or_false, Bool.not_true, Bool.not_false, Nat.add_zero, Nat.zero_add, eq_self, Nat.not_lt_zero, Nat.reduceAdd, Nat.reduceMul, Nat.reduceSub, Nat.reduceDiv, Nat.reduceMod, Nat.reduceAnd, Nat.reduceXor, Nat.reduceEqDiff, Nat.reducePow, lt_T, lt_F, le_T, le_F, eq_F, en', p3]
    exact q3
theorem c_p23 (k : pOK π) {h0 : qm_H} (C : pC b π h0) (hb : b + 2 < 53) {o : Nat} (ho : o ≤ pp π) : ∀ d m h fuel, m + d = 2 ^ (pp π - o) → d < fuel → 1 ≤ m → qFr (fun a _ => a = 56 ∨ a = 57) h0 h → (∀ j, j < m → h.1 56 j = nI (Wt (pO π o) j) ∧ h.1 57 j = nI (if j = 0 then 0 else 1000000)) → ∃ h', qFr (fun a _ => a = 56 ∨ a = 57) h0 h' ∧ (∀ j, j < 2 ^ (pp π - o) → h'.1 56 j = nI (Wt (pO π o) j) ∧ h'.1 57 j = nI (if j = 0 then 0 else 1000000)) ∧ qX4_pack_23 fuel 53 b (nI o) (nI (2 ^ (pp π - o) - 1)) (nI m) h = qX4_pack_102 qm_N 53 b (nI (2 ^ (pp π - o) - 1)) (nI 0) h' := by
  have hp : pp π ≤ 8 := k.2.1
  have hM := q_256 (q := pp π - o) (by omega)
  have hM1 := Nat.two_pow_pos (pp π - o)
  intro d
  induction d with
  | zero =>
    intro m h fuel hm hf hm1 F A
    obtain ⟨g, rfl⟩ : ∃ g, fuel = g + 1 := ⟨fuel - 1, by omega⟩
    refine ⟨h, F, fun j hj => A j (by omega), ?_⟩
    unfold qX4_pack_23
    simp (disch := omega) only [↓reduceIte, ↓q_m1, ↓q_m2, k_o, k_0, k_1, k_2, k_3, k_4, k_5, k_6, k_7, k_8, k_9, k_10, k_11, k_16, k_17, k_19, k_20, k_24, k_26, k_27, k_30, k_32, k_33, k_35, k_40, k_43, k_48, k_50, k_57, k_60, k_64, k_81, k_86, k_34, k_66, k_322, k_97, k_99, k_100, k_122, k_128, k_160, k_161, k_255, k_256, k_512, k_580, k_600, k_1000, k_4096, k_far, k_o, nI_add, n_mul, n_sub, n_div, n_rem, n_lt, n_le, n_eq, n_cl, n_and, n_or, n_xor, m1_lt, lt_m1, m1_eq, eq_m1, le_m1, m1_le, m2_eq, up_eq, up_ne, n_shl, n_shr, b2_some, let_e, ob_some, bI_0, bI_a, bI_t, bI_f, if_true, if_false, ite_true, ite_false, true_and, and_true, false_and, and_false, true_or, or_true, false_or, or_false, not_true_eq_false, not_false_eq_true, ite_not, ne_eq, Bool.true_eq_false, Bool.false_eq_true, reduceCtorEq, decide_true, decide_false, Bool.and_true, Bool.and_false, Bool.true_and, Bool.false_and, Bool.or_true, Bool.or_false, Bool.not_true, Bool.not_false, Nat.add_zero, Nat.zero_add, eq_self, Nat.not_lt_zero, Nat.reduceAdd, Nat.reduceMul, Nat.reduceSub, Nat.reduceDiv, Nat.reduceMod, Nat.reduceAnd, Nat.reduceXor, Nat.reduceEqDiff, Nat.reducePow, lt_T, lt_F, le_T, le_F, eq_F]
  | succ d ih =>
    intro m h fuel hm hf hm1 F A
    obtain ⟨g, rfl⟩ : ∃ g, fuel = g + 1 := ⟨fuel - 1, by omega⟩
    rcases low8 m (by omega) with z | ⟨j, hj, b1, b2, b3⟩
    · omega
    · have hjq := bit_q (q := pp π - o) (show m ≤ 2 ^ (pp π - o) - 1 by omega) b1
      have nt := j_ntz (x := nI m) (k := j) (by omega) (by rw [bt_nI (by omega) j (by omega)]; exact b1) (fun i hi => by rw [bt_nI (by omega) i (by omega)]; exact b2 i hi) h
      have hlo : m &&& (m - 1) ≤ m - 1 := Nat.and_le_right
      have w1 := (A (m &&& (m - 1)) (by omega)).1
      have w2 : h.1 (b + 2) (o + j) = nI (pP π (o + j)) := by
        rw [(F (b + 2) (o + j) (by omega)).1]
        exact C.2.2.2.2 (o + j) (by omega)
      have eO : pO π o j = pP π (o + j) := by unfold pO; rw [if_pos (by omega)]
      have ew := Wt_low (P := pO π o) hj b1 b3
      rw [eO] at ew
      have bw1 := Wt_le (pO_le k o) m
      obtain ⟨h', p1, p2, p3⟩ := ih (m + 1) (qm_seti (qm_seti h 56 m (nI (Wt (pO π o) m))) 57 m (nI 1000000)) g (by omega) (by omega) (by omega) ((F.trans (qFr.seti (Or.inl rfl))).trans (qFr.seti (Or.inr rfl))) (fun i hi => by
        by_cases y : i = m
        · subst y
          rw [sI_ne (by omega), sI_eq, sI_eq, if_neg (by omega)]
          exact ⟨rfl, rfl⟩
        · rw [sI_ne (by omega), sI_ne (by omega), sI_ne (by omega), sI_ne (by omega)]
          exact A i (by omega))
      refine ⟨h', p1, p2, ?_⟩
      unfold qX4_pack_23
      simp (disch := omega) only [↓reduceIte, ↓q_m1, ↓q_m2, k_o, k_0, k_1, k_2, k_3, k_4, k_5, k_6, k_7, k_8, k_9, k_10, k_11, k_16, k_17, k_19, k_20, k_24, k_26, k_27, k_30, k_32, k_33, k_35, k_40, k_43, k_48, k_50, k_57, k_60, k_64, k_81, k_86, k_34, k_66, k_322, k_97, k_99, k_100, k_122, k_128, k_160, k_161, k_255, k_256, k_512, k_580, k_600, k_1000, k_4096, k_far, k_o, nI_add, n_mul, n_sub, n_div, n_rem, n_lt, n_le, n_eq, n_cl, n_and, n_or, n_xor, m1_lt, lt_m1, m1_eq, eq_m1, le_m1, m1_le, m2_eq, up_eq, up_ne, n_shl, n_shr, b2_some, let_e, ob_some, bI_0, bI_a, bI_t, bI_f, if_true, if_false, ite_true, ite_false, true_and, and_true, false_and, and_false, true_or, or_true, false_or, or_false, not_true_eq_false, not_false_eq_true, ite_not, ne_eq, Bool.true_eq_false, Bool.false_eq_true, reduceCtorEq, decide_true, decide_false, Bool.and_true, Bool.and_false, Bool.true_and, Bool.false_and, Bool.or_true, Bool.or_false, Bool.not_true, Bool.not_false, Nat.add_zero, Nat.zero_add, eq_self, Nat.not_lt_zero, Nat.reduceAdd, Nat.reduceMul, Nat.reduceSub, Nat.reduceDiv, Nat.reduceMod, Nat.reduceAnd, Nat.reduceXor, Nat.reduceEqDiff, Nat.reducePow, lt_T, lt_F, le_T, le_F, eq_F, nt, n_and, w1, w2, ← ew]
      exact p3
/-- the cheapest way to cut the pieces from o on -/
theorem c_pack (k : pOK π) {h : qm_H} (C : pC b π h) (hb : b + 2 < 53) {o : Nat} (ho : o ≤ pp π) (hl : ∀ r, r < pn π → L r ≤ 1000 ∧ c r ≤ 1000) (e1 : ∀ r, r < pn π → h.1 54 r = nI (L r) ∧ h.1 55 r = nI (c r)) : ∃ E h', qFr (fun a _ => a = 56 ∨ a = 57) h h' ∧ tabE (pO π o) L c (pn π) (2 ^ (pp π - o) - 1) E h' ∧ (∀ m, m ≤ 2 ^ (pp π - o) - 1 → h'.1 56 m = nI (Wt (pO π o) m)) ∧ qX4_pack 53 b (nI o) h = some (nI (E (2 ^ (pp π - o) - 1)), h') := by
  have hp : pp π ≤ 8 := k.2.1
  have hM := q_256 (q := pp π - o) (by omega)
  have hM1 := Nat.two_pow_pos (pp π - o)
  obtain ⟨h1, p1, p2, p3⟩ := c_p23 k C hb ho (2 ^ (pp π - o) - 1) 1 (qm_seti (qm_seti h 56 0 (nI 0)) 57 0 (nI 0)) qm_N (by omega) (by unfold qm_N; omega) (Nat.le_refl 1) ((qFr.seti (Or.inl rfl)).trans (qFr.seti (Or.inr rfl))) (fun j hj => by
    have : j = 0 := by omega
    subst this
    rw [sI_ne (by omega), sI_eq, sI_eq, if_pos rfl]
    refine ⟨?_, rfl⟩
    have : Wt (pO π o) 0 = 0 := by
      unfold Wt
      rw [fb_sm_cong (g := fun _ => 0) (fun i _ => by rw [Nat.zero_testBit]; rfl), fb_sm_const]
    rw [this])
  obtain ⟨E', h', q1, q2, q3⟩ := c_p102 (P := pO π o) (M := 2 ^ (pp π - o) - 1) (h0 := h1) k.1 hb hM (by rw [(p1 b 2 (by omega)).1]; exact C.1) hl (fun m _ => Nat.le_trans (Wt_le (pO_le k o) m) (by omega)) (fun r hr => by rw [(p1 54 r (by omega)).1, (p1 55 r (by omega)).1]; exact e1 r hr) (fun m hm => (p2 m (by omega)).1) (pn π) 0 (fun j => if j = 0 then 0 else 1000000) h1 qm_N (by omega) (by have := k.1; unfold qm_N; omega) (qFr.refl _ h1) (fun m hm => ⟨(p2 m (by omega)).2, by
    show lea (AtP (cC (pO π o) L c) 0 m) (if m = 0 then 0 else 1000000)
    by_cases y : m = 0
    · rw [if_pos y]
      exact ⟨by omega, fun v hv => Nat.zero_le _, fun _ => ⟨y, rfl⟩⟩
    · rw [if_neg y]
      exact ⟨by omega, fun v hv => absurd hv.1 y, fun t => absurd t (by omega)⟩⟩)
  refine ⟨E', h', p1.trans (q1.mono (fun a q z => Or.inr z)), q2, fun m hm => by rw [(q1 56 m (by omega)).1]; exact (p2 m (by omega)).1, ?_⟩
  rw [q3] at p3
  unfold qX4_pack qX4_allFrom
  have mx : max 0 (pp π - o) = pp π - o := by omega
  have mn : min (pp π) 8 = pp π := by omega
  simp (disch := omega) only [↓reduceIte, ↓q_m1, ↓q_m2, k_o, k_0, k_1, k_2, k_3, k_4, k_5, k_6, k_7, k_8, k_9, k_10, k_11, k_16, k_17, k_19, k_20, k_24, k_26, k_27, k_30, k_32, k_33, k_35, k_40, k_43, k_48, k_50, k_57, k_60, k_64, k_81, k_86, k_34, k_66, k_322, k_97, k_99, k_100, k_122, k_128, k_160, k_161, k_255, k_256, k_512, k_580, k_600, k_1000, k_4096, k_far, k_o, nI_add, n_mul, n_sub, n_div, n_rem, n_lt, n_le, n_eq, n_cl, n_and, n_or, n_xor, m1_lt, lt_m1, m1_eq, eq_m1, le_m1, m1_le, m2_eq, up_eq, up_ne, n_shl, n_shr, b2_some, let_e, ob_some, bI_0, bI_a, bI_t, bI_f, if_true, if_false, ite_true, ite_false, true_and, and_true, false_and, and_false, true_or, or_true, false_or, or_false, not_true_eq_false, not_false_eq_true, ite_not, ne_eq, Bool.true_eq_false, Bool.false_eq_true, reduceCtorEq, decide_true, decide_false, Bool.and_true, Bool.and_false, Bool.true_and, Bool.false_and, Bool.or_true, Bool.or_false, Bool.not_true, Bool.not_false, Nat.add_zero, Nat.zero_add, eq_self, Nat.not_lt_zero, Nat.reduceAdd, Nat.reduceMul, Nat.reduceSub, Nat.reduceDiv, Nat.reduceMod, Nat.reduceAnd, Nat.reduceXor, Nat.reduceEqDiff, Nat.reducePow, lt_T, lt_F, le_T, le_F, eq_F, C.2.1, j_minn, mn, j_maxn, mx]
  rw [Nat.one_mul]
  exact p3
end CPK
