/-! cutting: the reference's table, row by row. -/
section MCP
variable {π : qQ} {i : Nat} {mu : Nat → Nat} {f : Nat}
def tD (π : qQ) (mu : Nat → Nat) (f r : Nat) (D : Nat → Nat) (h : qm_H) : Prop := ∀ s, s < 2 ^ pp π → h.1 84 (256 * r + s) = nI (D s) ∧ lea (AtS (rC π mu f) (pn π) (pn π - r) s) (D s)
theorem lea_S {D : Nat → Nat} {r s e : Nat} (hr : r < pn π) (hD : ∀ m, m ≤ s → lea (AtS (rC π mu f) (pn π) (pn π - (r + 1)) m) (D m)) (I : inv5 π mu D f r s e (fun _ => True)) : lea (AtS (rC π mu f) (pn π) (pn π - r) s) e := by
  have en : pn π - r = (pn π - (r + 1)) + 1 := by omega
  rw [en]
  have er : pn π - (pn π - (r + 1) + 1) = r := by omega
  refine ⟨I.1, ?_, fun he => ?_⟩
  · rintro v ⟨t, a, v1, v2, S, h1, h2, rfl⟩
    rw [er] at h1
    have ha := spl_x S.symm
    have hp := spl_prt S.symm
    have hx : s ^^^ t ≤ s := prt_le (spl_prt (prt_x hp).symm)
    have := I.2.1 t hp trivial h1.1
    rw [ha] at h2
    have := (hD _ hx).2.1 v2 h2
    rw [h1.2]
    omega
  · rcases I.2.2 with y | ⟨u, hu, w, y⟩
    · omega
    · have hx : s ^^^ u ≤ s := prt_le (spl_prt (prt_x hu).symm)
      refine ⟨u, s ^^^ u, kRd π mu f r u, D (s ^^^ u), (prt_x hu).symm, ?_, (hD _ hx).2.2 (by omega), y⟩
      rw [er]
      exact ⟨w, rfl⟩
def don (π : qQ) (mu : Nat → Nat) (f r s : Nat) (h : qm_H) : Prop := ∀ m, m < s → ∃ e, h.1 84 (256 * r + m) = nI e ∧ lea (AtS (rC π mu f) (pn π) (pn π - r) m) e
theorem don_t {r : Nat} {h : qm_H} (d : don π mu f r (2 ^ pp π) h) : ∃ D, tD π mu f r D h := by
  have all : ∀ m, ∃ e, m < 2 ^ pp π → h.1 84 (256 * r + m) = nI e ∧ lea (AtS (rC π mu f) (pn π) (pn π - r) m) e := fun m => by
    by_cases y : m < 2 ^ pp π
    · obtain ⟨e, z⟩ := d m y
      exact ⟨e, fun _ => z⟩
    · exact ⟨0, fun t => absurd t y⟩
  obtain ⟨D, hD⟩ := Classical.axiomOfChoice all
  exact ⟨D, fun s hs => hD s hs⟩
theorem m_11 (k : pOK π) (hi : i < 2) {h0 : qm_H} (M : pM i π h0) {K5 : Nat → Int32 → Int32 → qm_H → Option qm_H} (hf1 : f ≤ 1) {r : Nat} (hr : r ≤ pn π) (hmu : ∀ r, r < pn π → mu r < 256 ∧ h0.1 83 r = nI (mu r)) {D : Nat → Nat} (T : r < pn π → tD π mu f (r + 1) D h0) : ∀ d s h fuel, s + d = 2 ^ pp π → d < fuel → qFr (fun a q => a = 84 ∧ q < 256 * (r + 1)) h0 h → don π mu f r s h → ∃ h', qFr (fun a q => a = 84 ∧ q < 256 * (r + 1)) h0 h' ∧ don π mu f r (2 ^ pp π) h' ∧ qX12_findCosts_11 K5 fuel 62 (nI f) (nI r) (nI s) h = K5 62 (nI f) (nI r - nI 1) h' := by
  have hn := k.1
  have hp : pp π ≤ 8 := k.2.1
  have hM := q_256 hp
  have hM1 := Nat.two_pow_pos (pp π)
  intro d
  induction d with
  | zero =>
    intro s h fuel hs hf F A
    obtain ⟨g, rfl⟩ : ∃ g, fuel = g + 1 := ⟨fuel - 1, by omega⟩
    have : s = 2 ^ pp π := by omega
    subst this
    have M1 : pM i π h := M.mv (fun q _ _ => (F 62 q (by omega)).1) (fun q => (F 70 q (by omega)).1)
    refine ⟨h, F, A, ?_⟩
    unfold qX12_findCosts_11
    simp (disch := omega) only [↓reduceIte, ↓q_m1, ↓q_m2, k_o, k_0, k_1, k_2, k_3, k_4, k_5, k_6, k_7, k_8, k_9, k_10, k_11, k_16, k_17, k_19, k_20, k_24, k_26, k_27, k_30, k_32, k_33, k_35, k_40, k_43, k_48, k_50, k_57, k_60, k_64, k_81, k_86, k_34, k_66, k_322, k_97, k_99, k_100, k_122, k_128, k_160, k_161, k_255, k_256, k_512, k_580, k_600, k_1000, k_4096, k_far, k_o, nI_add, n_mul, n_sub, n_div, n_rem, n_lt, n_le, n_eq, n_cl, n_and, n_or, n_xor, m1_lt, lt_m1, m1_eq, eq_m1, le_m1, m1_le, m2_eq, up_eq, up_ne, n_shl, n_shr, b2_some, let_e, ob_some, bI_0, bI_a, bI_t, bI_f, if_true, if_false, ite_true, ite_false, true_and, and_true, false_and, and_false, true_or, or_true, false_or, or_false, not_true_eq_false, not_false_eq_true, ite_not, ne_eq, Bool.true_eq_false, Bool.false_eq_true, reduceCtorEq, decide_true, decide_false, Bool.and_true, Bool.and_false, Bool.true_and, Bool.false_and, Bool.or_true, Bool.or_false, Bool.not_true, Bool.not_false, Nat.add_zero, Nat.zero_add, eq_self, Nat.not_lt_zero, Nat.reduceAdd, Nat.reduceMul, Nat.reduceSub, Nat.reduceDiv, Nat.reduceMod, Nat.reduceAnd, Nat.reduceXor, Nat.reduceEqDiff, Nat.reducePow, lt_T, lt_F, le_T, le_F, eq_F, M1.2.2.1, Nat.one_mul, n_m1]
  | succ d ih =>
    intro s h fuel hs hf F A
    obtain ⟨g, rfl⟩ : ∃ g, fuel = g + 1 := ⟨fuel - 1, by omega⟩
    have M1 : pM i π h := M.mv (fun q _ _ => (F 62 q (by omega)).1) (fun q => (F 70 q (by omega)).1)
    have fin : ∀ e, lea (AtS (rC π mu f) (pn π) (pn π - r) s) e → ∃ h', qFr (fun a q => a = 84 ∧ q < 256 * (r + 1)) h0 h' ∧ don π mu f r (2 ^ pp π) h' ∧ qX12_findCosts_167 K5 (qX12_findCosts_11 K5 g) 62 (nI f) (nI r) (nI s) (nI e) h = K5 62 (nI f) (nI r - nI 1) h' := fun e he => by
      have he1 := he.1
      obtain ⟨h', p1, p2, p3⟩ := ih (s + 1) (qm_seti h 84 (256 * r + s) (nI e)) g (by omega) (by omega) (F.trans (qFr.seti ⟨rfl, by omega⟩)) (fun m hm => by
        by_cases y : m = s
        · subst y
          exact ⟨e, by rw [sI_eq], he⟩
        · rw [sI_ne (by omega)]
          exact A m (by omega))
      refine ⟨h', p1, p2, ?_⟩
      have mi : min e 1000000 = e := by omega
      unfold qX12_findCosts_167
      simp (disch := omega) only [↓reduceIte, ↓q_m1, ↓q_m2, k_o, k_0, k_1, k_2, k_3, k_4, k_5, k_6, k_7, k_8, k_9, k_10, k_11, k_16, k_17, k_19, k_20, k_24, k_26, k_27, k_30, k_32, k_33, k_35, k_40, k_43, k_48, k_50, k_57, k_60, k_64, k_81, k_86, k_34, k_66, k_322, k_97, k_99, k_100, k_122, k_128, k_160, k_161, k_255, k_256, k_512, k_580, k_600, k_1000, k_4096, k_far, k_o, nI_add, n_mul, n_sub, n_div, n_rem, n_lt, n_le, n_eq, n_cl, n_and, n_or, n_xor, m1_lt, lt_m1, m1_eq, eq_m1, le_m1, m1_le, m2_eq, up_eq, up_ne, n_shl, n_shr, b2_some, let_e, ob_some, bI_0, bI_a, bI_t, bI_f, if_true, if_false, ite_true, ite_false, true_and, and_true, false_and, and_false, true_or, or_true, false_or, or_false, not_true_eq_false, not_false_eq_true, ite_not, ne_eq, Bool.true_eq_false, Bool.false_eq_true, reduceCtorEq, decide_true, decide_false, Bool.and_true, Bool.and_false, Bool.true_and, Bool.false_and, Bool.or_true, Bool.or_false, Bool.not_true, Bool.not_false, Nat.add_zero, Nat.zero_add, eq_self, Nat.not_lt_zero, Nat.reduceAdd, Nat.reduceMul, Nat.reduceSub, Nat.reduceDiv, Nat.reduceMod, Nat.reduceAnd, Nat.reduceXor, Nat.reduceEqDiff, Nat.reducePow, lt_T, lt_F, le_T, le_F, eq_F, m_ls, mi]
      exact p3
    by_cases q : r < pn π
    · obtain ⟨e', p1, p2⟩ := m_58 (K5 := K5) (K11 := qX12_findCosts_11 K5 g) (mu := mu) (D := D) (s := s) k hi M1 hf1 q (hmu r q).1 (by rw [(F 83 r (by omega)).1]; exact (hmu r q).2) (by omega) (fun m hm => by
        have t := T q m (by omega)
        rw [(F 84 (256 * (r + 1) + m) (by omega)).1]
        exact ⟨t.1, t.2.1⟩) s 1000000 qm_N (by unfold qm_N; omega) (fun i hi => hi) ⟨Nat.le_refl _, fun u hu h1 => absurd (prt_le hu) (by omega), Or.inl rfl⟩
      obtain ⟨h', q1, q2, q3⟩ := fin e' (lea_S q (fun m hm => (T q m (by omega)).2) p1)
      refine ⟨h', q1, q2, ?_⟩
      rw [q3] at p2
      unfold qX12_findCosts_11
      simp (disch := omega) only [↓reduceIte, ↓q_m1, ↓q_m2, k_o, k_0, k_1, k_2, k_3, k_4, k_5, k_6, k_7, k_8, k_9, k_10, k_11, k_16, k_17, k_19, k_20, k_24, k_26, k_27, k_30, k_32, k_33, k_35, k_40, k_43, k_48, k_50, k_57, k_60, k_64, k_81, k_86, k_34, k_66, k_322, k_97, k_99, k_100, k_122, k_128, k_160, k_161, k_255, k_256, k_512, k_580, k_600, k_1000, k_4096, k_far, k_o, nI_add, n_mul, n_sub, n_div, n_rem, n_lt, n_le, n_eq, n_cl, n_and, n_or, n_xor, m1_lt, lt_m1, m1_eq, eq_m1, le_m1, m1_le, m2_eq, up_eq, up_ne, n_shl, n_shr, b2_some, let_e, ob_some, bI_0, bI_a, bI_t, bI_f, if_true, if_false, ite_true, ite_false, true_and, and_true, false_and, and_false, true_or, or_true, false_or, or_false, not_true_eq_false, not_false_eq_true, ite_not, ne_eq, Bool.true_eq_false, Bool.false_eq_true, reduceCtorEq, decide_true, decide_false, Bool.and_true, Bool.and_false, Bool.true_and, Bool.false_and, Bool.or_true, Bool.or_false, Bool.not_true, Bool.not_false, Nat.add_zero, Nat.zero_add, eq_self, Nat.not_lt_zero, Nat.reduceAdd, Nat.reduceMul, Nat.reduceSub, Nat.reduceDiv, Nat.reduceMod, Nat.reduceAnd, Nat.reduceXor, Nat.reduceEqDiff, Nat.reducePow, lt_T, lt_F, le_T, le_F, eq_F, M1.2.2.1, M1.2.1, Nat.one_mul]
      exact p2
    · have er : r = pn π := by omega
      have fin' : ∃ h', qFr (fun a q => a = 84 ∧ q < 256 * (r + 1)) h0 h' ∧ don π mu f r (2 ^ pp π) h' ∧ qX12_findCosts_167 K5 (qX12_findCosts_11 K5 g) 62 (nI f) (nI r) (nI s) (nI (if s = 0 then 0 else 1000000)) h = K5 62 (nI f) (nI r - nI 1) h' := fin _ (by
        rw [er, Nat.sub_self]
        by_cases y : s = 0
        · rw [if_pos y]
          exact ⟨by omega, fun v hv => Nat.zero_le _, fun _ => ⟨y, rfl⟩⟩
        · rw [if_neg y]
          exact ⟨by omega, fun v hv => absurd hv.1 y, fun t => absurd t (by omega)⟩)
      obtain ⟨h', q1, q2, q3⟩ := fin'
      refine ⟨h', q1, q2, ?_⟩
      unfold qX12_findCosts_11
      by_cases y : s = 0
      · subst y
        rw [if_pos rfl] at q3
        simp (disch := omega) only [↓reduceIte, ↓q_m1, ↓q_m2, k_o, k_0, k_1, k_2, k_3, k_4, k_5, k_6, k_7, k_8, k_9, k_10, k_11, k_16, k_17, k_19, k_20, k_24, k_26, k_27, k_30, k_32, k_33, k_35, k_40, k_43, k_48, k_50, k_57, k_60, k_64, k_81, k_86, k_34, k_66, k_322, k_97, k_99, k_100, k_122, k_128, k_160, k_161, k_255, k_256, k_512, k_580, k_600, k_1000, k_4096, k_far, k_o, nI_add, n_mul, n_sub, n_div, n_rem, n_lt, n_le, n_eq, n_cl, n_and, n_or, n_xor, m1_lt, lt_m1, m1_eq, eq_m1, le_m1, m1_le, m2_eq, up_eq, up_ne, n_shl, n_shr, b2_some, let_e, ob_some, bI_0, bI_a, bI_t, bI_f, if_true, if_false, ite_true, ite_false, true_and, and_true, false_and, and_false, true_or, or_true, false_or, or_false, not_true_eq_false, not_false_eq_true, ite_not, ne_eq, Bool.true_eq_false, Bool.false_eq_true, reduceCtorEq, decide_true, decide_false, Bool.and_true, Bool.and_false, Bool.true_and, Bool.false_and, Bool.or_true, Bool.or_false, Bool.not_true, Bool.not_false, Nat.add_zero, Nat.zero_add, eq_self, Nat.not_lt_zero, Nat.reduceAdd, Nat.reduceMul, Nat.reduceSub, Nat.reduceDiv, Nat.reduceMod, Nat.reduceAnd, Nat.reduceXor, Nat.reduceEqDiff, Nat.reducePow, lt_T, lt_F, le_T, le_F, eq_F, M1.2.2.1, M1.2.1, Nat.one_mul, eq_true er]
        exact q3
      · rw [if_neg y] at q3
        simp (disch := omega) only [↓reduceIte, ↓q_m1, ↓q_m2, k_o, k_0, k_1, k_2, k_3, k_4, k_5, k_6, k_7, k_8, k_9, k_10, k_11, k_16, k_17, k_19, k_20, k_24, k_26, k_27, k_30, k_32, k_33, k_35, k_40, k_43, k_48, k_50, k_57, k_60, k_64, k_81, k_86, k_34, k_66, k_322, k_97, k_99, k_100, k_122, k_128, k_160, k_161, k_255, k_256, k_512, k_580, k_600, k_1000, k_4096, k_far, k_o, nI_add, n_mul, n_sub, n_div, n_rem, n_lt, n_le, n_eq, n_cl, n_and, n_or, n_xor, m1_lt, lt_m1, m1_eq, eq_m1, le_m1, m1_le, m2_eq, up_eq, up_ne, n_shl, n_shr, b2_some, let_e, ob_some, bI_0, bI_a, bI_t, bI_f, if_true, if_false, ite_true, ite_false, true_and, and_true, false_and, and_false, true_or, or_true, false_or, or_false, not_true_eq_false, not_false_eq_true, ite_not, ne_eq, Bool.true_eq_false, Bool.false_eq_true, reduceCtorEq, decide_true, decide_false, Bool.and_true, Bool.and_false, Bool.true_and, Bool.false_and, Bool.or_true, Bool.or_false, Bool.not_true, Bool.not_false, Nat.add_zero, Nat.zero_add, eq_self, Nat.not_lt_zero, Nat.reduceAdd, Nat.reduceMul, Nat.reduceSub, Nat.reduceDiv, Nat.reduceMod, Nat.reduceAnd, Nat.reduceXor, Nat.reduceEqDiff, Nat.reducePow, lt_T, lt_F, le_T, le_F, eq_F, M1.2.2.1, M1.2.1, Nat.one_mul, eq_true er]
        exact q3
theorem m_5 (k : pOK π) (hi : i < 2) (hf1 : f ≤ 1) : ∀ r h0 fuel, r + 1 < fuel → r ≤ pn π → pM i π h0 → (∀ r, r < pn π → mu r < 256 ∧ h0.1 83 r = nI (mu r)) → (r < pn π → ∃ D, tD π mu f (r + 1) D h0) → ∃ h', qFr (fun a _ => a = 84) h0 h' ∧ (∃ D, tD π mu f 0 D h') ∧ qX12_findCosts_5 fuel 62 (nI f) (nI r) h0 = some h' := by
  have hp : pp π ≤ 8 := k.2.1
  have hM := q_256 hp
  have hM1 := Nat.two_pow_pos (pp π)
  intro r
  induction r with
  | zero =>
    intro h0 fuel hf hr M hmu T
    obtain ⟨g, rfl⟩ : ∃ g, fuel = g + 1 := ⟨fuel - 1, by omega⟩
    obtain ⟨D, hD⟩ : ∃ D, 0 < pn π → tD π mu f (0 + 1) D h0 := by
      by_cases q : 0 < pn π
      · obtain ⟨D, z⟩ := T q
        exact ⟨D, fun _ => z⟩
      · exact ⟨fun _ => 0, fun t => absurd t q⟩
    obtain ⟨h', p1, p2, p3⟩ := m_11 (K5 := qX12_findCosts_5 g) k hi M hf1 hr hmu hD (2 ^ pp π) 0 h0 qm_N (by omega) (by unfold qm_N; omega) (qFr.refl _ h0) (fun m hm => absurd hm (Nat.not_lt_zero m))
    refine ⟨h', p1.mono (fun a q z => z.1), don_t p2, ?_⟩
    obtain ⟨g2, rfl⟩ : ∃ g2, g = g2 + 1 := ⟨g - 1, by omega⟩
    have e : qX12_findCosts_5 (g2 + 1) 62 (nI f) (nI 0 - nI 1) h' = some h' := by
      unfold qX12_findCosts_5
      rw [show nI 0 - nI 1 = m1 from rfl]
      simp (disch := omega) only [↓reduceIte, ↓q_m1, ↓q_m2, k_o, k_0, k_1, k_2, k_3, k_4, k_5, k_6, k_7, k_8, k_9, k_10, k_11, k_16, k_17, k_19, k_20, k_24, k_26, k_27, k_30, k_32, k_33, k_35, k_40, k_43, k_48, k_50, k_57, k_60, k_64, k_81, k_86, k_34, k_66, k_322, k_97, k_99, k_100, k_122, k_128, k_160, k_161, k_255, k_256, k_512, k_580, k_600, k_1000, k_4096, k_far, k_o, nI_add, n_mul, n_sub, n_div, n_rem, n_lt, n_le, n_eq, n_cl, n_and, n_or, n_xor, m1_lt, lt_m1, m1_eq, eq_m1, le_m1, m1_le, m2_eq, up_eq, up_ne, n_shl, n_shr, b2_some, let_e, ob_some, bI_0, bI_a, bI_t, bI_f, if_true, if_false, ite_true, ite_false, true_and, and_true, false_and, and_false, true_or, or_true, false_or, or_false, not_true_eq_false, not_false_eq_true, ite_not, ne_eq, Bool.true_eq_false, Bool.false_eq_true, reduceCtorEq, decide_true, decide_false, Bool.and_true, Bool.and_false, Bool.true_and, Bool.false_and, Bool.or_true, Bool.or_false, Bool.not_true, Bool.not_false, Nat.add_zero, Nat.zero_add, eq_self, Nat.not_lt_zero, Nat.reduceAdd, Nat.reduceMul, Nat.reduceSub, Nat.reduceDiv, Nat.reduceMod, Nat.reduceAnd, Nat.reduceXor, Nat.reduceEqDiff, Nat.reducePow, lt_T, lt_F, le_T, le_F, eq_F]
    rw [e] at p3
    unfold qX12_findCosts_5
    simp (disch := omega) only [↓reduceIte, ↓q_m1, ↓q_m2, k_o, k_0, k_1, k_2, k_3, k_4, k_5, k_6, k_7, k_8, k_9, k_10, k_11, k_16, k_17, k_19, k_20, k_24, k_26, k_27, k_30, k_32, k_33, k_35, k_40, k_43, k_48, k_50, k_57, k_60, k_64, k_81, k_86, k_34, k_66, k_322, k_97, k_99, k_100, k_122, k_128, k_160, k_161, k_255, k_256, k_512, k_580, k_600, k_1000, k_4096, k_far, k_o, nI_add, n_mul, n_sub, n_div, n_rem, n_lt, n_le, n_eq, n_cl, n_and, n_or, n_xor, m1_lt, lt_m1, m1_eq, eq_m1, le_m1, m1_le, m2_eq, up_eq, up_ne, n_shl, n_shr, b2_some, let_e, ob_some, bI_0, bI_a, bI_t, bI_f, if_true, if_false, ite_true, ite_false, true_and, and_true, false_and, and_false, true_or, or_true, false_or, or_false, not_true_eq_false, not_false_eq_true, ite_not, ne_eq, Bool.true_eq_false, Bool.false_eq_true, reduceCtorEq, decide_true, decide_false, Bool.and_true, Bool.and_false, Bool.true_and, Bool.false_and, Bool.or_true, Bool.or_false, Bool.not_true, Bool.not_false, Nat.add_zero, Nat.zero_add, eq_self, Nat.not_lt_zero, Nat.reduceAdd, Nat.reduceMul, Nat.reduceSub, Nat.reduceDiv, Nat.reduceMod, Nat.reduceAnd, Nat.reduceXor, Nat.reduceEqDiff, Nat.reducePow, lt_T, lt_F, le_T, le_F, eq_F]
    exact p3
  | succ r ih =>
    intro h0 fuel hf hr M hmu T
    obtain ⟨g, rfl⟩ : ∃ g, fuel = g + 1 := ⟨fuel - 1, by omega⟩
    obtain ⟨D, hD⟩ : ∃ D, r + 1 < pn π → tD π mu f (r + 1 + 1) D h0 := by
      by_cases q : r + 1 < pn π
      · obtain ⟨D, z⟩ := T q
        exact ⟨D, fun _ => z⟩
      · exact ⟨fun _ => 0, fun t => absurd t q⟩
    have hn := k.1
    obtain ⟨h', p1, p2, p3⟩ := m_11 (K5 := qX12_findCosts_5 g) k hi M hf1 hr hmu hD (2 ^ pp π) 0 h0 qm_N (by omega) (by unfold qm_N; omega) (qFr.refl _ h0) (fun m hm => absurd hm (Nat.not_lt_zero m))
    obtain ⟨h2, q1, q2, q3⟩ := ih h' g (by omega) (by omega) (M.mv (fun q _ _ => (p1 62 q (by omega)).1) (fun q => (p1 70 q (by omega)).1)) (fun r hr => by rw [(p1 83 r (by omega)).1]; exact hmu r hr) (fun _ => don_t p2)
    refine ⟨h2, (p1.mono (fun a q z => z.1)).trans q1, q2, ?_⟩
    have e : nI (r + 1) - nI 1 = nI r := by
      simp (disch := omega) only [↓reduceIte, ↓q_m1, ↓q_m2, k_o, k_0, k_1, k_2, k_3, k_4, k_5, k_6, k_7, k_8, k_9, k_10, k_11, k_16, k_17, k_19, k_20, k_24, k_26, k_27, k_30, k_32, k_33, k_35, k_40, k_43, k_48, k_50, k_57, k_60, k_64, k_81, k_86, k_34, k_66, k_322, k_97, k_99, k_100, k_122, k_128, k_160, k_161, k_255, k_256, k_512, k_580, k_600, k_1000, k_4096, k_far, k_o, nI_add, n_mul, n_sub, n_div, n_rem, n_lt, n_le, n_eq, n_cl, n_and, n_or, n_xor, m1_lt, lt_m1, m1_eq, eq_m1, le_m1, m1_le, m2_eq, up_eq, up_ne, n_shl, n_shr, b2_some, let_e, ob_some, bI_0, bI_a, bI_t, bI_f, if_true, if_false, ite_true, ite_false, true_and, and_true, false_and, and_false, true_or, or_true, false_or, or_false, not_true_eq_false, not_false_eq_true, ite_not, ne_eq, Bool.true_eq_false, Bool.false_eq_true, reduceCtorEq, decide_true, decide_false, Bool.and_true, Bool.and_false, Bool.true_and, Bool.false_and, Bool.or_true, Bool.or_false, Bool.not_true, Bool.not_false, Nat.add_zero, Nat.zero_add, eq_self, Nat.not_lt_zero, Nat.reduceAdd, Nat.reduceMul, Nat.reduceSub, Nat.reduceDiv, Nat.reduceMod, Nat.reduceAnd, Nat.reduceXor, Nat.reduceEqDiff, Nat.reducePow, lt_T, lt_F, le_T, le_F, eq_F]
      omega
    rw [e, q3] at p3
    unfold qX12_findCosts_5
    simp (disch := omega) only [↓reduceIte, ↓q_m1, ↓q_m2, k_o, k_0, k_1, k_2, k_3, k_4, k_5, k_6, k_7, k_8, k_9, k_10, k_11, k_16, k_17, k_19, k_20, k_24, k_26, k_27, k_30, k_32, k_33, k_35, k_40, k_43, k_48, k_50, k_57, k_60, k_64, k_81, k_86, k_34, k_66, k_322, k_97, k_99, k_100, k_122, k_128, k_160, k_161, k_255, k_256, k_512, k_580, k_600, k_1000, k_4096, k_far, k_o, nI_add, n_mul, n_sub, n_div, n_rem, n_lt, n_le, n_eq, n_cl, n_and, n_or, n_xor, m1_lt, lt_m1, m1_eq, eq_m1, le_m1, m1_le, m2_eq, up_eq, up_ne, n_shl, n_shr, b2_some, let_e, ob_some, bI_0, bI_a, bI_t, bI_f, if_true, if_false, ite_true, ite_false, true_and, and_true, false_and, and_false, true_or, or_true, false_or, or_false, not_true_eq_false, not_false_eq_true, ite_not, ne_eq, Bool.true_eq_false, Bool.false_eq_true, reduceCtorEq, decide_true, decide_false, Bool.and_true, Bool.and_false, Bool.true_and, Bool.false_and, Bool.or_true, Bool.or_false, Bool.not_true, Bool.not_false, Nat.add_zero, Nat.zero_add, eq_self, Nat.not_lt_zero, Nat.reduceAdd, Nat.reduceMul, Nat.reduceSub, Nat.reduceDiv, Nat.reduceMod, Nat.reduceAnd, Nat.reduceXor, Nat.reduceEqDiff, Nat.reducePow, lt_T, lt_F, le_T, le_F, eq_F]
    exact p3
/-- the reference's costs -/
theorem m_fcosts (k : pOK π) (hi : i < 2) (hf1 : f ≤ 1) {h : qm_H} (M : pM i π h) (hmu : ∀ r, r < pn π → mu r < 256 ∧ h.1 83 r = nI (mu r)) : ∃ D h', qFr (fun a _ => a = 84) h h' ∧ tD π mu f 0 D h' ∧ qX12_findCosts 62 (nI f) h = some h' := by
  have hn := k.1
  obtain ⟨h', p1, ⟨D, p2⟩, p3⟩ := m_5 (mu := mu) k hi hf1 (pn π) h qm_N (by unfold qm_N; omega) (Nat.le_refl _) M hmu (fun t => absurd t (Nat.lt_irrefl _))
  refine ⟨D, h', p1, p2, ?_⟩
  unfold qX12_findCosts
  rw [M.2.1]
  exact p3
end MCP
