/-! text: a line of CLUES, the reference's. -/
def DmK (F : fl) (d : dK) (h : qm_H) : Prop := d.1.2.2.1 ≤ 10 ∧ h.1 72 2 = nI d.1.2.2.1 ∧ (F.2.1 = 0 → (h.1 72 0 = nI d.1.1 ∧ h.1 72 1 = nI d.1.2.1) ∧ (∀ k, k < d.1.2.2.1 → h.1 72 (3 + 3 * k) = nI (d.1.2.2.2.1 k) ∧ h.1 72 (4 + 3 * k) = nI (d.1.2.2.2.2.1 k) ∧ h.1 72 (5 + 3 * k) = nI (d.1.2.2.2.2.2 k)) ∧ farR d.2.1 (h.1 62 21) ∧ farR d.2.2 (h.1 62 22))
theorem DmK.mk {F : fl} {w g m fx fy : Nat} {T X Y : Nat → Nat} {h : qm_H} (a : m ≤ 10) (b : h.1 72 2 = nI m) (c : F.2.1 = 0 → (h.1 72 0 = nI w ∧ h.1 72 1 = nI g) ∧ (∀ k, k < m → h.1 72 (3 + 3 * k) = nI (T k) ∧ h.1 72 (4 + 3 * k) = nI (X k) ∧ h.1 72 (5 + 3 * k) = nI (Y k)) ∧ farR fx (h.1 62 21) ∧ farR fy (h.1 62 22)) : DmK F ((w, g, m, T, X, Y), fx, fy) h := ⟨a, b, c⟩
theorem DmK.mv {F G : fl} {d : dK} {h h' : qm_H} (D : DmK F d h) (e : ∀ k, h'.1 72 k = h.1 72 k) (e1 : h'.1 62 21 = h.1 62 21) (e2 : h'.1 62 22 = h.1 62 22) (i : G.2.1 = 0 → F.2.1 = 0) : DmK G d h' := by
  obtain ⟨a1, a2, a3⟩ := D
  refine ⟨a1, by rw [e]; exact a2, fun z => ?_⟩
  simp only [e, e1, e2]
  exact a3 (i z)
theorem m_k140 {B : Nat → Nat} {n t x y fx fy : Nat} {F : fl} {h : qm_H} {d : dK} (M : fM B n F h) (hm : d.1.2.2.1 ≤ 10) (e2 : h.1 72 2 = nI d.1.2.2.1) (v : F.2.1 = 0 → ((h.1 72 0 = nI d.1.1 ∧ h.1 72 1 = nI d.1.2.1) ∧ (∀ k, k < d.1.2.2.1 → h.1 72 (3 + 3 * k) = nI (d.1.2.2.2.1 k) ∧ h.1 72 (4 + 3 * k) = nI (d.1.2.2.2.2.1 k) ∧ h.1 72 (5 + 3 * k) = nI (d.1.2.2.2.2.2 k)) ∧ farR fx (h.1 62 21) ∧ farR fy (h.1 62 22)) ∧ h.1 73 1 = nI x ∧ h.1 73 2 = nI y) : ∃ h', qX12_clueLine_140 62 (nI t) h = some (nI 1, h') ∧ fM B n F h' ∧ DmK F (kAdd d t x y fx fy) h' ∧ qFr rP h h' := by
  obtain ⟨h', b1, b2, b3, b4, b5⟩ := m_keep (c := 2) (fr := 3) (wd := 3) (m := d.1.2.2.1) (most := 10) (h := qm_seti h 73 0 (nI t)) (by omega) (by omega) hm (by omega) (by omega) (by rw [sI_ne (by omega)]; exact e2)
  have q62 : ∀ k, h'.1 62 k = h.1 62 k := fun k => by rw [(b5 _ _ (by omega)).1, sI_ne (by omega)]
  refine ⟨h', ?_, M.mv (fun k _ _ _ => q62 k) (by rw [(b5 _ _ (by omega)).2]) (fun j => by rw [(b5 _ _ (by omega)).1, sI_ne (by omega)]), ?_, (qFr.seti (by unfold rP; omega)).trans (b5.mono (fun a k z => by unfold rP; omega))⟩
  · unfold qX12_clueLine_140
    simp (disch := omega) only [↓reduceIte, ↓q_m1, ↓q_m2, k_o, k_0, k_1, k_2, k_3, k_4, k_5, k_6, k_7, k_8, k_9, k_10, k_11, k_16, k_17, k_19, k_20, k_24, k_26, k_27, k_30, k_32, k_33, k_35, k_40, k_43, k_48, k_50, k_57, k_60, k_64, k_81, k_86, k_34, k_66, k_322, k_97, k_99, k_100, k_122, k_128, k_160, k_161, k_255, k_256, k_512, k_580, k_600, k_1000, k_4096, k_far, k_o, nI_add, n_mul, n_sub, n_div, n_rem, n_lt, n_le, n_eq, n_cl, n_and, n_or, n_xor, m1_lt, lt_m1, m1_eq, eq_m1, le_m1, m1_le, m2_eq, up_eq, up_ne, n_shl, n_shr, b2_some, let_e, ob_some, bI_0, bI_a, bI_t, bI_f, if_true, if_false, ite_true, ite_false, true_and, and_true, false_and, and_false, true_or, or_true, false_or, or_false, not_true_eq_false, not_false_eq_true, ite_not, ne_eq, Bool.true_eq_false, Bool.false_eq_true, reduceCtorEq, decide_true, decide_false, Bool.and_true, Bool.and_false, Bool.true_and, Bool.false_and, Bool.or_true, Bool.or_false, Bool.not_true, Bool.not_false, Nat.add_zero, Nat.zero_add, eq_self, Nat.not_lt_zero, Nat.reduceAdd, Nat.reduceMul, Nat.reduceSub, Nat.reduceDiv, Nat.reduceMod, Nat.reduceAnd, Nat.reduceXor, Nat.reduceEqDiff, Nat.reducePow, lt_T, lt_F, le_T, le_F, eq_F, b1]
  · unfold kAdd
    by_cases q : d.1.2.2.1 < 10
    · rw [if_pos q] at b2 ⊢
      refine DmK.mk (by omega) b2 (fun z0 => ?_)
      obtain ⟨⟨⟨v1, v2⟩, v3, v4, v5⟩, v6, v7⟩ := v z0
      refine ⟨⟨by rw [b4 _ (by omega) (by omega), sI_ne (by omega)]; exact v1, by rw [b4 _ (by omega) (by omega), sI_ne (by omega)]; exact v2⟩, fun k hk => ?_, by rw [q62]; exact v4, by rw [q62]; exact v5⟩
      unfold yup
      by_cases z : k = d.1.2.2.1
      · rw [if_pos z, if_pos z, if_pos z, z]
        have j0 := b3 q 0 (by omega)
        have j1 := b3 q 1 (by omega)
        have j2 := b3 q 2 (by omega)
        rw [sI_eq, show 3 + 3 * d.1.2.2.1 + 0 = 3 + 3 * d.1.2.2.1 by omega] at j0
        rw [sI_ne (by omega), v6, show 3 + 3 * d.1.2.2.1 + 1 = 4 + 3 * d.1.2.2.1 by omega] at j1
        rw [sI_ne (by omega), v7, show 3 + 3 * d.1.2.2.1 + 2 = 5 + 3 * d.1.2.2.1 by omega] at j2
        exact ⟨j0, j1, j2⟩
      · rw [if_neg z, if_neg z, if_neg z]
        rw [b4 _ (by omega) (by omega), b4 _ (by omega) (by omega), b4 _ (by omega) (by omega), sI_ne (by omega), sI_ne (by omega), sI_ne (by omega)]
        exact v3 k (by omega)
    · rw [if_neg q] at b2 ⊢
      refine ⟨hm, b2, fun z0 => ?_⟩
      obtain ⟨⟨⟨v1, v2⟩, v3, v4, v5⟩, v6, v7⟩ := v z0
      refine ⟨⟨by rw [b4 _ (by omega) (by omega), sI_ne (by omega)]; exact v1, by rw [b4 _ (by omega) (by omega), sI_ne (by omega)]; exact v2⟩, fun k hk => ?_, by rw [q62]; exact v4, by rw [q62]; exact v5⟩
      rw [b4 _ (by omega) (by omega), b4 _ (by omega) (by omega), b4 _ (by omega) (by omega), sI_ne (by omega), sI_ne (by omega), sI_ne (by omega)]
      exact v3 k hk
/-- the line behind a CLUE's word -/
theorem m_kcell {B : Nat → Nat} {n t : Nat} {G F' : fl} {h : qm_H} {d d' : dK} (M : fM B n G h) (D : DmK G d h) (L : kCell B n t G d F' d') : (F'.2.1 = 1 ∧ ∃ h', qX12_takeCell 62 (nI 1) h = some (nI 0, h') ∧ h'.1 62 16 = nI F'.2.2 ∧ qFr rP h h') ∨ (F'.2.1 ≠ 1 ∧ ∃ h1 h', qX12_takeCell 62 (nI 1) h = some (nI 1, h1) ∧ qX12_clueLine_140 62 (nI t) h1 = some (nI 1, h') ∧ fM B n F' h' ∧ DmK F' d' h' ∧ qFr rP h h') := by
  obtain ⟨e1, e2⟩ := L
  rw [e1, e2]
  rcases m_cell (k := 1) M (by omega) with ⟨z, h', b1, b2, b3⟩ | ⟨z, v1, v2, h1, b1, b2, b3, b4, b5, b6, b7, b8⟩
  · exact Or.inl ⟨z, h', b1, b2, b3.mono (fun a k y => y.r)⟩
  · simp only [Nat.reduceAdd] at b6
    have q72 : ∀ k, h1.1 72 k = h.1 72 k := fun k => (b8 _ _ (by unfold mT2 mP; omega)).1
    obtain ⟨h', i1, i2, i3, i4⟩ := m_k140 (t := t) (x := (fNum B n 0 7 G).1) (y := (fNum B n 0 7 (fNum B n 0 7 G).2).1) (fx := max d.2.1 (fNum B n 0 7 G).1) (fy := max d.2.2 (fNum B n 0 7 (fNum B n 0 7 G).2).1) (d := d) b2 D.1 (by rw [q72]; exact D.2.1) (fun z0 => by
      obtain ⟨w1, w2, _, w4⟩ := b7 z0
      have k1 := fNum_0 (fNum_0 z0)
      obtain ⟨x1, x2, x3, x4⟩ := D.2.2 k1
      obtain ⟨y1, y2⟩ := w4 _ _ x3 x4
      rw [w1] at y1 b5
      rw [w2] at y2 b6
      refine ⟨⟨by rw [q72, q72]; exact x1, fun k hk => by rw [q72, q72, q72]; exact x2 k hk, y1, y2⟩, b5, b6⟩)
    exact Or.inr ⟨z, h1, h', b1, i1, i2, i3, (b8.mono (fun a k y => y.r)).trans i4⟩
theorem m_ksize {B : Nat → Nat} {n t : Nat} {G F' : fl} {h : qm_H} {d d' : dK} (M : fM B n G h) (D : DmK G d h) (L : kSize B n t G d F' d') : (F'.2.1 = 1 ∧ ∃ h', h'.1 62 16 = nI F'.2.2 ∧ qFr rP h h' ∧ (qX12_take 62 (nI 1) (nI 1) (nI 8) h = some (nI 0, h') ∨ ∃ h1, qX12_take 62 (nI 1) (nI 1) (nI 8) h = some (nI 1, h1) ∧ qX12_take 62 (nI 2) (nI 1) (nI 8) h1 = some (nI 0, h'))) ∨ (F'.2.1 ≠ 1 ∧ ∃ h1 h2 h', qX12_take 62 (nI 1) (nI 1) (nI 8) h = some (nI 1, h1) ∧ qX12_take 62 (nI 2) (nI 1) (nI 8) h1 = some (nI 1, h2) ∧ qX12_clueLine_140 62 (nI t) h2 = some (nI 1, h') ∧ fM B n F' h' ∧ DmK F' d' h' ∧ qFr rP h h') := by
  obtain ⟨e1, e2⟩ := L
  rw [e1, e2]
  rcases m_take2 (k := 1) (l1 := 1) (u1 := 8) (l2 := 1) (u2 := 8) M (by omega) (by omega) (by omega) (by omega) (by omega) with ⟨z, h', b1, b2, b3⟩ | ⟨z, v1, v2, h1, h2, b1, b2, b3, b4, b5, b6, b7, b8, b9⟩
  · exact Or.inl ⟨z, h', b1, b2.mono (fun a k y => y.r), b3⟩
  · simp only [Nat.reduceAdd] at b2 b7
    have q72 : ∀ k, h2.1 72 k = h.1 72 k := fun k => (b9 _ _ (by unfold mU mP; omega)).1
    obtain ⟨h', i1, i2, i3, i4⟩ := m_k140 (t := t) (x := (fNum B n 1 8 G).1) (y := (fNum B n 1 8 (fNum B n 1 8 G).2).1) (fx := d.2.1) (fy := d.2.2) (d := d) b3 D.1 (by rw [q72]; exact D.2.1) (fun z0 => by
      obtain ⟨w1, w2, _⟩ := b8 z0
      have k1 := fNum_0 (fNum_0 z0)
      obtain ⟨x1, x2, x3, x4⟩ := D.2.2 k1
      rw [w1] at b6
      rw [w2] at b7
      refine ⟨⟨by rw [q72, q72]; exact x1, fun k hk => by rw [q72, q72, q72]; exact x2 k hk, ?_, ?_⟩, b6, b7⟩
      · rw [(b9 _ _ (by unfold mU mP; omega)).1]; exact x3
      · rw [(b9 _ _ (by unfold mU mP; omega)).1]; exact x4)
    exact Or.inr ⟨z, h1, h2, h', b1, b2, i1, i2, i3, (b9.mono (fun a k y => y.r)).trans i4⟩
theorem m_lineK {B : Nat → Nat} {n : Nat} {F F' : fl} {h : qm_H} {d d' : dK} (M : fM B n F h) (D : DmK F d h) (L : LnK B n F d F' d') : mOut B n DmK (qX12_lineOf 62 (nI 3) (lN (tW B n F.1)) (nI (tS B n F.1)) h) h F' d' := by
  have tl := tW_lt B n F.1
  rcases L with ⟨w, e1, e2⟩ | ⟨w0, L⟩
  · have k1 := tW_K (B := B) (n := n) (p := F.1) (by omega)
    obtain ⟨h2, b1, b2, b3⟩ := m_fadv M.w (by omega)
    have fr2 : qFr rP h h2 := b3.mono (fun _ _ y => y.r)
    have D2 : DmK (fAdv B n F) d h2 := D.mv (fun k => (b3 _ _ (by unfold mtk; omega)).1) (b3 _ _ (by unfold mtk; omega)).1 (b3 _ _ (by unfold mtk; omega)).1 (fun z => z)
    rw [e1, e2]
    clear e1 e2
    generalize fAdv B n F = G at *
    rcases ym_size b2 with ⟨z, h', c1, c2, c3⟩ | ⟨z, h', c1, c2, c3, c4⟩
    · refine Or.inl ⟨z, h', ?_, c2, fr2.trans (c3.mono (fun a k y => y.r))⟩
      rw [w]
      unfold qX12_lineOf qX12_clueLine qX12_clueLine_49 qX12_clueLine_70 qX12_clueLine_84
      simp (disch := omega) only [↓reduceIte, ↓q_m1, ↓q_m2, k_o, k_0, k_1, k_2, k_3, k_4, k_5, k_6, k_7, k_8, k_9, k_10, k_11, k_16, k_17, k_19, k_20, k_24, k_26, k_27, k_30, k_32, k_33, k_35, k_40, k_43, k_48, k_50, k_57, k_60, k_64, k_81, k_86, k_34, k_66, k_322, k_97, k_99, k_100, k_122, k_128, k_160, k_161, k_255, k_256, k_512, k_580, k_600, k_1000, k_4096, k_far, k_o, nI_add, n_mul, n_sub, n_div, n_rem, n_lt, n_le, n_eq, n_cl, n_and, n_or, n_xor, m1_lt, lt_m1, m1_eq, eq_m1, le_m1, m1_le, m2_eq, up_eq, up_ne, n_shl, n_shr, b2_some, let_e, ob_some, bI_0, bI_a, bI_t, bI_f, if_true, if_false, ite_true, ite_false, true_and, and_true, false_and, and_false, true_or, or_true, false_or, or_false, not_true_eq_false, not_false_eq_true, ite_not, ne_eq, Bool.true_eq_false, Bool.false_eq_true, reduceCtorEq, decide_true, decide_false, Bool.and_true, Bool.and_false, Bool.true_and, Bool.false_and, Bool.or_true, Bool.or_false, Bool.not_true, Bool.not_false, Nat.add_zero, Nat.zero_add, eq_self, Nat.not_lt_zero, Nat.reduceAdd, Nat.reduceMul, Nat.reduceSub, Nat.reduceDiv, Nat.reduceMod, Nat.reduceAnd, Nat.reduceXor, Nat.reduceEqDiff, Nat.reducePow, lt_T, lt_F, le_T, le_F, eq_F, l_cmp0, wk0, wk1, wk13, wk14, wk15, ylN_eq, b1, c1]
    · refine Or.inr ⟨z, h', ?_, c2, ?_, fr2.trans (c4.mono (fun a k y => y.r))⟩
      · rw [w]
        unfold qX12_lineOf qX12_clueLine qX12_clueLine_49 qX12_clueLine_70 qX12_clueLine_84
        simp (disch := omega) only [↓reduceIte, ↓q_m1, ↓q_m2, k_o, k_0, k_1, k_2, k_3, k_4, k_5, k_6, k_7, k_8, k_9, k_10, k_11, k_16, k_17, k_19, k_20, k_24, k_26, k_27, k_30, k_32, k_33, k_35, k_40, k_43, k_48, k_50, k_57, k_60, k_64, k_81, k_86, k_34, k_66, k_322, k_97, k_99, k_100, k_122, k_128, k_160, k_161, k_255, k_256, k_512, k_580, k_600, k_1000, k_4096, k_far, k_o, nI_add, n_mul, n_sub, n_div, n_rem, n_lt, n_le, n_eq, n_cl, n_and, n_or, n_xor, m1_lt, lt_m1, m1_eq, eq_m1, le_m1, m1_le, m2_eq, up_eq, up_ne, n_shl, n_shr, b2_some, let_e, ob_some, bI_0, bI_a, bI_t, bI_f, if_true, if_false, ite_true, ite_false, true_and, and_true, false_and, and_false, true_or, or_true, false_or, or_false, not_true_eq_false, not_false_eq_true, ite_not, ne_eq, Bool.true_eq_false, Bool.false_eq_true, reduceCtorEq, decide_true, decide_false, Bool.and_true, Bool.and_false, Bool.true_and, Bool.false_and, Bool.or_true, Bool.or_false, Bool.not_true, Bool.not_false, Nat.add_zero, Nat.zero_add, eq_self, Nat.not_lt_zero, Nat.reduceAdd, Nat.reduceMul, Nat.reduceSub, Nat.reduceDiv, Nat.reduceMod, Nat.reduceAnd, Nat.reduceXor, Nat.reduceEqDiff, Nat.reducePow, lt_T, lt_F, le_T, le_F, eq_F, l_cmp0, wk0, wk1, wk13, wk14, wk15, ylN_eq, b1, c1]
      · have q : ∀ k, 2 ≤ k → h'.1 72 k = h2.1 72 k := fun k hk => (c4 _ _ (by unfold ySz mP; omega)).1
        refine DmK.mk D2.1 (by rw [q _ (by omega)]; exact D2.2.1) (fun z0 => ?_)
        have k1 := fNum_0 (fNum_0 z0)
        obtain ⟨x1, x2, x3, x4⟩ := D2.2.2 k1
        refine ⟨c3 z0, fun k hk => by rw [q _ (by omega), q _ (by omega), q _ (by omega)]; exact x2 k hk, ?_, ?_⟩
        · rw [(c4 _ _ (by unfold ySz mP; omega)).1]; exact x3
        · rw [(c4 _ _ (by unfold ySz mP; omega)).1]; exact x4
  · have gf := fFull_1 (B := B) (n := n) (m := d.1.2.2.1) (most := 10) M.2.2.1
    have pre : ∀ t, t ≤ 3 → tW B n F.1 ≠ 0 → qX12_clueLine 62 (lN (tW B n F.1)) (nI (tS B n F.1)) h = qX12_clueLine_49 62 (lN (tW B n F.1)) (nI (tS B n F.1)) (nI t) h → ∃ h2, fM B n (fAdv B n (fFull B n d.1.2.2.1 10 F)) h2 ∧ DmK (fAdv B n (fFull B n d.1.2.2.1 10 F)) d h2 ∧ qFr rP h h2 ∧ qX12_clueLine 62 (lN (tW B n F.1)) (nI (tS B n F.1)) h = (if nI t < (2 : Int32) then (qm_b2 (qX12_takeCell 62 ((1 : Int32)) h2) fun r7 h6 => if r7 = (0 : Int32) then some ((0 : Int32), h6) else qX12_clueLine_140 62 (nI t) h6) else (qm_b2 (qX12_take 62 ((1 : Int32)) ((1 : Int32)) ((8 : Int32)) h2) fun r3 h2 => if r3 = (0 : Int32) then some ((0 : Int32), h2) else qm_b2 (qX12_take 62 ((2 : Int32)) ((1 : Int32)) ((8 : Int32)) h2) fun r5 h4 => if r5 = (0 : Int32) then some ((0 : Int32), h4) else qX12_clueLine_140 62 (nI t) h4)) := by
      intro t ht hw hc
      have k1 := tW_K hw
      obtain ⟨h1, a1, a2, a3⟩ := m_full (c := 2) (m := d.1.2.2.1) (most := 10) M (by omega) D.2.1 D.1 (by omega)
      have a2 : fMw B n (fFull B n d.1.2.2.1 10 F) h1 := a2
      obtain ⟨h2, b1, b2, b3⟩ := m_fadv a2 (by rw [gf.1]; omega)
      refine ⟨h2, b2, D.mv (fun k => by rw [(b3 _ _ (by unfold mtk; omega)).1, (a3 _ _ (by omega)).1]) (by rw [(b3 _ _ (by unfold mtk; omega)).1, (a3 _ _ (by omega)).1]) (by rw [(b3 _ _ (by unfold mtk; omega)).1, (a3 _ _ (by omega)).1]) (fun z => (gf.2.2 z).1), (a3.mono (fun a k z => by unfold rP; omega)).trans (b3.mono (fun _ _ y => y.r)), ?_⟩
      rw [hc]
      unfold qX12_clueLine_49 qX12_clueLine_70 qX12_clueLine_84
      by_cases q : t < 2
      · simp (disch := omega) only [↓reduceIte, ↓q_m1, ↓q_m2, k_o, k_0, k_1, k_2, k_3, k_4, k_5, k_6, k_7, k_8, k_9, k_10, k_11, k_16, k_17, k_19, k_20, k_24, k_26, k_27, k_30, k_32, k_33, k_35, k_40, k_43, k_48, k_50, k_57, k_60, k_64, k_81, k_86, k_34, k_66, k_322, k_97, k_99, k_100, k_122, k_128, k_160, k_161, k_255, k_256, k_512, k_580, k_600, k_1000, k_4096, k_far, k_o, nI_add, n_mul, n_sub, n_div, n_rem, n_lt, n_le, n_eq, n_cl, n_and, n_or, n_xor, m1_lt, lt_m1, m1_eq, eq_m1, le_m1, m1_le, m2_eq, up_eq, up_ne, n_shl, n_shr, b2_some, let_e, ob_some, bI_0, bI_a, bI_t, bI_f, if_true, if_false, ite_true, ite_false, true_and, and_true, false_and, and_false, true_or, or_true, false_or, or_false, not_true_eq_false, not_false_eq_true, ite_not, ne_eq, Bool.true_eq_false, Bool.false_eq_true, reduceCtorEq, decide_true, decide_false, Bool.and_true, Bool.and_false, Bool.true_and, Bool.false_and, Bool.or_true, Bool.or_false, Bool.not_true, Bool.not_false, Nat.add_zero, Nat.zero_add, eq_self, Nat.not_lt_zero, Nat.reduceAdd, Nat.reduceMul, Nat.reduceSub, Nat.reduceDiv, Nat.reduceMod, Nat.reduceAnd, Nat.reduceXor, Nat.reduceEqDiff, Nat.reducePow, lt_T, lt_F, le_T, le_F, eq_F, a1, b1]
      · simp (disch := omega) only [↓reduceIte, ↓q_m1, ↓q_m2, k_o, k_0, k_1, k_2, k_3, k_4, k_5, k_6, k_7, k_8, k_9, k_10, k_11, k_16, k_17, k_19, k_20, k_24, k_26, k_27, k_30, k_32, k_33, k_35, k_40, k_43, k_48, k_50, k_57, k_60, k_64, k_81, k_86, k_34, k_66, k_322, k_97, k_99, k_100, k_122, k_128, k_160, k_161, k_255, k_256, k_512, k_580, k_600, k_1000, k_4096, k_far, k_o, nI_add, n_mul, n_sub, n_div, n_rem, n_lt, n_le, n_eq, n_cl, n_and, n_or, n_xor, m1_lt, lt_m1, m1_eq, eq_m1, le_m1, m1_le, m2_eq, up_eq, up_ne, n_shl, n_shr, b2_some, let_e, ob_some, bI_0, bI_a, bI_t, bI_f, if_true, if_false, ite_true, ite_false, true_and, and_true, false_and, and_false, true_or, or_true, false_or, or_false, not_true_eq_false, not_false_eq_true, ite_not, ne_eq, Bool.true_eq_false, Bool.false_eq_true, reduceCtorEq, decide_true, decide_false, Bool.and_true, Bool.and_false, Bool.true_and, Bool.false_and, Bool.or_true, Bool.or_false, Bool.not_true, Bool.not_false, Nat.add_zero, Nat.zero_add, eq_self, Nat.not_lt_zero, Nat.reduceAdd, Nat.reduceMul, Nat.reduceSub, Nat.reduceDiv, Nat.reduceMod, Nat.reduceAnd, Nat.reduceXor, Nat.reduceEqDiff, Nat.reducePow, lt_T, lt_F, le_T, le_F, eq_F, a1, b1]
    have cel : ∀ t F' d', t ≤ 1 → tW B n F.1 ≠ 0 → qX12_clueLine 62 (lN (tW B n F.1)) (nI (tS B n F.1)) h = qX12_clueLine_49 62 (lN (tW B n F.1)) (nI (tS B n F.1)) (nI t) h → kCell B n t (fAdv B n (fFull B n d.1.2.2.1 10 F)) d F' d' → mOut B n DmK (qX12_lineOf 62 (nI 3) (lN (tW B n F.1)) (nI (tS B n F.1)) h) h F' d' := by
      intro t F' d' ht hw hc L
      obtain ⟨h2, M2, D2, fr2, e⟩ := pre t (by omega) hw hc
      rcases m_kcell M2 D2 L with ⟨z, h', c1, c2, c3⟩ | ⟨z, h3, h', c1, c2, c3, c4, c5⟩
      · refine Or.inl ⟨z, h', ?_, c2, fr2.trans c3⟩
        unfold qX12_lineOf
        simp (disch := omega) only [↓reduceIte, ↓q_m1, ↓q_m2, k_o, k_0, k_1, k_2, k_3, k_4, k_5, k_6, k_7, k_8, k_9, k_10, k_11, k_16, k_17, k_19, k_20, k_24, k_26, k_27, k_30, k_32, k_33, k_35, k_40, k_43, k_48, k_50, k_57, k_60, k_64, k_81, k_86, k_34, k_66, k_322, k_97, k_99, k_100, k_122, k_128, k_160, k_161, k_255, k_256, k_512, k_580, k_600, k_1000, k_4096, k_far, k_o, nI_add, n_mul, n_sub, n_div, n_rem, n_lt, n_le, n_eq, n_cl, n_and, n_or, n_xor, m1_lt, lt_m1, m1_eq, eq_m1, le_m1, m1_le, m2_eq, up_eq, up_ne, n_shl, n_shr, b2_some, let_e, ob_some, bI_0, bI_a, bI_t, bI_f, if_true, if_false, ite_true, ite_false, true_and, and_true, false_and, and_false, true_or, or_true, false_or, or_false, not_true_eq_false, not_false_eq_true, ite_not, ne_eq, Bool.true_eq_false, Bool.false_eq_true, reduceCtorEq, decide_true, decide_false, Bool.and_true, Bool.and_false, Bool.true_and, Bool.false_and, Bool.or_true, Bool.or_false, Bool.not_true, Bool.not_false, Nat.add_zero, Nat.zero_add, eq_self, Nat.not_lt_zero, Nat.reduceAdd, Nat.reduceMul, Nat.reduceSub, Nat.reduceDiv, Nat.reduceMod, Nat.reduceAnd, Nat.reduceXor, Nat.reduceEqDiff, Nat.reducePow, lt_T, lt_F, le_T, le_F, eq_F, e, c1]
      · refine Or.inr ⟨z, h', ?_, c3, c4, fr2.trans c5⟩
        unfold qX12_lineOf
        simp (disch := omega) only [↓reduceIte, ↓q_m1, ↓q_m2, k_o, k_0, k_1, k_2, k_3, k_4, k_5, k_6, k_7, k_8, k_9, k_10, k_11, k_16, k_17, k_19, k_20, k_24, k_26, k_27, k_30, k_32, k_33, k_35, k_40, k_43, k_48, k_50, k_57, k_60, k_64, k_81, k_86, k_34, k_66, k_322, k_97, k_99, k_100, k_122, k_128, k_160, k_161, k_255, k_256, k_512, k_580, k_600, k_1000, k_4096, k_far, k_o, nI_add, n_mul, n_sub, n_div, n_rem, n_lt, n_le, n_eq, n_cl, n_and, n_or, n_xor, m1_lt, lt_m1, m1_eq, eq_m1, le_m1, m1_le, m2_eq, up_eq, up_ne, n_shl, n_shr, b2_some, let_e, ob_some, bI_0, bI_a, bI_t, bI_f, if_true, if_false, ite_true, ite_false, true_and, and_true, false_and, and_false, true_or, or_true, false_or, or_false, not_true_eq_false, not_false_eq_true, ite_not, ne_eq, Bool.true_eq_false, Bool.false_eq_true, reduceCtorEq, decide_true, decide_false, Bool.and_true, Bool.and_false, Bool.true_and, Bool.false_and, Bool.or_true, Bool.or_false, Bool.not_true, Bool.not_false, Nat.add_zero, Nat.zero_add, eq_self, Nat.not_lt_zero, Nat.reduceAdd, Nat.reduceMul, Nat.reduceSub, Nat.reduceDiv, Nat.reduceMod, Nat.reduceAnd, Nat.reduceXor, Nat.reduceEqDiff, Nat.reducePow, lt_T, lt_F, le_T, le_F, eq_F, e, c1, c2]
    have siz : ∀ t F' d', 2 ≤ t → t ≤ 3 → tW B n F.1 ≠ 0 → qX12_clueLine 62 (lN (tW B n F.1)) (nI (tS B n F.1)) h = qX12_clueLine_49 62 (lN (tW B n F.1)) (nI (tS B n F.1)) (nI t) h → kSize B n t (fAdv B n (fFull B n d.1.2.2.1 10 F)) d F' d' → mOut B n DmK (qX12_lineOf 62 (nI 3) (lN (tW B n F.1)) (nI (tS B n F.1)) h) h F' d' := by
      intro t F' d' ht ht3 hw hc L
      obtain ⟨h2, M2, D2, fr2, e⟩ := pre t ht3 hw hc
      rcases m_ksize M2 D2 L with ⟨z, h', c1, c2, c3⟩ | ⟨z, h3, h4, h', c1, c2, c3, c4, c5, c6⟩
      · refine Or.inl ⟨z, h', ?_, c1, fr2.trans c2⟩
        unfold qX12_lineOf
        rcases c3 with c3 | ⟨h3, c3, c4⟩
        · simp (disch := omega) only [↓reduceIte, ↓q_m1, ↓q_m2, k_o, k_0, k_1, k_2, k_3, k_4, k_5, k_6, k_7, k_8, k_9, k_10, k_11, k_16, k_17, k_19, k_20, k_24, k_26, k_27, k_30, k_32, k_33, k_35, k_40, k_43, k_48, k_50, k_57, k_60, k_64, k_81, k_86, k_34, k_66, k_322, k_97, k_99, k_100, k_122, k_128, k_160, k_161, k_255, k_256, k_512, k_580, k_600, k_1000, k_4096, k_far, k_o, nI_add, n_mul, n_sub, n_div, n_rem, n_lt, n_le, n_eq, n_cl, n_and, n_or, n_xor, m1_lt, lt_m1, m1_eq, eq_m1, le_m1, m1_le, m2_eq, up_eq, up_ne, n_shl, n_shr, b2_some, let_e, ob_some, bI_0, bI_a, bI_t, bI_f, if_true, if_false, ite_true, ite_false, true_and, and_true, false_and, and_false, true_or, or_true, false_or, or_false, not_true_eq_false, not_false_eq_true, ite_not, ne_eq, Bool.true_eq_false, Bool.false_eq_true, reduceCtorEq, decide_true, decide_false, Bool.and_true, Bool.and_false, Bool.true_and, Bool.false_and, Bool.or_true, Bool.or_false, Bool.not_true, Bool.not_false, Nat.add_zero, Nat.zero_add, eq_self, Nat.not_lt_zero, Nat.reduceAdd, Nat.reduceMul, Nat.reduceSub, Nat.reduceDiv, Nat.reduceMod, Nat.reduceAnd, Nat.reduceXor, Nat.reduceEqDiff, Nat.reducePow, lt_T, lt_F, le_T, le_F, eq_F, e, c3]
        · simp (disch := omega) only [↓reduceIte, ↓q_m1, ↓q_m2, k_o, k_0, k_1, k_2, k_3, k_4, k_5, k_6, k_7, k_8, k_9, k_10, k_11, k_16, k_17, k_19, k_20, k_24, k_26, k_27, k_30, k_32, k_33, k_35, k_40, k_43, k_48, k_50, k_57, k_60, k_64, k_81, k_86, k_34, k_66, k_322, k_97, k_99, k_100, k_122, k_128, k_160, k_161, k_255, k_256, k_512, k_580, k_600, k_1000, k_4096, k_far, k_o, nI_add, n_mul, n_sub, n_div, n_rem, n_lt, n_le, n_eq, n_cl, n_and, n_or, n_xor, m1_lt, lt_m1, m1_eq, eq_m1, le_m1, m1_le, m2_eq, up_eq, up_ne, n_shl, n_shr, b2_some, let_e, ob_some, bI_0, bI_a, bI_t, bI_f, if_true, if_false, ite_true, ite_false, true_and, and_true, false_and, and_false, true_or, or_true, false_or, or_false, not_true_eq_false, not_false_eq_true, ite_not, ne_eq, Bool.true_eq_false, Bool.false_eq_true, reduceCtorEq, decide_true, decide_false, Bool.and_true, Bool.and_false, Bool.true_and, Bool.false_and, Bool.or_true, Bool.or_false, Bool.not_true, Bool.not_false, Nat.add_zero, Nat.zero_add, eq_self, Nat.not_lt_zero, Nat.reduceAdd, Nat.reduceMul, Nat.reduceSub, Nat.reduceDiv, Nat.reduceMod, Nat.reduceAnd, Nat.reduceXor, Nat.reduceEqDiff, Nat.reducePow, lt_T, lt_F, le_T, le_F, eq_F, e, c3, c4]
      · refine Or.inr ⟨z, h', ?_, c4, c5, fr2.trans c6⟩
        unfold qX12_lineOf
        simp (disch := omega) only [↓reduceIte, ↓q_m1, ↓q_m2, k_o, k_0, k_1, k_2, k_3, k_4, k_5, k_6, k_7, k_8, k_9, k_10, k_11, k_16, k_17, k_19, k_20, k_24, k_26, k_27, k_30, k_32, k_33, k_35, k_40, k_43, k_48, k_50, k_57, k_60, k_64, k_81, k_86, k_34, k_66, k_322, k_97, k_99, k_100, k_122, k_128, k_160, k_161, k_255, k_256, k_512, k_580, k_600, k_1000, k_4096, k_far, k_o, nI_add, n_mul, n_sub, n_div, n_rem, n_lt, n_le, n_eq, n_cl, n_and, n_or, n_xor, m1_lt, lt_m1, m1_eq, eq_m1, le_m1, m1_le, m2_eq, up_eq, up_ne, n_shl, n_shr, b2_some, let_e, ob_some, bI_0, bI_a, bI_t, bI_f, if_true, if_false, ite_true, ite_false, true_and, and_true, false_and, and_false, true_or, or_true, false_or, or_false, not_true_eq_false, not_false_eq_true, ite_not, ne_eq, Bool.true_eq_false, Bool.false_eq_true, reduceCtorEq, decide_true, decide_false, Bool.and_true, Bool.and_false, Bool.true_and, Bool.false_and, Bool.or_true, Bool.or_false, Bool.not_true, Bool.not_false, Nat.add_zero, Nat.zero_add, eq_self, Nat.not_lt_zero, Nat.reduceAdd, Nat.reduceMul, Nat.reduceSub, Nat.reduceDiv, Nat.reduceMod, Nat.reduceAnd, Nat.reduceXor, Nat.reduceEqDiff, Nat.reducePow, lt_T, lt_F, le_T, le_F, eq_F, e, c1, c2, c3]
    unfold LnK2 at L
    rw [gf.1] at L
    rcases L with ⟨w, L⟩ | ⟨w, L⟩ | ⟨w, L⟩ | ⟨w, L⟩ | ⟨w1, w13, w14, w15, e1⟩
    · refine cel 0 _ _ (by omega) (by omega) ?_ L
      rw [w]
      unfold qX12_clueLine
      simp (disch := omega) only [↓reduceIte, ↓q_m1, ↓q_m2, k_o, k_0, k_1, k_2, k_3, k_4, k_5, k_6, k_7, k_8, k_9, k_10, k_11, k_16, k_17, k_19, k_20, k_24, k_26, k_27, k_30, k_32, k_33, k_35, k_40, k_43, k_48, k_50, k_57, k_60, k_64, k_81, k_86, k_34, k_66, k_322, k_97, k_99, k_100, k_122, k_128, k_160, k_161, k_255, k_256, k_512, k_580, k_600, k_1000, k_4096, k_far, k_o, nI_add, n_mul, n_sub, n_div, n_rem, n_lt, n_le, n_eq, n_cl, n_and, n_or, n_xor, m1_lt, lt_m1, m1_eq, eq_m1, le_m1, m1_le, m2_eq, up_eq, up_ne, n_shl, n_shr, b2_some, let_e, ob_some, bI_0, bI_a, bI_t, bI_f, if_true, if_false, ite_true, ite_false, true_and, and_true, false_and, and_false, true_or, or_true, false_or, or_false, not_true_eq_false, not_false_eq_true, ite_not, ne_eq, Bool.true_eq_false, Bool.false_eq_true, reduceCtorEq, decide_true, decide_false, Bool.and_true, Bool.and_false, Bool.true_and, Bool.false_and, Bool.or_true, Bool.or_false, Bool.not_true, Bool.not_false, Nat.add_zero, Nat.zero_add, eq_self, Nat.not_lt_zero, Nat.reduceAdd, Nat.reduceMul, Nat.reduceSub, Nat.reduceDiv, Nat.reduceMod, Nat.reduceAnd, Nat.reduceXor, Nat.reduceEqDiff, Nat.reducePow, lt_T, lt_F, le_T, le_F, eq_F, l_cmp0, wk1, wk13, wk14, wk15, ylN_eq]
    · refine cel 1 _ _ (by omega) (by omega) ?_ L
      rw [w]
      unfold qX12_clueLine
      simp (disch := omega) only [↓reduceIte, ↓q_m1, ↓q_m2, k_o, k_0, k_1, k_2, k_3, k_4, k_5, k_6, k_7, k_8, k_9, k_10, k_11, k_16, k_17, k_19, k_20, k_24, k_26, k_27, k_30, k_32, k_33, k_35, k_40, k_43, k_48, k_50, k_57, k_60, k_64, k_81, k_86, k_34, k_66, k_322, k_97, k_99, k_100, k_122, k_128, k_160, k_161, k_255, k_256, k_512, k_580, k_600, k_1000, k_4096, k_far, k_o, nI_add, n_mul, n_sub, n_div, n_rem, n_lt, n_le, n_eq, n_cl, n_and, n_or, n_xor, m1_lt, lt_m1, m1_eq, eq_m1, le_m1, m1_le, m2_eq, up_eq, up_ne, n_shl, n_shr, b2_some, let_e, ob_some, bI_0, bI_a, bI_t, bI_f, if_true, if_false, ite_true, ite_false, true_and, and_true, false_and, and_false, true_or, or_true, false_or, or_false, not_true_eq_false, not_false_eq_true, ite_not, ne_eq, Bool.true_eq_false, Bool.false_eq_true, reduceCtorEq, decide_true, decide_false, Bool.and_true, Bool.and_false, Bool.true_and, Bool.false_and, Bool.or_true, Bool.or_false, Bool.not_true, Bool.not_false, Nat.add_zero, Nat.zero_add, eq_self, Nat.not_lt_zero, Nat.reduceAdd, Nat.reduceMul, Nat.reduceSub, Nat.reduceDiv, Nat.reduceMod, Nat.reduceAnd, Nat.reduceXor, Nat.reduceEqDiff, Nat.reducePow, lt_T, lt_F, le_T, le_F, eq_F, l_cmp0, wk1, wk13, wk14, wk15, ylN_eq]
    · refine siz 2 _ _ (by omega) (by omega) (by omega) ?_ L
      rw [w]
      unfold qX12_clueLine
      simp (disch := omega) only [↓reduceIte, ↓q_m1, ↓q_m2, k_o, k_0, k_1, k_2, k_3, k_4, k_5, k_6, k_7, k_8, k_9, k_10, k_11, k_16, k_17, k_19, k_20, k_24, k_26, k_27, k_30, k_32, k_33, k_35, k_40, k_43, k_48, k_50, k_57, k_60, k_64, k_81, k_86, k_34, k_66, k_322, k_97, k_99, k_100, k_122, k_128, k_160, k_161, k_255, k_256, k_512, k_580, k_600, k_1000, k_4096, k_far, k_o, nI_add, n_mul, n_sub, n_div, n_rem, n_lt, n_le, n_eq, n_cl, n_and, n_or, n_xor, m1_lt, lt_m1, m1_eq, eq_m1, le_m1, m1_le, m2_eq, up_eq, up_ne, n_shl, n_shr, b2_some, let_e, ob_some, bI_0, bI_a, bI_t, bI_f, if_true, if_false, ite_true, ite_false, true_and, and_true, false_and, and_false, true_or, or_true, false_or, or_false, not_true_eq_false, not_false_eq_true, ite_not, ne_eq, Bool.true_eq_false, Bool.false_eq_true, reduceCtorEq, decide_true, decide_false, Bool.and_true, Bool.and_false, Bool.true_and, Bool.false_and, Bool.or_true, Bool.or_false, Bool.not_true, Bool.not_false, Nat.add_zero, Nat.zero_add, eq_self, Nat.not_lt_zero, Nat.reduceAdd, Nat.reduceMul, Nat.reduceSub, Nat.reduceDiv, Nat.reduceMod, Nat.reduceAnd, Nat.reduceXor, Nat.reduceEqDiff, Nat.reducePow, lt_T, lt_F, le_T, le_F, eq_F, l_cmp0, wk1, wk13, wk14, wk15, ylN_eq]
    · refine siz 3 _ _ (by omega) (by omega) (by omega) ?_ L
      rw [w]
      unfold qX12_clueLine
      simp (disch := omega) only [↓reduceIte, ↓q_m1, ↓q_m2, k_o, k_0, k_1, k_2, k_3, k_4, k_5, k_6, k_7, k_8, k_9, k_10, k_11, k_16, k_17, k_19, k_20, k_24, k_26, k_27, k_30, k_32, k_33, k_35, k_40, k_43, k_48, k_50, k_57, k_60, k_64, k_81, k_86, k_34, k_66, k_322, k_97, k_99, k_100, k_122, k_128, k_160, k_161, k_255, k_256, k_512, k_580, k_600, k_1000, k_4096, k_far, k_o, nI_add, n_mul, n_sub, n_div, n_rem, n_lt, n_le, n_eq, n_cl, n_and, n_or, n_xor, m1_lt, lt_m1, m1_eq, eq_m1, le_m1, m1_le, m2_eq, up_eq, up_ne, n_shl, n_shr, b2_some, let_e, ob_some, bI_0, bI_a, bI_t, bI_f, if_true, if_false, ite_true, ite_false, true_and, and_true, false_and, and_false, true_or, or_true, false_or, or_false, not_true_eq_false, not_false_eq_true, ite_not, ne_eq, Bool.true_eq_false, Bool.false_eq_true, reduceCtorEq, decide_true, decide_false, Bool.and_true, Bool.and_false, Bool.true_and, Bool.false_and, Bool.or_true, Bool.or_false, Bool.not_true, Bool.not_false, Nat.add_zero, Nat.zero_add, eq_self, Nat.not_lt_zero, Nat.reduceAdd, Nat.reduceMul, Nat.reduceSub, Nat.reduceDiv, Nat.reduceMod, Nat.reduceAnd, Nat.reduceXor, Nat.reduceEqDiff, Nat.reducePow, lt_T, lt_F, le_T, le_F, eq_F, l_cmp0, wk1, wk13, wk14, wk15, ylN_eq]
    · have fl1 := m_fails M.w
      have nr : fRef B n (fFull B n d.1.2.2.1 10 F) = (F.1, 1, tS B n F.1) := by
        unfold fRef
        rw [if_neg gf.2.1, gf.1]
      rw [e1, nr]
      refine Or.inl ⟨rfl, qm_seti h 62 16 (nI (tS B n F.1)), ?_, sI_eq _ _ _ _, qFr.seti (by unfold rP; omega)⟩
      unfold qX12_lineOf qX12_clueLine qX12_clueLine_49
      simp (disch := omega) only [↓reduceIte, ↓q_m1, ↓q_m2, k_o, k_0, k_1, k_2, k_3, k_4, k_5, k_6, k_7, k_8, k_9, k_10, k_11, k_16, k_17, k_19, k_20, k_24, k_26, k_27, k_30, k_32, k_33, k_35, k_40, k_43, k_48, k_50, k_57, k_60, k_64, k_81, k_86, k_34, k_66, k_322, k_97, k_99, k_100, k_122, k_128, k_160, k_161, k_255, k_256, k_512, k_580, k_600, k_1000, k_4096, k_far, k_o, nI_add, n_mul, n_sub, n_div, n_rem, n_lt, n_le, n_eq, n_cl, n_and, n_or, n_xor, m1_lt, lt_m1, m1_eq, eq_m1, le_m1, m1_le, m2_eq, up_eq, up_ne, n_shl, n_shr, b2_some, let_e, ob_some, bI_0, bI_a, bI_t, bI_f, if_true, if_false, ite_true, ite_false, true_and, and_true, false_and, and_false, true_or, or_true, false_or, or_false, not_true_eq_false, not_false_eq_true, ite_not, ne_eq, Bool.true_eq_false, Bool.false_eq_true, reduceCtorEq, decide_true, decide_false, Bool.and_true, Bool.and_false, Bool.true_and, Bool.false_and, Bool.or_true, Bool.or_false, Bool.not_true, Bool.not_false, Nat.add_zero, Nat.zero_add, eq_self, Nat.not_lt_zero, Nat.reduceAdd, Nat.reduceMul, Nat.reduceSub, Nat.reduceDiv, Nat.reduceMod, Nat.reduceAnd, Nat.reduceXor, Nat.reduceEqDiff, Nat.reducePow, lt_T, lt_F, le_T, le_F, eq_F, l_cmp0, wk0, wk1, wk13, wk14, wk15, ylN_eq, fl1]
