/-! text: a line of a BASKET, the reference's. -/
def mU (k m a j : Nat) : Prop := mP a j ∨ (a = 73 ∧ k ≤ j ∧ j < k + m)
theorem mT.u {k m j a i : Nat} (z : mT j a i) (h1 : k ≤ j) (h2 : j < k + m) : mU k m a i := by
  unfold mT at z
  unfold mU
  rcases z with z | z
  · exact Or.inl z
  · exact Or.inr (by omega)
theorem m_take2 {B : Nat → Nat} {n k l1 u1 l2 u2 : Nat} {F : fl} {h : qm_H} (M : fM B n F h) (hk : k < 3) (a1 : l1 ≤ u1) (a2 : u1 < 100) (a3 : l2 ≤ u2) (a4 : u2 < 100) : ((fNum B n l2 u2 (fNum B n l1 u1 F).2).2.2.1 = 1 ∧ ∃ h', h'.1 62 16 = nI (fNum B n l2 u2 (fNum B n l1 u1 F).2).2.2.2 ∧ qFr (mU k 2) h h' ∧ (qX12_take 62 (nI k) (nI l1) (nI u1) h = some (nI 0, h') ∨ ∃ h1, qX12_take 62 (nI k) (nI l1) (nI u1) h = some (nI 1, h1) ∧ qX12_take 62 (nI (k + 1)) (nI l2) (nI u2) h1 = some (nI 0, h'))) ∨ ((fNum B n l2 u2 (fNum B n l1 u1 F).2).2.2.1 ≠ 1 ∧ ∃ v1 v2 h1 h', qX12_take 62 (nI k) (nI l1) (nI u1) h = some (nI 1, h1) ∧ qX12_take 62 (nI (k + 1)) (nI l2) (nI u2) h1 = some (nI 1, h') ∧ fM B n (fNum B n l2 u2 (fNum B n l1 u1 F).2).2 h' ∧ v1 < 100 ∧ v2 < 100 ∧ h'.1 73 k = nI v1 ∧ h'.1 73 (k + 1) = nI v2 ∧ ((fNum B n l2 u2 (fNum B n l1 u1 F).2).2.2.1 = 0 → v1 = (fNum B n l1 u1 F).1 ∧ v2 = (fNum B n l2 u2 (fNum B n l1 u1 F).2).1 ∧ h'.1 62 23 = h.1 62 23) ∧ qFr (mU k 2) h h') := by
  rcases m_take (k := k) (lo := l1) (hi := u1) M (by omega) a1 a2 with ⟨z, h1, b1, b2, b3⟩ | ⟨z, v1, h1, b1, b2, b3, b4, b5, b6⟩
  · rw [fNum_1 B n l2 u2 z]
    exact Or.inl ⟨z, h1, b2, b3.mono (fun a i y => y.u (by omega) (by omega)), Or.inl b1⟩
  · rcases m_take (k := k + 1) (lo := l2) (hi := u2) b2 (by omega) a3 a4 with ⟨z2, h2, d1, d2, d3⟩ | ⟨z2, v2, h2, d1, d2, d3, d4, d5, d6⟩
    · exact Or.inl ⟨z2, h2, d2, (b6.mono (fun a i y => y.u (by omega) (by omega))).trans (d3.mono (fun a i y => y.u (by omega) (by omega))), Or.inr ⟨h1, b1, d1⟩⟩
    · refine Or.inr ⟨z2, v1, v2, h1, h2, b1, d1, d2, b3, d3, ?_, d4, fun z3 => ?_, (b6.mono (fun a i y => y.u (by omega) (by omega))).trans (d6.mono (fun a i y => y.u (by omega) (by omega)))⟩
      · rw [(d6 _ _ (by unfold mT mP; omega)).1]; exact b4
      · have w2 := d5 z3
        have w1 := b5 (fNum_0 z3)
        exact ⟨w1.1, w2.1, by rw [w2.2, w1.2]⟩
theorem mU.le {k m m' a i : Nat} (z : mU k m a i) (h : m ≤ m') : mU k m' a i := by
  unfold mU at z ⊢
  rcases z with z | z
  · exact Or.inl z
  · exact Or.inr (by omega)
theorem m_take3 {B : Nat → Nat} {n k l1 u1 l2 u2 l3 u3 : Nat} {F : fl} {h : qm_H} (M : fM B n F h) (hk : k < 2) (a1 : l1 ≤ u1) (a2 : u1 < 100) (a3 : l2 ≤ u2) (a4 : u2 < 100) (a5 : l3 ≤ u3) (a6 : u3 < 100) : ((fNum B n l3 u3 (fNum B n l2 u2 (fNum B n l1 u1 F).2).2).2.2.1 = 1 ∧ ∃ h', h'.1 62 16 = nI (fNum B n l3 u3 (fNum B n l2 u2 (fNum B n l1 u1 F).2).2).2.2.2 ∧ qFr (mU k 3) h h' ∧ (qX12_take 62 (nI k) (nI l1) (nI u1) h = some (nI 0, h') ∨ (∃ h1, qX12_take 62 (nI k) (nI l1) (nI u1) h = some (nI 1, h1) ∧ qX12_take 62 (nI (k + 1)) (nI l2) (nI u2) h1 = some (nI 0, h')) ∨ ∃ h1 h2, qX12_take 62 (nI k) (nI l1) (nI u1) h = some (nI 1, h1) ∧ qX12_take 62 (nI (k + 1)) (nI l2) (nI u2) h1 = some (nI 1, h2) ∧ qX12_take 62 (nI (k + 2)) (nI l3) (nI u3) h2 = some (nI 0, h'))) ∨ ((fNum B n l3 u3 (fNum B n l2 u2 (fNum B n l1 u1 F).2).2).2.2.1 ≠ 1 ∧ ∃ v1 v2 v3 h1 h2 h', qX12_take 62 (nI k) (nI l1) (nI u1) h = some (nI 1, h1) ∧ qX12_take 62 (nI (k + 1)) (nI l2) (nI u2) h1 = some (nI 1, h2) ∧ qX12_take 62 (nI (k + 2)) (nI l3) (nI u3) h2 = some (nI 1, h') ∧ fM B n (fNum B n l3 u3 (fNum B n l2 u2 (fNum B n l1 u1 F).2).2).2 h' ∧ v1 < 100 ∧ v2 < 100 ∧ v3 < 100 ∧ h'.1 73 k = nI v1 ∧ h'.1 73 (k + 1) = nI v2 ∧ h'.1 73 (k + 2) = nI v3 ∧ ((fNum B n l3 u3 (fNum B n l2 u2 (fNum B n l1 u1 F).2).2).2.2.1 = 0 → v1 = (fNum B n l1 u1 F).1 ∧ v2 = (fNum B n l2 u2 (fNum B n l1 u1 F).2).1 ∧ v3 = (fNum B n l3 u3 (fNum B n l2 u2 (fNum B n l1 u1 F).2).2).1 ∧ h'.1 62 23 = h.1 62 23) ∧ qFr (mU k 3) h h') := by
  rcases m_take2 (k := k) M (by omega) a1 a2 a3 a4 with ⟨z, h', b1, b2, b3⟩ | ⟨z, v1, v2, h1, h2, b1, b2, b3, b4, b5, b6, b7, b8, b9⟩
  · rw [fNum_1 B n l3 u3 z]
    refine Or.inl ⟨z, h', b1, b2.mono (fun a i y => y.le (by omega)), ?_⟩
    rcases b3 with b3 | b3
    · exact Or.inl b3
    · exact Or.inr (Or.inl b3)
  · rcases m_take (k := k + 2) (lo := l3) (hi := u3) b3 (by omega) a5 a6 with ⟨z2, h3, d1, d2, d3⟩ | ⟨z2, v3, h3, d1, d2, d3, d4, d5, d6⟩
    · exact Or.inl ⟨z2, h3, d2, (b9.mono (fun a i y => y.le (by omega))).trans (d3.mono (fun a i y => y.u (by omega) (by omega))), Or.inr (Or.inr ⟨h1, h2, b1, b2, d1⟩)⟩
    · refine Or.inr ⟨z2, v1, v2, v3, h1, h2, h3, b1, b2, d1, d2, b4, b5, d3, ?_, ?_, d4, fun z3 => ?_, (b9.mono (fun a i y => y.le (by omega))).trans (d6.mono (fun a i y => y.u (by omega) (by omega)))⟩
      · rw [(d6 _ _ (by unfold mT mP; omega)).1]; exact b6
      · rw [(d6 _ _ (by unfold mT mP; omega)).1]; exact b7
      · have w2 := d5 z3
        have w1 := b8 (fNum_0 z3)
        exact ⟨w1.1, w1.2.1, w2.1, by rw [w2.2, w1.2.2]⟩
def ySz (a k : Nat) : Prop := mP a k ∨ a = 73 ∨ (a = 72 ∧ k < 2)
theorem mU.s {k m a i : Nat} (z : mU k m a i) : ySz a i := by
  unfold mU at z
  unfold ySz
  rcases z with z | z
  · exact Or.inl z
  · exact Or.inr (by omega)
theorem ym_size {B : Nat → Nat} {n : Nat} {F : fl} {h : qm_H} (M : fM B n F h) : ((fNum B n 2 8 (fNum B n 2 8 F).2).2.2.1 = 1 ∧ ∃ h', qX12_sizeLine 62 h = some (nI 0, h') ∧ h'.1 62 16 = nI (fNum B n 2 8 (fNum B n 2 8 F).2).2.2.2 ∧ qFr ySz h h') ∨ ((fNum B n 2 8 (fNum B n 2 8 F).2).2.2.1 ≠ 1 ∧ ∃ h', qX12_sizeLine 62 h = some (nI 1, h') ∧ fM B n (fNum B n 2 8 (fNum B n 2 8 F).2).2 h' ∧ ((fNum B n 2 8 (fNum B n 2 8 F).2).2.2.1 = 0 → h'.1 72 0 = nI (fNum B n 2 8 F).1 ∧ h'.1 72 1 = nI (fNum B n 2 8 (fNum B n 2 8 F).2).1) ∧ qFr ySz h h') := by
  rcases m_take2 (k := 0) (l1 := 2) (u1 := 8) (l2 := 2) (u2 := 8) M (by omega) (by omega) (by omega) (by omega) (by omega) with ⟨z, h', b1, b2, b3⟩ | ⟨z, v1, v2, h1, h2, b1, b2, b3, b4, b5, b6, b7, b8, b9⟩
  · refine Or.inl ⟨z, h', ?_, b1, b2.mono (fun a i y => y.s)⟩
    unfold qX12_sizeLine
    rcases b3 with b3 | ⟨h1, b3, b4⟩
    · simp (disch := omega) only [↓reduceIte, ↓q_m1, ↓q_m2, k_o, k_0, k_1, k_2, k_3, k_4, k_5, k_6, k_7, k_8, k_9, k_10, k_11, k_16, k_17, k_19, k_20, k_24, k_26, k_27, k_30, k_32, k_33, k_35, k_40, k_43, k_48, k_50, k_57, k_60, k_64, k_81, k_86, k_34, k_66, k_322, k_97, k_99, k_100, k_122, k_128, k_160, k_161, k_255, k_256, k_512, k_580, k_600, k_1000, k_4096, k_far, k_o, nI_add, n_mul, n_sub, n_div, n_rem, n_lt, n_le, n_eq, n_cl, n_and, n_or, n_xor, m1_lt, lt_m1, m1_eq, eq_m1, le_m1, m1_le, m2_eq, up_eq, up_ne, n_shl, n_shr, b2_some, let_e, ob_some, bI_0, bI_a, bI_t, bI_f, if_true, if_false, ite_true, ite_false, true_and, and_true, false_and, and_false, true_or, or_true, false_or, or_false, not_true_eq_false, not_false_eq_true, ite_not, ne_eq, Bool.true_eq_false, Bool.false_eq_true, reduceCtorEq, decide_true, decide_false, Bool.and_true, Bool.and_false, Bool.true_and, Bool.false_and, Bool.or_true, Bool.or_false, Bool.not_true, Bool.not_false, Nat.add_zero, Nat.zero_add, eq_self, Nat.not_lt_zero, Nat.reduceAdd, Nat.reduceMul, Nat.reduceSub, Nat.reduceDiv, Nat.reduceMod, Nat.reduceAnd, Nat.reduceXor, Nat.reduceEqDiff, Nat.reducePow, lt_T, lt_F, le_T, le_F, eq_F, b3]
    · simp only [Nat.zero_add] at b4
      simp (disch := omega) only [↓reduceIte, ↓q_m1, ↓q_m2, k_o, k_0, k_1, k_2, k_3, k_4, k_5, k_6, k_7, k_8, k_9, k_10, k_11, k_16, k_17, k_19, k_20, k_24, k_26, k_27, k_30, k_32, k_33, k_35, k_40, k_43, k_48, k_50, k_57, k_60, k_64, k_81, k_86, k_34, k_66, k_322, k_97, k_99, k_100, k_122, k_128, k_160, k_161, k_255, k_256, k_512, k_580, k_600, k_1000, k_4096, k_far, k_o, nI_add, n_mul, n_sub, n_div, n_rem, n_lt, n_le, n_eq, n_cl, n_and, n_or, n_xor, m1_lt, lt_m1, m1_eq, eq_m1, le_m1, m1_le, m2_eq, up_eq, up_ne, n_shl, n_shr, b2_some, let_e, ob_some, bI_0, bI_a, bI_t, bI_f, if_true, if_false, ite_true, ite_false, true_and, and_true, false_and, and_false, true_or, or_true, false_or, or_false, not_true_eq_false, not_false_eq_true, ite_not, ne_eq, Bool.true_eq_false, Bool.false_eq_true, reduceCtorEq, decide_true, decide_false, Bool.and_true, Bool.and_false, Bool.true_and, Bool.false_and, Bool.or_true, Bool.or_false, Bool.not_true, Bool.not_false, Nat.add_zero, Nat.zero_add, eq_self, Nat.not_lt_zero, Nat.reduceAdd, Nat.reduceMul, Nat.reduceSub, Nat.reduceDiv, Nat.reduceMod, Nat.reduceAnd, Nat.reduceXor, Nat.reduceEqDiff, Nat.reducePow, lt_T, lt_F, le_T, le_F, eq_F, b3, b4]
  · simp only [Nat.zero_add] at b2 b7
    refine Or.inr ⟨z, qm_seti (qm_seti h2 72 0 (nI v1)) 72 1 (nI v2), ?_, b3.mv (fun k _ _ _ => by rw [sI_ne (by omega), sI_ne (by omega)]) rfl (fun j => by rw [sI_ne (by omega), sI_ne (by omega)]), fun z0 => ?_, ?_⟩
    · unfold qX12_sizeLine
      simp (disch := omega) only [↓reduceIte, ↓q_m1, ↓q_m2, k_o, k_0, k_1, k_2, k_3, k_4, k_5, k_6, k_7, k_8, k_9, k_10, k_11, k_16, k_17, k_19, k_20, k_24, k_26, k_27, k_30, k_32, k_33, k_35, k_40, k_43, k_48, k_50, k_57, k_60, k_64, k_81, k_86, k_34, k_66, k_322, k_97, k_99, k_100, k_122, k_128, k_160, k_161, k_255, k_256, k_512, k_580, k_600, k_1000, k_4096, k_far, k_o, nI_add, n_mul, n_sub, n_div, n_rem, n_lt, n_le, n_eq, n_cl, n_and, n_or, n_xor, m1_lt, lt_m1, m1_eq, eq_m1, le_m1, m1_le, m2_eq, up_eq, up_ne, n_shl, n_shr, b2_some, let_e, ob_some, bI_0, bI_a, bI_t, bI_f, if_true, if_false, ite_true, ite_false, true_and, and_true, false_and, and_false, true_or, or_true, false_or, or_false, not_true_eq_false, not_false_eq_true, ite_not, ne_eq, Bool.true_eq_false, Bool.false_eq_true, reduceCtorEq, decide_true, decide_false, Bool.and_true, Bool.and_false, Bool.true_and, Bool.false_and, Bool.or_true, Bool.or_false, Bool.not_true, Bool.not_false, Nat.add_zero, Nat.zero_add, eq_self, Nat.not_lt_zero, Nat.reduceAdd, Nat.reduceMul, Nat.reduceSub, Nat.reduceDiv, Nat.reduceMod, Nat.reduceAnd, Nat.reduceXor, Nat.reduceEqDiff, Nat.reducePow, lt_T, lt_F, le_T, le_F, eq_F, b1, b2, b6, b7]
    · obtain ⟨w1, w2, _⟩ := b8 z0
      rw [sI_ne (by omega), sI_eq, sI_eq, w1, w2]
      exact ⟨rfl, rfl⟩
    · exact ((b9.mono (fun a i y => y.s)).trans (qFr.seti (by unfold ySz; omega))).trans (qFr.seti (by unfold ySz; omega))
/-- the reference's draft of a BASKET -/
def dMb (β : qB) (h : qm_H) : Prop := h.1 72 0 = nI (bw β) ∧ h.1 72 1 = nI (bh β) ∧ h.1 72 2 = nI (bx β) ∧ (∀ k, k < 8 → h.1 72 (3 + k) = nI (bT β k)) ∧ (∀ k, k < 8 → h.1 72 (11 + k) = nI (bR β k)) ∧ (∀ k, k < 8 → h.1 72 (19 + k) = nI (bT β (8 + k))) ∧ (∀ k, k < 8 → h.1 72 (27 + k) = nI (bR β (8 + k))) ∧ ∀ k, k < 8 → h.1 72 (35 + k) = nI (rowB (bO β k))
theorem dMb.mk {w g x : Nat} {T R : Nat → Nat} {O : Nat → Nat → Bool} {h : qm_H} (a1 : h.1 72 0 = nI w) (a2 : h.1 72 1 = nI g) (a3 : h.1 72 2 = nI x) (a4 : ∀ k, k < 8 → h.1 72 (3 + k) = nI (T k)) (a5 : ∀ k, k < 8 → h.1 72 (11 + k) = nI (R k)) (a6 : ∀ k, k < 8 → h.1 72 (19 + k) = nI (T (8 + k))) (a7 : ∀ k, k < 8 → h.1 72 (27 + k) = nI (R (8 + k))) (a8 : ∀ k, k < 8 → h.1 72 (35 + k) = nI (rowB (O k))) : dMb (w, g, x, T, R, O) h := ⟨a1, a2, a3, a4, a5, a6, a7, a8⟩
theorem dMb.mv {β : qB} {h h' : qm_H} (D : dMb β h) (e : ∀ k, h'.1 72 k = h.1 72 k) : dMb β h' := by
  unfold dMb
  simp only [e]
  exact D
def DmB (F : fl) (d : dB) (h : qm_H) : Prop := F.2.1 = 0 → dMb d.1 h ∧ farR d.2.1 (h.1 62 21) ∧ farR d.2.2 (h.1 62 22)
/-- cells of the reference's reading, all -/
def rP (a _k : Nat) : Prop := a = 62 ∨ a = 72 ∨ a = 73
theorem mP.r {a k : Nat} (z : mP a k) : rP a k := by unfold mP at z; unfold rP; omega
theorem ySz.r {a k : Nat} (z : ySz a k) : rP a k := by
  unfold ySz at z
  rcases z with z | z
  · exact z.r
  · unfold rP; omega
theorem mU.r {p q a k : Nat} (z : mU p q a k) : rP a k := z.s.r
theorem mT2.r {j a k : Nat} (z : mT2 j a k) : rP a k := by
  unfold mT2 at z
  rcases z with z | z
  · exact z.r
  · unfold rP; omega
theorem mtk.r {a k : Nat} (z : mtk a k) : rP a k := by unfold mtk at z; unfold rP; omega
theorem row_or {f : Nat → Bool} {c : Nat} (hc : c < 8) : rowB f ||| 1 * 2 ^ c = rowB (fun i => f i || decide (i = c)) := by
  have : ∀ a b c d e g i j : Bool, ∀ k : Fin 8, ((((((((0 + if a then 2 ^ 0 else 0) + if b then 2 ^ 1 else 0) + if c then 2 ^ 2 else 0) + if d then 2 ^ 3 else 0) + if e then 2 ^ 4 else 0) + if g then 2 ^ 5 else 0) + if i then 2 ^ 6 else 0) + (if j then 2 ^ 7 else 0) : Nat) ||| 1 * 2 ^ k.val = ((((((((0 + if (a || decide (0 = k.val)) then 2 ^ 0 else 0) + if (b || decide (1 = k.val)) then 2 ^ 1 else 0) + if (c || decide (2 = k.val)) then 2 ^ 2 else 0) + if (d || decide (3 = k.val)) then 2 ^ 3 else 0) + if (e || decide (4 = k.val)) then 2 ^ 4 else 0) + if (g || decide (5 = k.val)) then 2 ^ 5 else 0) + if (i || decide (6 = k.val)) then 2 ^ 6 else 0) + (if (j || decide (7 = k.val)) then 2 ^ 7 else 0) : Nat) := by decide +kernel
  exact this (f 0) (f 1) (f 2) (f 3) (f 4) (f 5) (f 6) (f 7) ⟨c, hc⟩
theorem m_open {B : Nat → Nat} {n : Nat} {F : fl} {h : qm_H} (M : fM B n F h) (gd : h.1 62 23 = nI 1) : ((fNum B n 0 7 (fNum B n 0 7 F).2).2.2.1 = 1 ∧ ∃ h', qX12_openLine 62 h = some (nI 0, h') ∧ h'.1 62 16 = nI (fNum B n 0 7 (fNum B n 0 7 F).2).2.2.2 ∧ qFr rP h h') ∨ ((fNum B n 0 7 (fNum B n 0 7 F).2).2.2.1 ≠ 1 ∧ ∃ h', qX12_openLine 62 h = some (nI 1, h') ∧ fM B n (fNum B n 0 7 (fNum B n 0 7 F).2).2 h' ∧ ((fNum B n 0 7 (fNum B n 0 7 F).2).2.2.1 = 0 → ∀ d : dB, dMb d.1 h → farR d.2.1 (h.1 62 21) → farR d.2.2 (h.1 62 22) → dMb (bw d.1, bh d.1, bx d.1, bT d.1, bR d.1, fun r c => bO d.1 r c || decide (r = (fNum B n 0 7 (fNum B n 0 7 F).2).1 ∧ c = (fNum B n 0 7 F).1)) h' ∧ farR (max d.2.1 (fNum B n 0 7 F).1) (h'.1 62 21) ∧ farR (max d.2.2 (fNum B n 0 7 (fNum B n 0 7 F).2).1) (h'.1 62 22)) ∧ qFr rP h h') := by
  have r1 := fNum_r B n (lo := 0) (hi := 7) F (by omega)
  have r2 := fNum_r B n (lo := 0) (hi := 7) (fNum B n 0 7 F).2 (by omega)
  rcases m_cell (k := 0) M (by omega) with ⟨z, h', b1, b2, b3⟩ | ⟨z, v1, v2, h', b1, b2, b3, b4, b5, b6, b7, b8⟩
  · refine Or.inl ⟨z, h', ?_, b2, b3.mono (fun a k y => y.r)⟩
    unfold qX12_openLine
    simp (disch := omega) only [↓reduceIte, ↓q_m1, ↓q_m2, k_o, k_0, k_1, k_2, k_3, k_4, k_5, k_6, k_7, k_8, k_9, k_10, k_11, k_16, k_17, k_19, k_20, k_24, k_26, k_27, k_30, k_32, k_33, k_35, k_40, k_43, k_48, k_50, k_57, k_60, k_64, k_81, k_86, k_34, k_66, k_322, k_97, k_99, k_100, k_122, k_128, k_160, k_161, k_255, k_256, k_512, k_580, k_600, k_1000, k_4096, k_far, k_o, nI_add, n_mul, n_sub, n_div, n_rem, n_lt, n_le, n_eq, n_cl, n_and, n_or, n_xor, m1_lt, lt_m1, m1_eq, eq_m1, le_m1, m1_le, m2_eq, up_eq, up_ne, n_shl, n_shr, b2_some, let_e, ob_some, bI_0, bI_a, bI_t, bI_f, if_true, if_false, ite_true, ite_false, true_and, and_true, false_and, and_false, true_or, or_true, false_or, or_false, not_true_eq_false, not_false_eq_true, ite_not, ne_eq, Bool.true_eq_false, Bool.false_eq_true, reduceCtorEq, decide_true, decide_false, Bool.and_true, Bool.and_false, Bool.true_and, Bool.false_and, Bool.or_true, Bool.or_false, Bool.not_true, Bool.not_false, Nat.add_zero, Nat.zero_add, eq_self, Nat.not_lt_zero, Nat.reduceAdd, Nat.reduceMul, Nat.reduceSub, Nat.reduceDiv, Nat.reduceMod, Nat.reduceAnd, Nat.reduceXor, Nat.reduceEqDiff, Nat.reducePow, lt_T, lt_F, le_T, le_F, eq_F, b1]
  · simp only [Nat.zero_add] at b6
    by_cases g0 : h'.1 62 23 = nI 0
    · refine Or.inr ⟨z, h', ?_, b2, fun z0 => ?_, b8.mono (fun a k y => y.r)⟩
      · unfold qX12_openLine
        simp (disch := omega) only [↓reduceIte, ↓q_m1, ↓q_m2, k_o, k_0, k_1, k_2, k_3, k_4, k_5, k_6, k_7, k_8, k_9, k_10, k_11, k_16, k_17, k_19, k_20, k_24, k_26, k_27, k_30, k_32, k_33, k_35, k_40, k_43, k_48, k_50, k_57, k_60, k_64, k_81, k_86, k_34, k_66, k_322, k_97, k_99, k_100, k_122, k_128, k_160, k_161, k_255, k_256, k_512, k_580, k_600, k_1000, k_4096, k_far, k_o, nI_add, n_mul, n_sub, n_div, n_rem, n_lt, n_le, n_eq, n_cl, n_and, n_or, n_xor, m1_lt, lt_m1, m1_eq, eq_m1, le_m1, m1_le, m2_eq, up_eq, up_ne, n_shl, n_shr, b2_some, let_e, ob_some, bI_0, bI_a, bI_t, bI_f, if_true, if_false, ite_true, ite_false, true_and, and_true, false_and, and_false, true_or, or_true, false_or, or_false, not_true_eq_false, not_false_eq_true, ite_not, ne_eq, Bool.true_eq_false, Bool.false_eq_true, reduceCtorEq, decide_true, decide_false, Bool.and_true, Bool.and_false, Bool.true_and, Bool.false_and, Bool.or_true, Bool.or_false, Bool.not_true, Bool.not_false, Nat.add_zero, Nat.zero_add, eq_self, Nat.not_lt_zero, Nat.reduceAdd, Nat.reduceMul, Nat.reduceSub, Nat.reduceDiv, Nat.reduceMod, Nat.reduceAnd, Nat.reduceXor, Nat.reduceEqDiff, Nat.reducePow, lt_T, lt_F, le_T, le_F, eq_F, b1, eq_true g0]
      · have := (b7 z0).2.2.1
        rw [g0, gd] at this
        exact absurd this (by decide)
    · refine Or.inr ⟨z, qm_seti h' 72 (35 + v2) (h'.1 72 (35 + v2) ||| qm_ishl (nI 1) (nI v1)), ?_, b2.mv (fun k _ _ _ => sI_ne (by omega)) rfl (fun j => sI_ne (by omega)), fun z0 d D fx fy => ?_, (b8.mono (fun a k y => y.r)).trans (qFr.seti (by unfold rP; omega))⟩
      · unfold qX12_openLine
        simp (disch := omega) only [↓reduceIte, ↓q_m1, ↓q_m2, k_o, k_0, k_1, k_2, k_3, k_4, k_5, k_6, k_7, k_8, k_9, k_10, k_11, k_16, k_17, k_19, k_20, k_24, k_26, k_27, k_30, k_32, k_33, k_35, k_40, k_43, k_48, k_50, k_57, k_60, k_64, k_81, k_86, k_34, k_66, k_322, k_97, k_99, k_100, k_122, k_128, k_160, k_161, k_255, k_256, k_512, k_580, k_600, k_1000, k_4096, k_far, k_o, nI_add, n_mul, n_sub, n_div, n_rem, n_lt, n_le, n_eq, n_cl, n_and, n_or, n_xor, m1_lt, lt_m1, m1_eq, eq_m1, le_m1, m1_le, m2_eq, up_eq, up_ne, n_shl, n_shr, b2_some, let_e, ob_some, bI_0, bI_a, bI_t, bI_f, if_true, if_false, ite_true, ite_false, true_and, and_true, false_and, and_false, true_or, or_true, false_or, or_false, not_true_eq_false, not_false_eq_true, ite_not, ne_eq, Bool.true_eq_false, Bool.false_eq_true, reduceCtorEq, decide_true, decide_false, Bool.and_true, Bool.and_false, Bool.true_and, Bool.false_and, Bool.or_true, Bool.or_false, Bool.not_true, Bool.not_false, Nat.add_zero, Nat.zero_add, eq_self, Nat.not_lt_zero, Nat.reduceAdd, Nat.reduceMul, Nat.reduceSub, Nat.reduceDiv, Nat.reduceMod, Nat.reduceAnd, Nat.reduceXor, Nat.reduceEqDiff, Nat.reducePow, lt_T, lt_F, le_T, le_F, eq_F, b1, eq_false g0, b5, b6]
      · obtain ⟨w1, w2, _, w4⟩ := b7 z0
        obtain ⟨f1, f2⟩ := w4 _ _ fx fy
        generalize fNum B n 0 7 (fNum B n 0 7 F).2 = N2 at *
        generalize fNum B n 0 7 F = N1 at *
        subst w1 w2
        have q : ∀ k, k < 161 → k ≠ 35 + N2.1 → (qm_seti h' 72 (35 + N2.1) (h'.1 72 (35 + N2.1) ||| qm_ishl (nI 1) (nI N1.1))).1 72 k = h.1 72 k := fun k _ hk => by rw [sI_ne (by omega), (b8 _ _ (by unfold mT2 mP; omega)).1]
        obtain ⟨a1, a2, a3, a4, a5, a6, a7, a8⟩ := D
        refine ⟨dMb.mk ?_ ?_ ?_ (fun k hk => ?_) (fun k hk => ?_) (fun k hk => ?_) (fun k hk => ?_) (fun k hk => ?_), ?_, ?_⟩
        · rw [q _ (by omega) (by omega)]; exact a1
        · rw [q _ (by omega) (by omega)]; exact a2
        · rw [q _ (by omega) (by omega)]; exact a3
        · rw [q _ (by omega) (by omega)]; exact a4 k hk
        · rw [q _ (by omega) (by omega)]; exact a5 k hk
        · rw [q _ (by omega) (by omega)]; exact a6 k hk
        · rw [q _ (by omega) (by omega)]; exact a7 k hk
        · by_cases y : k = N2.1
          · rw [y, sI_eq, (b8 _ _ (by unfold mT2 mP; omega)).1, a8 N2.1 (by omega), n_shl (by omega) (by
              have : 2 ^ N1.1 ≤ 2 ^ 7 := Nat.pow_le_pow_right (by omega) (by omega)
              omega), n_or, row_or (by omega)]
            congr 2
            funext c
            simp only [true_and]
          · rw [q _ (by omega) (by omega), a8 k hk]
            congr 2
            funext c
            rw [decide_eq_false (fun e => y e.1), Bool.or_false]
        · rw [sI_ne (by omega)]; exact f1
        · rw [sI_ne (by omega)]; exact f2
