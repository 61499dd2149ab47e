/-! text: line after line, both sides. -/
def chn {α : Type} (R : α → α → Prop) : Nat → α → α → Prop
  | 0, a, b => a = b
  | k + 1, a, b => ∃ c, R a c ∧ chn R k c b
def lSt {δ : Type} (B : Nat → Nat) (n : Nat) (Ln : fl → δ → fl → δ → Prop) (u v : fl × δ) : Prop := u.1.2.1 ≠ 1 ∧ tK B n u.1.1 ≠ 0 ∧ ∃ F', Ln u.1 u.2 F' v.2 ∧ v.1 = fStop B n F'
theorem chn_1 {δ : Type} {B : Nat → Nat} {n : Nat} {Ln : fl → δ → fl → δ → Prop} {k : Nat} {u v : fl × δ} (h : chn (lSt B n Ln) k u v) (h1 : u.1.2.1 = 1) : u = v := by
  cases k with
  | zero => exact h
  | succ k =>
    obtain ⟨c, hc, _⟩ := h
    exact absurd h1 hc.1
theorem c_rd2 {B : Nat → Nat} {n i g : Nat} {x : Int32} {F : fl} {h : qm_H} (C : fC B n F h) (hi : i ≤ 600) (e : F.2.1 = 1 ∨ tK B n F.1 = 0) : qX3_read_59 (g + 1) 31 x (nI i) h = qX3_read_147 31 x h := by
  have gs := c_goes C
  have C1 := C.2.2.1.1
  unfold qX3_read_59
  by_cases q : i < 600
  · by_cases z : F.2.1 = 1
    · rw [if_pos z] at gs
      simp (disch := omega) only [↓reduceIte, ↓q_m1, ↓q_m2, k_o, k_0, k_1, k_2, k_3, k_4, k_5, k_6, k_7, k_8, k_9, k_10, k_11, k_16, k_17, k_19, k_20, k_24, k_26, k_27, k_30, k_32, k_33, k_35, k_40, k_43, k_48, k_50, k_57, k_60, k_64, k_81, k_86, k_34, k_66, k_322, k_97, k_99, k_100, k_122, k_128, k_160, k_161, k_255, k_256, k_512, k_580, k_600, k_1000, k_4096, k_far, k_o, nI_add, n_mul, n_sub, n_div, n_rem, n_lt, n_le, n_eq, n_cl, n_and, n_or, n_xor, m1_lt, lt_m1, m1_eq, eq_m1, le_m1, m1_le, m2_eq, up_eq, up_ne, n_shl, n_shr, b2_some, let_e, ob_some, bI_0, bI_a, bI_t, bI_f, if_true, if_false, ite_true, ite_false, true_and, and_true, false_and, and_false, true_or, or_true, false_or, or_false, not_true_eq_false, not_false_eq_true, ite_not, ne_eq, Bool.true_eq_false, Bool.false_eq_true, reduceCtorEq, decide_true, decide_false, Bool.and_true, Bool.and_false, Bool.true_and, Bool.false_and, Bool.or_true, Bool.or_false, Bool.not_true, Bool.not_false, Nat.add_zero, Nat.zero_add, eq_self, Nat.not_lt_zero, Nat.reduceAdd, Nat.reduceMul, Nat.reduceSub, Nat.reduceDiv, Nat.reduceMod, Nat.reduceAnd, Nat.reduceXor, Nat.reduceEqDiff, Nat.reducePow, lt_T, lt_F, le_T, le_F, eq_F, gs]
    · rw [if_neg z] at gs
      rw [show tK B n F.1 = 0 by omega] at C1
      simp (disch := omega) only [↓reduceIte, ↓q_m1, ↓q_m2, k_o, k_0, k_1, k_2, k_3, k_4, k_5, k_6, k_7, k_8, k_9, k_10, k_11, k_16, k_17, k_19, k_20, k_24, k_26, k_27, k_30, k_32, k_33, k_35, k_40, k_43, k_48, k_50, k_57, k_60, k_64, k_81, k_86, k_34, k_66, k_322, k_97, k_99, k_100, k_122, k_128, k_160, k_161, k_255, k_256, k_512, k_580, k_600, k_1000, k_4096, k_far, k_o, nI_add, n_mul, n_sub, n_div, n_rem, n_lt, n_le, n_eq, n_cl, n_and, n_or, n_xor, m1_lt, lt_m1, m1_eq, eq_m1, le_m1, m1_le, m2_eq, up_eq, up_ne, n_shl, n_shr, b2_some, let_e, ob_some, bI_0, bI_a, bI_t, bI_f, if_true, if_false, ite_true, ite_false, true_and, and_true, false_and, and_false, true_or, or_true, false_or, or_false, not_true_eq_false, not_false_eq_true, ite_not, ne_eq, Bool.true_eq_false, Bool.false_eq_true, reduceCtorEq, decide_true, decide_false, Bool.and_true, Bool.and_false, Bool.true_and, Bool.false_and, Bool.or_true, Bool.or_false, Bool.not_true, Bool.not_false, Nat.add_zero, Nat.zero_add, eq_self, Nat.not_lt_zero, Nat.reduceAdd, Nat.reduceMul, Nat.reduceSub, Nat.reduceDiv, Nat.reduceMod, Nat.reduceAnd, Nat.reduceXor, Nat.reduceEqDiff, Nat.reducePow, lt_T, lt_F, le_T, le_F, eq_F, gs, C1]
  · simp (disch := omega) only [↓reduceIte, ↓q_m1, ↓q_m2, k_o, k_0, k_1, k_2, k_3, k_4, k_5, k_6, k_7, k_8, k_9, k_10, k_11, k_16, k_17, k_19, k_20, k_24, k_26, k_27, k_30, k_32, k_33, k_35, k_40, k_43, k_48, k_50, k_57, k_60, k_64, k_81, k_86, k_34, k_66, k_322, k_97, k_99, k_100, k_122, k_128, k_160, k_161, k_255, k_256, k_512, k_580, k_600, k_1000, k_4096, k_far, k_o, nI_add, n_mul, n_sub, n_div, n_rem, n_lt, n_le, n_eq, n_cl, n_and, n_or, n_xor, m1_lt, lt_m1, m1_eq, eq_m1, le_m1, m1_le, m2_eq, up_eq, up_ne, n_shl, n_shr, b2_some, let_e, ob_some, bI_0, bI_a, bI_t, bI_f, if_true, if_false, ite_true, ite_false, true_and, and_true, false_and, and_false, true_or, or_true, false_or, or_false, not_true_eq_false, not_false_eq_true, ite_not, ne_eq, Bool.true_eq_false, Bool.false_eq_true, reduceCtorEq, decide_true, decide_false, Bool.and_true, Bool.and_false, Bool.true_and, Bool.false_and, Bool.or_true, Bool.or_false, Bool.not_true, Bool.not_false, Nat.add_zero, Nat.zero_add, eq_self, Nat.not_lt_zero, Nat.reduceAdd, Nat.reduceMul, Nat.reduceSub, Nat.reduceDiv, Nat.reduceMod, Nat.reduceAnd, Nat.reduceXor, Nat.reduceEqDiff, Nat.reducePow, lt_T, lt_F, le_T, le_F, eq_F]
theorem fStop_1 {B : Nat → Nat} {n : Nat} {F : fl} (h : (fStop B n F).2.1 ≠ 1) : F.2.1 ≠ 1 ∧ tK B n F.1 = 3 ∧ fStop B n F = fAdv B n F := by
  unfold fStop at h ⊢
  by_cases q : F.2.1 ≠ 1 ∧ tK B n F.1 = 3
  · rw [if_pos q]
    exact ⟨q.1, q.2, rfl⟩
  · rw [if_neg q] at h
    unfold fRef at h
    split at h
    · rename_i y
      exact absurd y h
    · exact absurd rfl h
theorem c_loop {δ : Type} {B : Nat → Nat} {n s : Nat} {Dc : δ → qm_H → Prop} {Ln : fl → δ → fl → δ → Prop} {ln : qm_H → Option qm_H} (hn : n ≤ 600)
    (HL : ∀ F d h, fC B n F h → F.2.1 ≠ 1 → Dc d h → ∃ F' d' h', ln h = some h' ∧ Ln F d F' d' ∧ fC B n F' h' ∧ Dc d' h' ∧ qFr cP h h')
    (HP : ∀ F d F' d', F.1 ≤ n → Ln F d F' d' → F'.2.1 ≠ 1 → tE B n F.1 ≤ F'.1)
    (HF : ∀ d h h', Dc d h → qFr fP h h' → Dc d h')
    (HE : ∀ g i F h, fC B n F h → F.2.1 ≠ 1 → tK B n F.1 ≠ 0 → i < 600 → qX3_read_59 (g + 1) 31 (nI s) (nI i) h = (ln h).bind fun h3 => (qX3_readStop 31 h3).bind fun h1 => qX3_read_59 g 31 (nI s) (nI (i + 1)) h1) :
    ∀ m i F d h fuel, n - tS B n F.1 ≤ m → m + 1 < fuel → i ≤ tS B n F.1 → fC B n F h → Dc d h → ∃ k F' d' h', k ≤ m + 1 ∧ qX3_read_59 fuel 31 (nI s) (nI i) h = qX3_read_147 31 (nI s) h' ∧ chn (lSt B n Ln) k (F, d) (F', d') ∧ (F'.2.1 = 1 ∨ tK B n F'.1 = 0) ∧ fC B n F' h' ∧ Dc d' h' ∧ qFr cP h h' := by
  intro m
  induction m with
  | zero =>
    intro i F d h fuel hm hf hi C D
    obtain ⟨g, rfl⟩ : ∃ g, fuel = g + 1 := ⟨fuel - 1, by omega⟩
    have s1 := t_S B C.2.1
    have tk := t_K B n F.1
    have k0 : tK B n F.1 = 0 := by
      rcases t_A B n F.1 with ⟨a, b⟩ | ⟨a, b, c, d, e⟩
      · exact tk.2.2.1.mpr a
      · omega
    exact ⟨0, F, d, h, by omega, c_rd2 C (by omega) (Or.inr k0), rfl, Or.inr k0, C, D, qFr.refl _ _⟩
  | succ m ih =>
    intro i F d h fuel hm hf hi C D
    obtain ⟨g, rfl⟩ : ∃ g, fuel = g + 1 := ⟨fuel - 1, by omega⟩
    have s1 := t_S B C.2.1
    have tk := t_K B n F.1
    by_cases e : F.2.1 = 1 ∨ tK B n F.1 = 0
    · exact ⟨0, F, d, h, by omega, c_rd2 C (by omega) e, rfl, e, C, D, qFr.refl _ _⟩
    · have f1 : F.2.1 ≠ 1 := fun z => e (Or.inl z)
      have k1 : tK B n F.1 ≠ 0 := fun z => e (Or.inr z)
      have sl : tS B n F.1 < n := by
        rcases t_A B n F.1 with ⟨a, b⟩ | ⟨a, b, c, d, e⟩
        · exact absurd (tk.2.2.1.mpr a) k1
        · exact a
      obtain ⟨F1, d1, h1, a1, a2, a3, a4, a5⟩ := HL F d h C f1 D
      obtain ⟨h2, b1, b2, b3⟩ := c_stop a3
      have D2 := HF _ _ _ a4 b3
      have fr2 : qFr cP h h2 := a5.trans (b3.mono (fun _ _ z => z.c))
      have st : lSt B n Ln (F, d) (fStop B n F1, d1) := ⟨f1, k1, F1, a2, rfl⟩
      have eq : qX3_read_59 (g + 1) 31 (nI s) (nI i) h = qX3_read_59 g 31 (nI s) (nI (i + 1)) h2 := by
        rw [HE g i F h C f1 k1 (by omega), a1, ob_some, b1, ob_some]
      by_cases z : (fStop B n F1).2.1 = 1
      · obtain ⟨g', rfl⟩ : ∃ g', g = g' + 1 := ⟨g - 1, by omega⟩
        refine ⟨1, fStop B n F1, d1, h2, by omega, ?_, ⟨_, st, rfl⟩, Or.inl z, b2, D2, fr2⟩
        rw [eq]
        exact c_rd2 b2 (by omega) (Or.inl z)
      · obtain ⟨y1, y2, y3⟩ := fStop_1 z
        have p1 := HP F d F1 d1 C.2.1 a2 y1
        have E0 := (t_E B C.2.1).2.2 (fun w => k1 (tk.2.2.1.mpr w))
        have s2 := t_S B a3.2.1
        have E1 := t_E B a3.2.1
        have e1 := E1.2.2 (fun w => by have := (t_K B n F1.1).2.2.1.mpr w; omega)
        have s3 := t_S B E1.1
        have pp : (fStop B n F1).1 = tE B n F1.1 := by rw [y3]; rfl
        obtain ⟨k, F', d', h', c0, c1, c2, c3, c4, c5, c6⟩ := ih (i + 1) (fStop B n F1) d1 h2 g (by rw [pp]; omega) (by omega) (by rw [pp]; omega) b2 D2
        refine ⟨k + 1, F', d', h', by omega, ?_, ⟨_, st, c2⟩, c3, c4, c5, fr2.trans c6⟩
        rw [eq]
        exact c1
theorem m_it {B : Nat → Nat} {n s g : Nat} {F : fl} {h : qm_H} (M : fM B n F h) (hk : tK B n F.1 ≠ 0) : qX12_lines_2 (g + 1) 62 (nI s) (nI 1) h = qX12_lines_41 (qX12_lines_2 g) 62 (nI s) (nI (tS B n F.1)) (lN (tW B n F.1)) (nI s) 62 (qm_seti h 62 23 (nI 1)) := by
  obtain ⟨a1, a2, a3, a4, ⟨b1, b2, b3, b4, b5⟩, a6, a7⟩ := M
  have mk := mkd_r (tK B n F.1)
  conv => { lhs; unfold qX12_lines_2 }
  by_cases q : tK B n F.1 = 1
  · rw [mk.2.2.1.mpr q] at b3
    simp (disch := omega) only [↓reduceIte, ↓q_m1, ↓q_m2, k_o, k_0, k_1, k_2, k_3, k_4, k_5, k_6, k_7, k_8, k_9, k_10, k_11, k_16, k_17, k_19, k_20, k_24, k_26, k_27, k_30, k_32, k_33, k_35, k_40, k_43, k_48, k_50, k_57, k_60, k_64, k_81, k_86, k_34, k_66, k_322, k_97, k_99, k_100, k_122, k_128, k_160, k_161, k_255, k_256, k_512, k_580, k_600, k_1000, k_4096, k_far, k_o, nI_add, n_mul, n_sub, n_div, n_rem, n_lt, n_le, n_eq, n_cl, n_and, n_or, n_xor, m1_lt, lt_m1, m1_eq, eq_m1, le_m1, m1_le, m2_eq, up_eq, up_ne, n_shl, n_shr, b2_some, let_e, ob_some, bI_0, bI_a, bI_t, bI_f, if_true, if_false, ite_true, ite_false, true_and, and_true, false_and, and_false, true_or, or_true, false_or, or_false, not_true_eq_false, not_false_eq_true, ite_not, ne_eq, Bool.true_eq_false, Bool.false_eq_true, reduceCtorEq, decide_true, decide_false, Bool.and_true, Bool.and_false, Bool.true_and, Bool.false_and, Bool.or_true, Bool.or_false, Bool.not_true, Bool.not_false, Nat.add_zero, Nat.zero_add, eq_self, Nat.not_lt_zero, Nat.reduceAdd, Nat.reduceMul, Nat.reduceSub, Nat.reduceDiv, Nat.reduceMod, Nat.reduceAnd, Nat.reduceXor, Nat.reduceEqDiff, Nat.reducePow, lt_T, lt_F, le_T, le_F, eq_F, b2, b3, b5]
  · have w0 : tW B n F.1 = 0 := by
      by_cases z : tW B n F.1 = 0
      · exact z
      · exact absurd (tW_K z) q
    have n2 : mkd (tK B n F.1) ≠ 2 := fun z => q (mk.2.2.1.mp z)
    have n0 : mkd (tK B n F.1) ≠ 0 := fun z => hk (mk.2.1.mp z)
    rw [w0]
    simp (disch := omega) only [↓reduceIte, ↓q_m1, ↓q_m2, k_o, k_0, k_1, k_2, k_3, k_4, k_5, k_6, k_7, k_8, k_9, k_10, k_11, k_16, k_17, k_19, k_20, k_24, k_26, k_27, k_30, k_32, k_33, k_35, k_40, k_43, k_48, k_50, k_57, k_60, k_64, k_81, k_86, k_34, k_66, k_322, k_97, k_99, k_100, k_122, k_128, k_160, k_161, k_255, k_256, k_512, k_580, k_600, k_1000, k_4096, k_far, k_o, nI_add, n_mul, n_sub, n_div, n_rem, n_lt, n_le, n_eq, n_cl, n_and, n_or, n_xor, m1_lt, lt_m1, m1_eq, eq_m1, le_m1, m1_le, m2_eq, up_eq, up_ne, n_shl, n_shr, b2_some, let_e, ob_some, bI_0, bI_a, bI_t, bI_f, if_true, if_false, ite_true, ite_false, true_and, and_true, false_and, and_false, true_or, or_true, false_or, or_false, not_true_eq_false, not_false_eq_true, ite_not, ne_eq, Bool.true_eq_false, Bool.false_eq_true, reduceCtorEq, decide_true, decide_false, Bool.and_true, Bool.and_false, Bool.true_and, Bool.false_and, Bool.or_true, Bool.or_false, Bool.not_true, Bool.not_false, Nat.add_zero, Nat.zero_add, eq_self, Nat.not_lt_zero, Nat.reduceAdd, Nat.reduceMul, Nat.reduceSub, Nat.reduceDiv, Nat.reduceMod, Nat.reduceAnd, Nat.reduceXor, Nat.reduceEqDiff, Nat.reducePow, lt_T, lt_F, le_T, le_F, eq_F, b2, b3, eq_false n2, eq_false n0]
    rfl
theorem m_l0 {s g : Nat} {h : qm_H} : qX12_lines_2 (g + 1) 62 (nI s) (nI 0) h = some (nI 0, h) := by
  unfold qX12_lines_2
  simp (disch := omega) only [↓reduceIte, ↓q_m1, ↓q_m2, k_o, k_0, k_1, k_2, k_3, k_4, k_5, k_6, k_7, k_8, k_9, k_10, k_11, k_16, k_17, k_19, k_20, k_24, k_26, k_27, k_30, k_32, k_33, k_35, k_40, k_43, k_48, k_50, k_57, k_60, k_64, k_81, k_86, k_34, k_66, k_322, k_97, k_99, k_100, k_122, k_128, k_160, k_161, k_255, k_256, k_512, k_580, k_600, k_1000, k_4096, k_far, k_o, nI_add, n_mul, n_sub, n_div, n_rem, n_lt, n_le, n_eq, n_cl, n_and, n_or, n_xor, m1_lt, lt_m1, m1_eq, eq_m1, le_m1, m1_le, m2_eq, up_eq, up_ne, n_shl, n_shr, b2_some, let_e, ob_some, bI_0, bI_a, bI_t, bI_f, if_true, if_false, ite_true, ite_false, true_and, and_true, false_and, and_false, true_or, or_true, false_or, or_false, not_true_eq_false, not_false_eq_true, ite_not, ne_eq, Bool.true_eq_false, Bool.false_eq_true, reduceCtorEq, decide_true, decide_false, Bool.and_true, Bool.and_false, Bool.true_and, Bool.false_and, Bool.or_true, Bool.or_false, Bool.not_true, Bool.not_false, Nat.add_zero, Nat.zero_add, eq_self, Nat.not_lt_zero, Nat.reduceAdd, Nat.reduceMul, Nat.reduceSub, Nat.reduceDiv, Nat.reduceMod, Nat.reduceAnd, Nat.reduceXor, Nat.reduceEqDiff, Nat.reducePow, lt_T, lt_F, le_T, le_F, eq_F]
theorem m_loop {δ : Type} {B : Nat → Nat} {n s : Nat} {Dm : fl → δ → qm_H → Prop} {Ln : fl → δ → fl → δ → Prop}
    (HM : ∀ F d F' d' h, fM B n F h → Dm F d h → h.1 62 23 = nI 1 → Ln F d F' d' → (F'.2.1 = 1 ∧ ∃ h', qX12_lineOf 62 (nI s) (lN (tW B n F.1)) (nI (tS B n F.1)) h = some (nI 0, h') ∧ h'.1 62 16 = nI F'.2.2 ∧ qFr rP h h') ∨ (F'.2.1 ≠ 1 ∧ ∃ h', qX12_lineOf 62 (nI s) (lN (tW B n F.1)) (nI (tS B n F.1)) h = some (nI 1, h') ∧ fM B n F' h' ∧ Dm F' d' h' ∧ qFr rP h h'))
    (HD : ∀ F d h h', Dm F d h → qFr mP h h' → Dm F d h')
    (HA : ∀ F d h, Dm F d h → Dm (fAdv B n F) d h) {F' : fl} {d' : δ} (he : F'.2.1 = 1 ∨ tK B n F'.1 = 0) :
    ∀ k F d h fuel, k + 1 < fuel → chn (lSt B n Ln) k (F, d) (F', d') → fM B n F h → Dm F d h → ∃ h', qX12_lines_2 fuel 62 (nI s) (nI 1) h = some (nI (if F'.2.1 = 1 then 0 else 1), h') ∧ (F'.2.1 = 1 → h'.1 62 16 = nI F'.2.2) ∧ (F'.2.1 ≠ 1 → fM B n F' h' ∧ Dm F' d' h') ∧ qFr rP h h' := by
  intro k
  induction k with
  | zero =>
    intro F d h fuel hf ch M D
    obtain ⟨g, rfl⟩ : ∃ g, fuel = g + 1 := ⟨fuel - 1, by omega⟩
    have ch : (F, d) = (F', d') := ch
    have i1 : F = F' := congrArg Prod.fst ch
    have i2 : d = d' := congrArg Prod.snd ch
    subst i1 i2
    have f1 := M.2.2.1
    have k0 : tK B n F.1 = 0 := by omega
    have b3 := M.2.2.2.2.1.2.2.1
    rw [(mkd_r (tK B n F.1)).2.1.mpr k0] at b3
    rw [if_neg f1]
    refine ⟨h, ?_, fun z => absurd z f1, fun _ => ⟨M, D⟩, qFr.refl _ _⟩
    unfold qX12_lines_2
    simp (disch := omega) only [↓reduceIte, ↓q_m1, ↓q_m2, k_o, k_0, k_1, k_2, k_3, k_4, k_5, k_6, k_7, k_8, k_9, k_10, k_11, k_16, k_17, k_19, k_20, k_24, k_26, k_27, k_30, k_32, k_33, k_35, k_40, k_43, k_48, k_50, k_57, k_60, k_64, k_81, k_86, k_34, k_66, k_322, k_97, k_99, k_100, k_122, k_128, k_160, k_161, k_255, k_256, k_512, k_580, k_600, k_1000, k_4096, k_far, k_o, nI_add, n_mul, n_sub, n_div, n_rem, n_lt, n_le, n_eq, n_cl, n_and, n_or, n_xor, m1_lt, lt_m1, m1_eq, eq_m1, le_m1, m1_le, m2_eq, up_eq, up_ne, n_shl, n_shr, b2_some, let_e, ob_some, bI_0, bI_a, bI_t, bI_f, if_true, if_false, ite_true, ite_false, true_and, and_true, false_and, and_false, true_or, or_true, false_or, or_false, not_true_eq_false, not_false_eq_true, ite_not, ne_eq, Bool.true_eq_false, Bool.false_eq_true, reduceCtorEq, decide_true, decide_false, Bool.and_true, Bool.and_false, Bool.true_and, Bool.false_and, Bool.or_true, Bool.or_false, Bool.not_true, Bool.not_false, Nat.add_zero, Nat.zero_add, eq_self, Nat.not_lt_zero, Nat.reduceAdd, Nat.reduceMul, Nat.reduceSub, Nat.reduceDiv, Nat.reduceMod, Nat.reduceAnd, Nat.reduceXor, Nat.reduceEqDiff, Nat.reducePow, lt_T, lt_F, le_T, le_F, eq_F, b3]
  | succ k ih =>
    intro F d h fuel hf ch M D
    obtain ⟨g, rfl⟩ : ∃ g, fuel = g + 1 := ⟨fuel - 1, by omega⟩
    obtain ⟨⟨F2, d2⟩, ⟨f1, hk, F1, L, e2⟩, ch2⟩ := ch
    have f1 : F.2.1 ≠ 1 := f1
    have hk : tK B n F.1 ≠ 0 := hk
    have L : Ln F d F1 d2 := L
    have e2 : F2 = fStop B n F1 := e2
    have M0 : fM B n F (qm_seti h 62 23 (nI 1)) := M.mv (fun k _ _ _ => sI_ne (by omega)) rfl (fun j => sI_ne (by omega))
    have fr0 : qFr mP h (qm_seti h 62 23 (nI 1)) := qFr.seti (by unfold mP; omega)
    have it := m_it (s := s) (g := g) M hk
    obtain ⟨g', rfl⟩ : ∃ g', g = g' + 1 := ⟨g - 1, by omega⟩
    rcases HM F d F1 d2 _ M0 (HD _ _ _ _ D fr0) (sI_eq _ _ _ _) L with ⟨z, h1, b1, b2, b3⟩ | ⟨z, h1, b1, b2, b3, b4⟩
    · have eS : fStop B n F1 = F1 := by
        unfold fStop
        rw [if_neg (fun y => y.1 z)]
        exact fRef_1 B n z
      rw [eS] at e2
      subst e2
      have fin := chn_1 ch2 z
      have i1 : F2 = F' := congrArg Prod.fst fin
      subst i1
      rw [if_pos z]
      refine ⟨h1, ?_, fun _ => b2, fun y => absurd z y, (fr0.mono (fun _ _ y => y.r)).trans b3⟩
      rw [it]
      unfold qX12_lines_41 qX12_lines_63
      simp (disch := omega) only [↓reduceIte, ↓q_m1, ↓q_m2, k_o, k_0, k_1, k_2, k_3, k_4, k_5, k_6, k_7, k_8, k_9, k_10, k_11, k_16, k_17, k_19, k_20, k_24, k_26, k_27, k_30, k_32, k_33, k_35, k_40, k_43, k_48, k_50, k_57, k_60, k_64, k_81, k_86, k_34, k_66, k_322, k_97, k_99, k_100, k_122, k_128, k_160, k_161, k_255, k_256, k_512, k_580, k_600, k_1000, k_4096, k_far, k_o, nI_add, n_mul, n_sub, n_div, n_rem, n_lt, n_le, n_eq, n_cl, n_and, n_or, n_xor, m1_lt, lt_m1, m1_eq, eq_m1, le_m1, m1_le, m2_eq, up_eq, up_ne, n_shl, n_shr, b2_some, let_e, ob_some, bI_0, bI_a, bI_t, bI_f, if_true, if_false, ite_true, ite_false, true_and, and_true, false_and, and_false, true_or, or_true, false_or, or_false, not_true_eq_false, not_false_eq_true, ite_not, ne_eq, Bool.true_eq_false, Bool.false_eq_true, reduceCtorEq, decide_true, decide_false, Bool.and_true, Bool.and_false, Bool.true_and, Bool.false_and, Bool.or_true, Bool.or_false, Bool.not_true, Bool.not_false, Nat.add_zero, Nat.zero_add, eq_self, Nat.not_lt_zero, Nat.reduceAdd, Nat.reduceMul, Nat.reduceSub, Nat.reduceDiv, Nat.reduceMod, Nat.reduceAnd, Nat.reduceXor, Nat.reduceEqDiff, Nat.reducePow, lt_T, lt_F, le_T, le_F, eq_F, b1, m_l0]
    · have c3 := b2.2.2.2.2.1.2.2.1
      have mk := mkd_r (tK B n F1.1)
      by_cases q : tK B n F1.1 = 3
      · have eS : fStop B n F1 = fAdv B n F1 := by unfold fStop; rw [if_pos ⟨z, q⟩]
        rw [eS] at e2
        subst e2
        obtain ⟨h2, d1, dd2, d3⟩ := m_fadv b2.w (by omega)
        have fr3 : qFr mP h1 h2 := d3.mono (fun a k y => by unfold mtk at y; unfold mP; omega)
        obtain ⟨h', i1, i2, i3, i4⟩ := ih (fAdv B n F1) d2 h2 (g' + 1) (by omega) ch2 dd2 (HA _ _ _ (HD _ _ _ _ b3 fr3))
        refine ⟨h', ?_, i2, i3, (((fr0.mono (fun _ _ y => y.r)).trans b4).trans (d3.mono (fun _ _ y => y.r))).trans i4⟩
        rw [it]
        rw [mk.2.2.2.2.mpr q] at c3
        unfold qX12_lines_41 qX12_lines_63
        simp (disch := omega) only [↓reduceIte, ↓q_m1, ↓q_m2, k_o, k_0, k_1, k_2, k_3, k_4, k_5, k_6, k_7, k_8, k_9, k_10, k_11, k_16, k_17, k_19, k_20, k_24, k_26, k_27, k_30, k_32, k_33, k_35, k_40, k_43, k_48, k_50, k_57, k_60, k_64, k_81, k_86, k_34, k_66, k_322, k_97, k_99, k_100, k_122, k_128, k_160, k_161, k_255, k_256, k_512, k_580, k_600, k_1000, k_4096, k_far, k_o, nI_add, n_mul, n_sub, n_div, n_rem, n_lt, n_le, n_eq, n_cl, n_and, n_or, n_xor, m1_lt, lt_m1, m1_eq, eq_m1, le_m1, m1_le, m2_eq, up_eq, up_ne, n_shl, n_shr, b2_some, let_e, ob_some, bI_0, bI_a, bI_t, bI_f, if_true, if_false, ite_true, ite_false, true_and, and_true, false_and, and_false, true_or, or_true, false_or, or_false, not_true_eq_false, not_false_eq_true, ite_not, ne_eq, Bool.true_eq_false, Bool.false_eq_true, reduceCtorEq, decide_true, decide_false, Bool.and_true, Bool.and_false, Bool.true_and, Bool.false_and, Bool.or_true, Bool.or_false, Bool.not_true, Bool.not_false, Nat.add_zero, Nat.zero_add, eq_self, Nat.not_lt_zero, Nat.reduceAdd, Nat.reduceMul, Nat.reduceSub, Nat.reduceDiv, Nat.reduceMod, Nat.reduceAnd, Nat.reduceXor, Nat.reduceEqDiff, Nat.reducePow, lt_T, lt_F, le_T, le_F, eq_F, b1, c3, d1]
        exact i1
      · have eS : fStop B n F1 = (F1.1, 1, tS B n F1.1) := by
          unfold fStop fRef
          rw [if_neg (fun y => q y.2), if_neg z]
        rw [eS] at e2
        have fin := chn_1 ch2 (by rw [e2])
        have i1 : F2 = F' := congrArg Prod.fst fin
        rw [e2] at i1
        have n4 : mkd (tK B n F1.1) ≠ 4 := fun y => q (mk.2.2.2.2.mp y)
        have fl1 := m_fails b2.w
        subst i1
        rw [if_pos rfl]
        refine ⟨qm_seti h1 62 16 (nI (tS B n F1.1)), ?_, fun _ => sI_eq _ _ _ _, fun y => absurd rfl y, ((fr0.mono (fun _ _ y => y.r)).trans b4).trans (qFr.seti (by unfold rP; omega))⟩
        rw [it]
        unfold qX12_lines_41 qX12_lines_63
        simp (disch := omega) only [↓reduceIte, ↓q_m1, ↓q_m2, k_o, k_0, k_1, k_2, k_3, k_4, k_5, k_6, k_7, k_8, k_9, k_10, k_11, k_16, k_17, k_19, k_20, k_24, k_26, k_27, k_30, k_32, k_33, k_35, k_40, k_43, k_48, k_50, k_57, k_60, k_64, k_81, k_86, k_34, k_66, k_322, k_97, k_99, k_100, k_122, k_128, k_160, k_161, k_255, k_256, k_512, k_580, k_600, k_1000, k_4096, k_far, k_o, nI_add, n_mul, n_sub, n_div, n_rem, n_lt, n_le, n_eq, n_cl, n_and, n_or, n_xor, m1_lt, lt_m1, m1_eq, eq_m1, le_m1, m1_le, m2_eq, up_eq, up_ne, n_shl, n_shr, b2_some, let_e, ob_some, bI_0, bI_a, bI_t, bI_f, if_true, if_false, ite_true, ite_false, true_and, and_true, false_and, and_false, true_or, or_true, false_or, or_false, not_true_eq_false, not_false_eq_true, ite_not, ne_eq, Bool.true_eq_false, Bool.false_eq_true, reduceCtorEq, decide_true, decide_false, Bool.and_true, Bool.and_false, Bool.true_and, Bool.false_and, Bool.or_true, Bool.or_false, Bool.not_true, Bool.not_false, Nat.add_zero, Nat.zero_add, eq_self, Nat.not_lt_zero, Nat.reduceAdd, Nat.reduceMul, Nat.reduceSub, Nat.reduceDiv, Nat.reduceMod, Nat.reduceAnd, Nat.reduceXor, Nat.reduceEqDiff, Nat.reducePow, lt_T, lt_F, le_T, le_F, eq_F, b1, c3, eq_false n4, fl1, m_l0]
