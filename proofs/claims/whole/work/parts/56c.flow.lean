/-! text: words; what the class's reading does: numbers, words, stops, FAULTS. -/
def wcL : List Nat := [1936292453, 1869636974, 7499620, 495873780581, 7824756, 1684366692, 1835363940, 1735552887, 512801994341, 131294708393330, 6582905, 1852138852, 6518132, 1936225652, 495740088435, 1751477348]
def wbN (k i : Nat) : Nat := ((qm_sbyt.getD k []).getD i 0).toNatClampNeg
theorem wc_ok : ∀ k, k < 16 → pk8 (wbN k) (qm_slen.getD k 0) = wcL.getD k 0 ∧ 1 ≤ qm_slen.getD k 0 ∧ qm_slen.getD k 0 ≤ 8 ∧ 1 ≤ wcL.getD k 0 ∧ ∀ i, i < qm_slen.getD k 0 → (qm_sbyt.getD k []).getD i 0 = nI (wbN k i) ∧ 1 ≤ wbN k i ∧ wbN k i < 128 := by decide +kernel
theorem c_wlen {k : Nat} (hk : k < 16) (h : qm_H) : qJ0_length_8abf5 k h = some (nI (qm_slen.getD k 0), h) := by
  unfold qJ0_length_8abf5
  rw [if_pos hk]
theorem c_wchr {k i : Nat} (hk : k < 16) (hi : i < qm_slen.getD k 0) (h : qm_H) : qJ0_charAt_5068e k (nI i) h = some (nI (wbN k i), h) := by
  have w := wc_ok k hk
  unfold qJ0_charAt_5068e
  have e1 : (nI i).toNatClampNeg = i := n_cl (by omega)
  have e2 : ¬ nI i < 0 := by
    rw [k_0, n_lt (by omega) (by omega)]
    omega
  rw [e1, if_pos ⟨hk, e2, hi⟩, (w.2.2.2.2 i hi).1]
theorem c_isW39 {B : Nat → Nat} {n s k : Nat} {h : qm_H} (T : tpC B n h) (hk : k < 16) (e3 : h.1 43 3 = nI s) (hs : s + qm_slen.getD k 0 ≤ n) (D : ∀ j, j < qm_slen.getD k 0 → B (s + j) < 128) (b : Bool) (hb : b = true ↔ ∀ j, j < qm_slen.getD k 0 → B (s + j) = wbN k j) : ∀ d i fuel, i + d = qm_slen.getD k 0 → d < fuel → (∀ j, j < i → B (s + j) = wbN k j) → qX8_isWord_39 fuel 43 k (nI i) h = some (bI b, h) := by
  have hn := T.1
  have w := wc_ok k hk
  intro d
  induction d with
  | zero =>
    intro i fuel hi hf I
    obtain ⟨g, rfl⟩ : ∃ g, fuel = g + 1 := ⟨fuel - 1, by omega⟩
    have : b = true := hb.mpr (fun j hj => I j (by omega))
    subst this
    unfold qX8_isWord_39
    simp (disch := omega) only [↓reduceIte, ↓q_m1, ↓q_m2, k_o, k_0, k_1, k_2, k_3, k_4, k_5, k_6, k_7, k_8, k_9, k_10, k_11, k_16, k_17, k_19, k_20, k_24, k_26, k_27, k_30, k_32, k_33, k_35, k_40, k_43, k_48, k_50, k_57, k_60, k_64, k_81, k_86, k_34, k_66, k_322, k_97, k_99, k_100, k_122, k_128, k_160, k_161, k_255, k_256, k_512, k_580, k_600, k_1000, k_4096, k_far, k_o, nI_add, n_mul, n_sub, n_div, n_rem, n_lt, n_le, n_eq, n_cl, n_and, n_or, n_xor, m1_lt, lt_m1, m1_eq, eq_m1, le_m1, m1_le, m2_eq, up_eq, up_ne, n_shl, n_shr, b2_some, let_e, ob_some, bI_0, bI_a, bI_t, bI_f, if_true, if_false, ite_true, ite_false, true_and, and_true, false_and, and_false, true_or, or_true, false_or, or_false, not_true_eq_false, not_false_eq_true, ite_not, ne_eq, Bool.true_eq_false, Bool.false_eq_true, reduceCtorEq, decide_true, decide_false, Bool.and_true, Bool.and_false, Bool.true_and, Bool.false_and, Bool.or_true, Bool.or_false, Bool.not_true, Bool.not_false, Nat.add_zero, Nat.zero_add, eq_self, Nat.not_lt_zero, Nat.reduceAdd, Nat.reduceMul, Nat.reduceSub, Nat.reduceDiv, Nat.reduceMod, Nat.reduceAnd, Nat.reduceXor, Nat.reduceEqDiff, Nat.reducePow, lt_T, lt_F, le_T, le_F, eq_F, c_wlen hk]
  | succ d ih =>
    intro i fuel hi hf I
    obtain ⟨g, rfl⟩ : ∃ g, fuel = g + 1 := ⟨fuel - 1, by omega⟩
    have b0 := ytB_s (T.2.2 (s + i) (by omega)) (D i (by omega))
    have dl := D i (by omega)
    have wl := (w.2.2.2.2 i (by omega)).2
    have ch := c_wchr hk (show i < qm_slen.getD k 0 by omega) h
    by_cases q : wbN k i = B (s + i)
    · have r := ih (i + 1) g (by omega) (by omega) (fun j hj => by
        by_cases z : j = i
        · rw [z]; exact q.symm
        · exact I j (by omega))
      unfold qX8_isWord_39
      simp (disch := omega) only [↓reduceIte, ↓q_m1, ↓q_m2, k_o, k_0, k_1, k_2, k_3, k_4, k_5, k_6, k_7, k_8, k_9, k_10, k_11, k_16, k_17, k_19, k_20, k_24, k_26, k_27, k_30, k_32, k_33, k_35, k_40, k_43, k_48, k_50, k_57, k_60, k_64, k_81, k_86, k_34, k_66, k_322, k_97, k_99, k_100, k_122, k_128, k_160, k_161, k_255, k_256, k_512, k_580, k_600, k_1000, k_4096, k_far, k_o, nI_add, n_mul, n_sub, n_div, n_rem, n_lt, n_le, n_eq, n_cl, n_and, n_or, n_xor, m1_lt, lt_m1, m1_eq, eq_m1, le_m1, m1_le, m2_eq, up_eq, up_ne, n_shl, n_shr, b2_some, let_e, ob_some, bI_0, bI_a, bI_t, bI_f, if_true, if_false, ite_true, ite_false, true_and, and_true, false_and, and_false, true_or, or_true, false_or, or_false, not_true_eq_false, not_false_eq_true, ite_not, ne_eq, Bool.true_eq_false, Bool.false_eq_true, reduceCtorEq, decide_true, decide_false, Bool.and_true, Bool.and_false, Bool.true_and, Bool.false_and, Bool.or_true, Bool.or_false, Bool.not_true, Bool.not_false, Nat.add_zero, Nat.zero_add, eq_self, Nat.not_lt_zero, Nat.reduceAdd, Nat.reduceMul, Nat.reduceSub, Nat.reduceDiv, Nat.reduceMod, Nat.reduceAnd, Nat.reduceXor, Nat.reduceEqDiff, Nat.reducePow, lt_T, lt_F, le_T, le_F, eq_F, c_wlen hk, ch, e3, b0, q]
      exact r
    · have : b = false := by
        cases b with
        | false => rfl
        | true => exact absurd ((hb.mp rfl) i (by omega)).symm q
      subst this
      unfold qX8_isWord_39
      simp (disch := omega) only [↓reduceIte, ↓q_m1, ↓q_m2, k_o, k_0, k_1, k_2, k_3, k_4, k_5, k_6, k_7, k_8, k_9, k_10, k_11, k_16, k_17, k_19, k_20, k_24, k_26, k_27, k_30, k_32, k_33, k_35, k_40, k_43, k_48, k_50, k_57, k_60, k_64, k_81, k_86, k_34, k_66, k_322, k_97, k_99, k_100, k_122, k_128, k_160, k_161, k_255, k_256, k_512, k_580, k_600, k_1000, k_4096, k_far, k_o, nI_add, n_mul, n_sub, n_div, n_rem, n_lt, n_le, n_eq, n_cl, n_and, n_or, n_xor, m1_lt, lt_m1, m1_eq, eq_m1, le_m1, m1_le, m2_eq, up_eq, up_ne, n_shl, n_shr, b2_some, let_e, ob_some, bI_0, bI_a, bI_t, bI_f, if_true, if_false, ite_true, ite_false, true_and, and_true, false_and, and_false, true_or, or_true, false_or, or_false, not_true_eq_false, not_false_eq_true, ite_not, ne_eq, Bool.true_eq_false, Bool.false_eq_true, reduceCtorEq, decide_true, decide_false, Bool.and_true, Bool.and_false, Bool.true_and, Bool.false_and, Bool.or_true, Bool.or_false, Bool.not_true, Bool.not_false, Nat.add_zero, Nat.zero_add, eq_self, Nat.not_lt_zero, Nat.reduceAdd, Nat.reduceMul, Nat.reduceSub, Nat.reduceDiv, Nat.reduceMod, Nat.reduceAnd, Nat.reduceXor, Nat.reduceEqDiff, Nat.reducePow, lt_T, lt_F, le_T, le_F, eq_F, c_wlen hk, ch, e3, b0]
theorem c_isW {B : Nat → Nat} {n p k : Nat} {h : qm_H} (T : tpC B n h) (hp : p ≤ n) (C : ytC B n p h) (hk : k < 16) : qX8_isWord 43 k h = some (bI (decide (tW B n p = wcL.getD k 0)), h) := by
  have hn := T.1
  have e1 := T.2.1
  have w := wc_ok k hk
  have tk := t_K B n p
  have s1 := t_S B hp
  have E1 := t_E B hp
  obtain ⟨C1, C2, C3, _⟩ := C
  by_cases q : tK B n p = 1
  · have ta : tA B n p = 1 := tk.2.2.2.mp q
    rw [q] at C1
    have D := t_row B (n := n) (p := p) (Or.inl ta)
    rw [ta] at D
    by_cases l : qm_slen.getD k 0 = tE B n p - tS B n p
    · have wv : tW B n p = pk8 (fun i => B (tS B n p + i)) (tE B n p - tS B n p) := by unfold tW; rw [if_pos ⟨ta, by omega⟩]
      have hb : decide (tW B n p = wcL.getD k 0) = true ↔ ∀ j, j < qm_slen.getD k 0 → B (tS B n p + j) = wbN k j := by
        rw [decide_eq_true_iff, wv, ← w.1, ← l]
        constructor
        · intro e
          have := pk8_inj (f := fun i => B (tS B n p + i)) (g := wbN k) _ _ (fun i hi => by
            have := kdB_1.mp (D (tS B n p + i) (by omega) (by omega))
            omega) (fun i hi => by
            have := w.2.2.2.2 i hi
            omega) e
          exact this.2
        · intro e
          have cg : ∀ M, M ≤ qm_slen.getD k 0 → pk8 (fun i => B (tS B n p + i)) M = pk8 (wbN k) M := by
            intro M
            induction M with
            | zero => intro _; rfl
            | succ M ih =>
              intro hM
              show pk8 _ M * 256 + B (tS B n p + M) = pk8 _ M * 256 + wbN k M
              rw [ih (by omega), e M (by omega)]
          exact cg _ (Nat.le_refl _)
      have r := c_isW39 T hk C2 (by omega) (fun j hj => by
        have := kdB_1.mp (D (tS B n p + j) (by omega) (by omega))
        omega) _ hb (qm_slen.getD k 0) 0 qm_N (by omega) (by unfold qm_N; omega) (fun j hj => absurd hj (Nat.not_lt_zero j))
      unfold qX8_isWord
      simp (disch := omega) only [↓reduceIte, ↓q_m1, ↓q_m2, k_o, k_0, k_1, k_2, k_3, k_4, k_5, k_6, k_7, k_8, k_9, k_10, k_11, k_16, k_17, k_19, k_20, k_24, k_26, k_27, k_30, k_32, k_33, k_35, k_40, k_43, k_48, k_50, k_57, k_60, k_64, k_81, k_86, k_34, k_66, k_322, k_97, k_99, k_100, k_122, k_128, k_160, k_161, k_255, k_256, k_512, k_580, k_600, k_1000, k_4096, k_far, k_o, nI_add, n_mul, n_sub, n_div, n_rem, n_lt, n_le, n_eq, n_cl, n_and, n_or, n_xor, m1_lt, lt_m1, m1_eq, eq_m1, le_m1, m1_le, m2_eq, up_eq, up_ne, n_shl, n_shr, b2_some, let_e, ob_some, bI_0, bI_a, bI_t, bI_f, if_true, if_false, ite_true, ite_false, true_and, and_true, false_and, and_false, true_or, or_true, false_or, or_false, not_true_eq_false, not_false_eq_true, ite_not, ne_eq, Bool.true_eq_false, Bool.false_eq_true, reduceCtorEq, decide_true, decide_false, Bool.and_true, Bool.and_false, Bool.true_and, Bool.false_and, Bool.or_true, Bool.or_false, Bool.not_true, Bool.not_false, Nat.add_zero, Nat.zero_add, eq_self, Nat.not_lt_zero, Nat.reduceAdd, Nat.reduceMul, Nat.reduceSub, Nat.reduceDiv, Nat.reduceMod, Nat.reduceAnd, Nat.reduceXor, Nat.reduceEqDiff, Nat.reducePow, lt_T, lt_F, le_T, le_F, eq_F, C1, C2, C3, e1, c_wlen hk]
      rw [if_pos l]
      exact r
    · have ne : ¬ tW B n p = wcL.getD k 0 := by
        unfold tW
        by_cases l8 : tE B n p - tS B n p ≤ 8
        · rw [if_pos ⟨ta, l8⟩, ← w.1]
          intro e
          have := pk8_inj (f := fun i => B (tS B n p + i)) (g := wbN k) _ _ (fun i hi => by
            have := kdB_1.mp (D (tS B n p + i) (by omega) (by omega))
            omega) (fun i hi => by
            have := w.2.2.2.2 i hi
            omega) e
          omega
        · rw [if_neg (fun z => l8 z.2)]
          omega
      rw [decide_eq_false ne]
      unfold qX8_isWord
      simp (disch := omega) only [↓reduceIte, ↓q_m1, ↓q_m2, k_o, k_0, k_1, k_2, k_3, k_4, k_5, k_6, k_7, k_8, k_9, k_10, k_11, k_16, k_17, k_19, k_20, k_24, k_26, k_27, k_30, k_32, k_33, k_35, k_40, k_43, k_48, k_50, k_57, k_60, k_64, k_81, k_86, k_34, k_66, k_322, k_97, k_99, k_100, k_122, k_128, k_160, k_161, k_255, k_256, k_512, k_580, k_600, k_1000, k_4096, k_far, k_o, nI_add, n_mul, n_sub, n_div, n_rem, n_lt, n_le, n_eq, n_cl, n_and, n_or, n_xor, m1_lt, lt_m1, m1_eq, eq_m1, le_m1, m1_le, m2_eq, up_eq, up_ne, n_shl, n_shr, b2_some, let_e, ob_some, bI_0, bI_a, bI_t, bI_f, if_true, if_false, ite_true, ite_false, true_and, and_true, false_and, and_false, true_or, or_true, false_or, or_false, not_true_eq_false, not_false_eq_true, ite_not, ne_eq, Bool.true_eq_false, Bool.false_eq_true, reduceCtorEq, decide_true, decide_false, Bool.and_true, Bool.and_false, Bool.true_and, Bool.false_and, Bool.or_true, Bool.or_false, Bool.not_true, Bool.not_false, Nat.add_zero, Nat.zero_add, eq_self, Nat.not_lt_zero, Nat.reduceAdd, Nat.reduceMul, Nat.reduceSub, Nat.reduceDiv, Nat.reduceMod, Nat.reduceAnd, Nat.reduceXor, Nat.reduceEqDiff, Nat.reducePow, lt_T, lt_F, le_T, le_F, eq_F, C1, C2, C3, e1, c_wlen hk]
  · have ne : ¬ tW B n p = wcL.getD k 0 := by
      unfold tW
      rw [if_neg (fun z => q (tk.2.2.2.mpr z.1))]
      omega
    rw [decide_eq_false ne]
    unfold qX8_isWord
    simp (disch := omega) only [↓reduceIte, ↓q_m1, ↓q_m2, k_o, k_0, k_1, k_2, k_3, k_4, k_5, k_6, k_7, k_8, k_9, k_10, k_11, k_16, k_17, k_19, k_20, k_24, k_26, k_27, k_30, k_32, k_33, k_35, k_40, k_43, k_48, k_50, k_57, k_60, k_64, k_81, k_86, k_34, k_66, k_322, k_97, k_99, k_100, k_122, k_128, k_160, k_161, k_255, k_256, k_512, k_580, k_600, k_1000, k_4096, k_far, k_o, nI_add, n_mul, n_sub, n_div, n_rem, n_lt, n_le, n_eq, n_cl, n_and, n_or, n_xor, m1_lt, lt_m1, m1_eq, eq_m1, le_m1, m1_le, m2_eq, up_eq, up_ne, n_shl, n_shr, b2_some, let_e, ob_some, bI_0, bI_a, bI_t, bI_f, if_true, if_false, ite_true, ite_false, true_and, and_true, false_and, and_false, true_or, or_true, false_or, or_false, not_true_eq_false, not_false_eq_true, ite_not, ne_eq, Bool.true_eq_false, Bool.false_eq_true, reduceCtorEq, decide_true, decide_false, Bool.and_true, Bool.and_false, Bool.true_and, Bool.false_and, Bool.or_true, Bool.or_false, Bool.not_true, Bool.not_false, Nat.add_zero, Nat.zero_add, eq_self, Nat.not_lt_zero, Nat.reduceAdd, Nat.reduceMul, Nat.reduceSub, Nat.reduceDiv, Nat.reduceMod, Nat.reduceAnd, Nat.reduceXor, Nat.reduceEqDiff, Nat.reducePow, lt_T, lt_F, le_T, le_F, eq_F, C1]
/-- where the reading stands: place, FAULT so far (1: refused), its place -/
abbrev fl : Type := Nat × Nat × Nat
def fAdv (B : Nat → Nat) (n : Nat) (F : fl) : fl := (tE B n F.1, F.2.1, F.2.2)
def fRef (B : Nat → Nat) (n : Nat) (F : fl) : fl := if F.2.1 = 1 then F else (F.1, 1, tS B n F.1)
def fNote (c q : Nat) (F : fl) : fl := if F.2.1 = 0 then (F.1, c, q) else F
def fNum (B : Nat → Nat) (n lo hi : Nat) (F : fl) : Nat × fl := if F.2.1 = 1 ∨ tK B n F.1 ≠ 2 then (lo, fRef B n F) else if tV B n F.1 < lo ∨ hi < tV B n F.1 then (lo, fAdv B n (fNote 2 (tS B n F.1) F)) else (tV B n F.1, fAdv B n F)
def fStop (B : Nat → Nat) (n : Nat) (F : fl) : fl := if F.2.1 ≠ 1 ∧ tK B n F.1 = 3 then fAdv B n F else fRef B n F
/-- the class's reading stands there -/
def fC (B : Nat → Nat) (n : Nat) (F : fl) (h : qm_H) : Prop := tpC B n h ∧ F.1 ≤ n ∧ ytC B n F.1 h ∧ F.2.1 ≤ 4 ∧ F.2.2 ≤ 600 ∧ h.1 31 5 = nI F.2.1 ∧ h.1 31 6 = if F.2.1 = 0 then m1 else nI F.2.2
def fP (a k : Nat) : Prop := (a = 43 ∧ k ≠ 1) ∨ (a = 31 ∧ (k = 5 ∨ k = 6))
theorem fC.mv {B : Nat → Nat} {n : Nat} {F : fl} {h h' : qm_H} (C : fC B n F h) (e1 : ∀ k, h'.1 43 k = h.1 43 k) (e2 : ∀ j, h'.1 2 j = h.1 2 j) (e3 : h'.1 31 5 = h.1 31 5) (e4 : h'.1 31 6 = h.1 31 6) : fC B n F h' := by
  obtain ⟨T, a1, a2, a3, a4, a5, a6⟩ := C
  refine ⟨T.mv (e1 1) e2, a1, ?_, a3, a4, by rw [e3]; exact a5, by rw [e4]; exact a6⟩
  unfold ytC
  rw [e1, e1, e1, e1]
  exact a2
theorem fC.fr {B : Nat → Nat} {n : Nat} {F : fl} {h h' : qm_H} (C : fC B n F h) {P : Nat → Nat → Prop} (e : qFr P h h') (i : ∀ a k, a = 43 ∨ a = 2 ∨ (a = 31 ∧ (k = 5 ∨ k = 6)) → ¬ P a k) : fC B n F h' := C.mv (fun k => (e _ _ (i _ _ (by omega))).1) (fun k => (e _ _ (i _ _ (by omega))).1) (e _ _ (i _ _ (by omega))).1 (e _ _ (i _ _ (by omega))).1
theorem tV_lt (B : Nat → Nat) {n p : Nat} (h : tK B n p = 2) : tV B n p < 100 := by
  have ta : tA B n p = 2 := by
    unfold tK at h
    split at h
    · omega
    · exact h
  have D := t_row B (n := n) (p := p) (Or.inr ta)
  rw [ta] at D
  have l : ¬ (2 < tE B n p - tS B n p) := fun z => by
    unfold tK at h
    rw [if_pos ⟨ta, z⟩] at h
    omega
  unfold tV
  rcases t_A B n p with ⟨a, b⟩ | ⟨a, b, c, d, e⟩
  · omega
  · have d0 := kdB_2.mp (b.symm.trans ta)
    split
    · omega
    · by_cases z : tS B n p + 1 < tE B n p
      · have d1 := kdB_2.mp (D (tS B n p + 1) (by omega) z)
        omega
      · have ge : tE B n p = tSk B n 2 (n - (tS B n p + 1)) (tS B n p + 1) := by unfold tE; rw [if_neg (by omega), if_pos (Or.inr ta), ta]
        have := tSk_ge B n 2 (n - (tS B n p + 1)) (tS B n p + 1)
        omega
theorem c_goes {B : Nat → Nat} {n : Nat} {F : fl} {h : qm_H} (C : fC B n F h) : qX3_goesOn 31 h = some (if F.2.1 = 1 then nI 0 else nI 1, h) := by
  obtain ⟨T, a1, a2, a3, a4, a5, a6⟩ := C
  unfold qX3_goesOn
  by_cases q : F.2.1 = 1
  · rw [if_pos q]
    rw [q] at a5
    simp (disch := omega) only [↓reduceIte, ↓q_m1, ↓q_m2, k_o, k_0, k_1, k_2, k_3, k_4, k_5, k_6, k_7, k_8, k_9, k_10, k_11, k_16, k_17, k_19, k_20, k_24, k_26, k_27, k_30, k_32, k_33, k_35, k_40, k_43, k_48, k_50, k_57, k_60, k_64, k_81, k_86, k_34, k_66, k_322, k_97, k_99, k_100, k_122, k_128, k_160, k_161, k_255, k_256, k_512, k_580, k_600, k_1000, k_4096, k_far, k_o, nI_add, n_mul, n_sub, n_div, n_rem, n_lt, n_le, n_eq, n_cl, n_and, n_or, n_xor, m1_lt, lt_m1, m1_eq, eq_m1, le_m1, m1_le, m2_eq, up_eq, up_ne, n_shl, n_shr, b2_some, let_e, ob_some, bI_0, bI_a, bI_t, bI_f, if_true, if_false, ite_true, ite_false, true_and, and_true, false_and, and_false, true_or, or_true, false_or, or_false, not_true_eq_false, not_false_eq_true, ite_not, ne_eq, Bool.true_eq_false, Bool.false_eq_true, reduceCtorEq, decide_true, decide_false, Bool.and_true, Bool.and_false, Bool.true_and, Bool.false_and, Bool.or_true, Bool.or_false, Bool.not_true, Bool.not_false, Nat.add_zero, Nat.zero_add, eq_self, Nat.not_lt_zero, Nat.reduceAdd, Nat.reduceMul, Nat.reduceSub, Nat.reduceDiv, Nat.reduceMod, Nat.reduceAnd, Nat.reduceXor, Nat.reduceEqDiff, Nat.reducePow, lt_T, lt_F, le_T, le_F, eq_F, a5]
  · rw [if_neg q]
    simp (disch := omega) only [↓reduceIte, ↓q_m1, ↓q_m2, k_o, k_0, k_1, k_2, k_3, k_4, k_5, k_6, k_7, k_8, k_9, k_10, k_11, k_16, k_17, k_19, k_20, k_24, k_26, k_27, k_30, k_32, k_33, k_35, k_40, k_43, k_48, k_50, k_57, k_60, k_64, k_81, k_86, k_34, k_66, k_322, k_97, k_99, k_100, k_122, k_128, k_160, k_161, k_255, k_256, k_512, k_580, k_600, k_1000, k_4096, k_far, k_o, nI_add, n_mul, n_sub, n_div, n_rem, n_lt, n_le, n_eq, n_cl, n_and, n_or, n_xor, m1_lt, lt_m1, m1_eq, eq_m1, le_m1, m1_le, m2_eq, up_eq, up_ne, n_shl, n_shr, b2_some, let_e, ob_some, bI_0, bI_a, bI_t, bI_f, if_true, if_false, ite_true, ite_false, true_and, and_true, false_and, and_false, true_or, or_true, false_or, or_false, not_true_eq_false, not_false_eq_true, ite_not, ne_eq, Bool.true_eq_false, Bool.false_eq_true, reduceCtorEq, decide_true, decide_false, Bool.and_true, Bool.and_false, Bool.true_and, Bool.false_and, Bool.or_true, Bool.or_false, Bool.not_true, Bool.not_false, Nat.add_zero, Nat.zero_add, eq_self, Nat.not_lt_zero, Nat.reduceAdd, Nat.reduceMul, Nat.reduceSub, Nat.reduceDiv, Nat.reduceMod, Nat.reduceAnd, Nat.reduceXor, Nat.reduceEqDiff, Nat.reducePow, lt_T, lt_F, le_T, le_F, eq_F, a5]
theorem c_ref {B : Nat → Nat} {n : Nat} {F : fl} {h : qm_H} (C : fC B n F h) : ∃ h', qX3_refuse 31 h = some h' ∧ fC B n (fRef B n F) h' ∧ qFr fP h h' := by
  have C0 := C
  obtain ⟨T, a1, a2, a3, a4, a5, a6⟩ := C
  have hn := T.1
  have s1 := t_S B a1
  unfold fRef
  by_cases q : F.2.1 = 1
  · rw [if_pos q]
    rw [q] at a5
    refine ⟨h, ?_, C0, qFr.refl _ _⟩
    unfold qX3_refuse
    simp (disch := omega) only [↓reduceIte, ↓q_m1, ↓q_m2, k_o, k_0, k_1, k_2, k_3, k_4, k_5, k_6, k_7, k_8, k_9, k_10, k_11, k_16, k_17, k_19, k_20, k_24, k_26, k_27, k_30, k_32, k_33, k_35, k_40, k_43, k_48, k_50, k_57, k_60, k_64, k_81, k_86, k_34, k_66, k_322, k_97, k_99, k_100, k_122, k_128, k_160, k_161, k_255, k_256, k_512, k_580, k_600, k_1000, k_4096, k_far, k_o, nI_add, n_mul, n_sub, n_div, n_rem, n_lt, n_le, n_eq, n_cl, n_and, n_or, n_xor, m1_lt, lt_m1, m1_eq, eq_m1, le_m1, m1_le, m2_eq, up_eq, up_ne, n_shl, n_shr, b2_some, let_e, ob_some, bI_0, bI_a, bI_t, bI_f, if_true, if_false, ite_true, ite_false, true_and, and_true, false_and, and_false, true_or, or_true, false_or, or_false, not_true_eq_false, not_false_eq_true, ite_not, ne_eq, Bool.true_eq_false, Bool.false_eq_true, reduceCtorEq, decide_true, decide_false, Bool.and_true, Bool.and_false, Bool.true_and, Bool.false_and, Bool.or_true, Bool.or_false, Bool.not_true, Bool.not_false, Nat.add_zero, Nat.zero_add, eq_self, Nat.not_lt_zero, Nat.reduceAdd, Nat.reduceMul, Nat.reduceSub, Nat.reduceDiv, Nat.reduceMod, Nat.reduceAnd, Nat.reduceXor, Nat.reduceEqDiff, Nat.reducePow, lt_T, lt_F, le_T, le_F, eq_F, a5]
  · rw [if_neg q]
    have e3 := a2.2.1
    refine ⟨qm_seti (qm_seti h 31 5 (nI 1)) 31 6 (nI (tS B n F.1)), ?_, ⟨T.mv (by rw [sI_ne (by omega), sI_ne (by omega)]) (fun j => by rw [sI_ne (by omega), sI_ne (by omega)]), a1, ?_, (show 1 ≤ 4 by omega), ?_, by rw [sI_ne (by omega)]; exact sI_eq _ _ _ _, sI_eq _ _ _ _⟩, (qFr.seti (by unfold fP; omega)).trans (qFr.seti (by unfold fP; omega))⟩
    · unfold qX3_refuse
      simp (disch := omega) only [↓reduceIte, ↓q_m1, ↓q_m2, k_o, k_0, k_1, k_2, k_3, k_4, k_5, k_6, k_7, k_8, k_9, k_10, k_11, k_16, k_17, k_19, k_20, k_24, k_26, k_27, k_30, k_32, k_33, k_35, k_40, k_43, k_48, k_50, k_57, k_60, k_64, k_81, k_86, k_34, k_66, k_322, k_97, k_99, k_100, k_122, k_128, k_160, k_161, k_255, k_256, k_512, k_580, k_600, k_1000, k_4096, k_far, k_o, nI_add, n_mul, n_sub, n_div, n_rem, n_lt, n_le, n_eq, n_cl, n_and, n_or, n_xor, m1_lt, lt_m1, m1_eq, eq_m1, le_m1, m1_le, m2_eq, up_eq, up_ne, n_shl, n_shr, b2_some, let_e, ob_some, bI_0, bI_a, bI_t, bI_f, if_true, if_false, ite_true, ite_false, true_and, and_true, false_and, and_false, true_or, or_true, false_or, or_false, not_true_eq_false, not_false_eq_true, ite_not, ne_eq, Bool.true_eq_false, Bool.false_eq_true, reduceCtorEq, decide_true, decide_false, Bool.and_true, Bool.and_false, Bool.true_and, Bool.false_and, Bool.or_true, Bool.or_false, Bool.not_true, Bool.not_false, Nat.add_zero, Nat.zero_add, eq_self, Nat.not_lt_zero, Nat.reduceAdd, Nat.reduceMul, Nat.reduceSub, Nat.reduceDiv, Nat.reduceMod, Nat.reduceAnd, Nat.reduceXor, Nat.reduceEqDiff, Nat.reducePow, lt_T, lt_F, le_T, le_F, eq_F, a5, e3]
    · unfold ytC
      rw [sI_ne (by omega), sI_ne (by omega), sI_ne (by omega), sI_ne (by omega), sI_ne (by omega), sI_ne (by omega), sI_ne (by omega), sI_ne (by omega)]
      exact a2
    · show tS B n F.1 ≤ 600
      omega
theorem c_note {B : Nat → Nat} {n c q : Nat} {F : fl} {h : qm_H} (C : fC B n F h) (hc : 1 ≤ c) (hc4 : c ≤ 4) (hq : q ≤ 600) : ∃ h', qX3_note 31 (nI c) (nI q) h = some h' ∧ fC B n (fNote c q F) h' ∧ qFr fP h h' := by
  have C0 := C
  obtain ⟨T, a1, a2, a3, a4, a5, a6⟩ := C
  unfold fNote
  by_cases z : F.2.1 = 0
  · rw [if_pos z]
    rw [z] at a5
    refine ⟨qm_seti (qm_seti h 31 5 (nI c)) 31 6 (nI q), ?_, ⟨T.mv (by rw [sI_ne (by omega), sI_ne (by omega)]) (fun j => by rw [sI_ne (by omega), sI_ne (by omega)]), a1, ?_, hc4, hq, by rw [sI_ne (by omega)]; exact sI_eq _ _ _ _, ?_⟩, (qFr.seti (by unfold fP; omega)).trans (qFr.seti (by unfold fP; omega))⟩
    · unfold qX3_note
      simp (disch := omega) only [↓reduceIte, ↓q_m1, ↓q_m2, k_o, k_0, k_1, k_2, k_3, k_4, k_5, k_6, k_7, k_8, k_9, k_10, k_11, k_16, k_17, k_19, k_20, k_24, k_26, k_27, k_30, k_32, k_33, k_35, k_40, k_43, k_48, k_50, k_57, k_60, k_64, k_81, k_86, k_34, k_66, k_322, k_97, k_99, k_100, k_122, k_128, k_160, k_161, k_255, k_256, k_512, k_580, k_600, k_1000, k_4096, k_far, k_o, nI_add, n_mul, n_sub, n_div, n_rem, n_lt, n_le, n_eq, n_cl, n_and, n_or, n_xor, m1_lt, lt_m1, m1_eq, eq_m1, le_m1, m1_le, m2_eq, up_eq, up_ne, n_shl, n_shr, b2_some, let_e, ob_some, bI_0, bI_a, bI_t, bI_f, if_true, if_false, ite_true, ite_false, true_and, and_true, false_and, and_false, true_or, or_true, false_or, or_false, not_true_eq_false, not_false_eq_true, ite_not, ne_eq, Bool.true_eq_false, Bool.false_eq_true, reduceCtorEq, decide_true, decide_false, Bool.and_true, Bool.and_false, Bool.true_and, Bool.false_and, Bool.or_true, Bool.or_false, Bool.not_true, Bool.not_false, Nat.add_zero, Nat.zero_add, eq_self, Nat.not_lt_zero, Nat.reduceAdd, Nat.reduceMul, Nat.reduceSub, Nat.reduceDiv, Nat.reduceMod, Nat.reduceAnd, Nat.reduceXor, Nat.reduceEqDiff, Nat.reducePow, lt_T, lt_F, le_T, le_F, eq_F, a5]
    · unfold ytC
      rw [sI_ne (by omega), sI_ne (by omega), sI_ne (by omega), sI_ne (by omega), sI_ne (by omega), sI_ne (by omega), sI_ne (by omega), sI_ne (by omega)]
      exact a2
    · rw [sI_eq]
      show nI q = if c = 0 then m1 else nI q
      rw [if_neg (by omega)]
  · rw [if_neg z]
    refine ⟨h, ?_, C0, qFr.refl _ _⟩
    unfold qX3_note
    simp (disch := omega) only [↓reduceIte, ↓q_m1, ↓q_m2, k_o, k_0, k_1, k_2, k_3, k_4, k_5, k_6, k_7, k_8, k_9, k_10, k_11, k_16, k_17, k_19, k_20, k_24, k_26, k_27, k_30, k_32, k_33, k_35, k_40, k_43, k_48, k_50, k_57, k_60, k_64, k_81, k_86, k_34, k_66, k_322, k_97, k_99, k_100, k_122, k_128, k_160, k_161, k_255, k_256, k_512, k_580, k_600, k_1000, k_4096, k_far, k_o, nI_add, n_mul, n_sub, n_div, n_rem, n_lt, n_le, n_eq, n_cl, n_and, n_or, n_xor, m1_lt, lt_m1, m1_eq, eq_m1, le_m1, m1_le, m2_eq, up_eq, up_ne, n_shl, n_shr, b2_some, let_e, ob_some, bI_0, bI_a, bI_t, bI_f, if_true, if_false, ite_true, ite_false, true_and, and_true, false_and, and_false, true_or, or_true, false_or, or_false, not_true_eq_false, not_false_eq_true, ite_not, ne_eq, Bool.true_eq_false, Bool.false_eq_true, reduceCtorEq, decide_true, decide_false, Bool.and_true, Bool.and_false, Bool.true_and, Bool.false_and, Bool.or_true, Bool.or_false, Bool.not_true, Bool.not_false, Nat.add_zero, Nat.zero_add, eq_self, Nat.not_lt_zero, Nat.reduceAdd, Nat.reduceMul, Nat.reduceSub, Nat.reduceDiv, Nat.reduceMod, Nat.reduceAnd, Nat.reduceXor, Nat.reduceEqDiff, Nat.reducePow, lt_T, lt_F, le_T, le_F, eq_F, a5]
/-- the next TOKEN -/
theorem c_fadv {B : Nat → Nat} {n : Nat} {F : fl} {h : qm_H} (C : fC B n F h) : ∃ h', qX8_advance 43 h = some h' ∧ fC B n (fAdv B n F) h' ∧ qFr fP h h' := by
  obtain ⟨T, a1, a2, a3, a4, a5, a6⟩ := C
  have E1 := t_E B a1
  obtain ⟨h', b1, b2, b3⟩ := c_adv (p := tE B n F.1) T E1.1 a2.2.2.1
  refine ⟨h', b1, ⟨T.mv (b3 _ _ (by omega)).1 (fun j => (b3 _ _ (by omega)).1), E1.1, b2, a3, a4, ?_, ?_⟩, b3.mono (fun a k z => Or.inl z)⟩
  · rw [(b3 _ _ (by omega)).1]; exact a5
  · rw [(b3 _ _ (by omega)).1]; exact a6
theorem c_num {B : Nat → Nat} {n lo hi : Nat} {F : fl} {h : qm_H} (C : fC B n F h) (hlo : lo ≤ hi) (hhi : hi < 100) : ∃ h', qX3_readNumber 31 (nI lo) (nI hi) h = some (nI (fNum B n lo hi F).1, h') ∧ fC B n (fNum B n lo hi F).2 h' ∧ qFr fP h h' := by
  have gs := c_goes C
  have tk := t_K B n F.1
  have C1 := C.2.2.1.1
  unfold fNum
  by_cases q : F.2.1 = 1 ∨ tK B n F.1 ≠ 2
  · rw [if_pos q]
    obtain ⟨h', b1, b2, b3⟩ := c_ref C
    refine ⟨h', ?_, b2, b3⟩
    unfold qX3_readNumber qX3_readNumber_18
    by_cases z : F.2.1 = 1
    · rw [if_pos z] at gs
      simp (disch := omega) only [↓reduceIte, ↓q_m1, ↓q_m2, k_o, k_0, k_1, k_2, k_3, k_4, k_5, k_6, k_7, k_8, k_9, k_10, k_11, k_16, k_17, k_19, k_20, k_24, k_26, k_27, k_30, k_32, k_33, k_35, k_40, k_43, k_48, k_50, k_57, k_60, k_64, k_81, k_86, k_34, k_66, k_322, k_97, k_99, k_100, k_122, k_128, k_160, k_161, k_255, k_256, k_512, k_580, k_600, k_1000, k_4096, k_far, k_o, nI_add, n_mul, n_sub, n_div, n_rem, n_lt, n_le, n_eq, n_cl, n_and, n_or, n_xor, m1_lt, lt_m1, m1_eq, eq_m1, le_m1, m1_le, m2_eq, up_eq, up_ne, n_shl, n_shr, b2_some, let_e, ob_some, bI_0, bI_a, bI_t, bI_f, if_true, if_false, ite_true, ite_false, true_and, and_true, false_and, and_false, true_or, or_true, false_or, or_false, not_true_eq_false, not_false_eq_true, ite_not, ne_eq, Bool.true_eq_false, Bool.false_eq_true, reduceCtorEq, decide_true, decide_false, Bool.and_true, Bool.and_false, Bool.true_and, Bool.false_and, Bool.or_true, Bool.or_false, Bool.not_true, Bool.not_false, Nat.add_zero, Nat.zero_add, eq_self, Nat.not_lt_zero, Nat.reduceAdd, Nat.reduceMul, Nat.reduceSub, Nat.reduceDiv, Nat.reduceMod, Nat.reduceAnd, Nat.reduceXor, Nat.reduceEqDiff, Nat.reducePow, lt_T, lt_F, le_T, le_F, eq_F, gs, b1]
    · rw [if_neg z] at gs
      simp (disch := omega) only [↓reduceIte, ↓q_m1, ↓q_m2, k_o, k_0, k_1, k_2, k_3, k_4, k_5, k_6, k_7, k_8, k_9, k_10, k_11, k_16, k_17, k_19, k_20, k_24, k_26, k_27, k_30, k_32, k_33, k_35, k_40, k_43, k_48, k_50, k_57, k_60, k_64, k_81, k_86, k_34, k_66, k_322, k_97, k_99, k_100, k_122, k_128, k_160, k_161, k_255, k_256, k_512, k_580, k_600, k_1000, k_4096, k_far, k_o, nI_add, n_mul, n_sub, n_div, n_rem, n_lt, n_le, n_eq, n_cl, n_and, n_or, n_xor, m1_lt, lt_m1, m1_eq, eq_m1, le_m1, m1_le, m2_eq, up_eq, up_ne, n_shl, n_shr, b2_some, let_e, ob_some, bI_0, bI_a, bI_t, bI_f, if_true, if_false, ite_true, ite_false, true_and, and_true, false_and, and_false, true_or, or_true, false_or, or_false, not_true_eq_false, not_false_eq_true, ite_not, ne_eq, Bool.true_eq_false, Bool.false_eq_true, reduceCtorEq, decide_true, decide_false, Bool.and_true, Bool.and_false, Bool.true_and, Bool.false_and, Bool.or_true, Bool.or_false, Bool.not_true, Bool.not_false, Nat.add_zero, Nat.zero_add, eq_self, Nat.not_lt_zero, Nat.reduceAdd, Nat.reduceMul, Nat.reduceSub, Nat.reduceDiv, Nat.reduceMod, Nat.reduceAnd, Nat.reduceXor, Nat.reduceEqDiff, Nat.reducePow, lt_T, lt_F, le_T, le_F, eq_F, gs, b1, C1]
  · rw [if_neg q]
    have tk2 : tK B n F.1 = 2 := by omega
    rw [if_neg (by omega)] at gs
    have vl := tV_lt B tk2
    have C5 := C.2.2.1.2.2.2 tk2
    rw [tk2] at C1
    have C3 := C.2.2.1.2.1
    by_cases v : tV B n F.1 < lo ∨ hi < tV B n F.1
    · rw [if_pos v]
      have s1 := t_S B C.2.1
      have hn := C.1.1
      obtain ⟨h1, b1, b2, b3⟩ := c_note (c := 2) (q := tS B n F.1) C (by omega) (by omega) (by omega)
      obtain ⟨h2, d1, d2, d3⟩ := c_fadv b2
      refine ⟨h2, ?_, d2, b3.trans d3⟩
      unfold qX3_readNumber qX3_readNumber_42 qX3_readNumber_56
      by_cases v1 : tV B n F.1 < lo
      · simp (disch := omega) only [↓reduceIte, ↓q_m1, ↓q_m2, k_o, k_0, k_1, k_2, k_3, k_4, k_5, k_6, k_7, k_8, k_9, k_10, k_11, k_16, k_17, k_19, k_20, k_24, k_26, k_27, k_30, k_32, k_33, k_35, k_40, k_43, k_48, k_50, k_57, k_60, k_64, k_81, k_86, k_34, k_66, k_322, k_97, k_99, k_100, k_122, k_128, k_160, k_161, k_255, k_256, k_512, k_580, k_600, k_1000, k_4096, k_far, k_o, nI_add, n_mul, n_sub, n_div, n_rem, n_lt, n_le, n_eq, n_cl, n_and, n_or, n_xor, m1_lt, lt_m1, m1_eq, eq_m1, le_m1, m1_le, m2_eq, up_eq, up_ne, n_shl, n_shr, b2_some, let_e, ob_some, bI_0, bI_a, bI_t, bI_f, if_true, if_false, ite_true, ite_false, true_and, and_true, false_and, and_false, true_or, or_true, false_or, or_false, not_true_eq_false, not_false_eq_true, ite_not, ne_eq, Bool.true_eq_false, Bool.false_eq_true, reduceCtorEq, decide_true, decide_false, Bool.and_true, Bool.and_false, Bool.true_and, Bool.false_and, Bool.or_true, Bool.or_false, Bool.not_true, Bool.not_false, Nat.add_zero, Nat.zero_add, eq_self, Nat.not_lt_zero, Nat.reduceAdd, Nat.reduceMul, Nat.reduceSub, Nat.reduceDiv, Nat.reduceMod, Nat.reduceAnd, Nat.reduceXor, Nat.reduceEqDiff, Nat.reducePow, lt_T, lt_F, le_T, le_F, eq_F, gs, C1, C5, C3, b1, d1]
      · have v2 : hi < tV B n F.1 := by omega
        simp (disch := omega) only [↓reduceIte, ↓q_m1, ↓q_m2, k_o, k_0, k_1, k_2, k_3, k_4, k_5, k_6, k_7, k_8, k_9, k_10, k_11, k_16, k_17, k_19, k_20, k_24, k_26, k_27, k_30, k_32, k_33, k_35, k_40, k_43, k_48, k_50, k_57, k_60, k_64, k_81, k_86, k_34, k_66, k_322, k_97, k_99, k_100, k_122, k_128, k_160, k_161, k_255, k_256, k_512, k_580, k_600, k_1000, k_4096, k_far, k_o, nI_add, n_mul, n_sub, n_div, n_rem, n_lt, n_le, n_eq, n_cl, n_and, n_or, n_xor, m1_lt, lt_m1, m1_eq, eq_m1, le_m1, m1_le, m2_eq, up_eq, up_ne, n_shl, n_shr, b2_some, let_e, ob_some, bI_0, bI_a, bI_t, bI_f, if_true, if_false, ite_true, ite_false, true_and, and_true, false_and, and_false, true_or, or_true, false_or, or_false, not_true_eq_false, not_false_eq_true, ite_not, ne_eq, Bool.true_eq_false, Bool.false_eq_true, reduceCtorEq, decide_true, decide_false, Bool.and_true, Bool.and_false, Bool.true_and, Bool.false_and, Bool.or_true, Bool.or_false, Bool.not_true, Bool.not_false, Nat.add_zero, Nat.zero_add, eq_self, Nat.not_lt_zero, Nat.reduceAdd, Nat.reduceMul, Nat.reduceSub, Nat.reduceDiv, Nat.reduceMod, Nat.reduceAnd, Nat.reduceXor, Nat.reduceEqDiff, Nat.reducePow, lt_T, lt_F, le_T, le_F, eq_F, gs, C1, C5, C3, b1, d1]
    · rw [if_neg v]
      obtain ⟨h2, d1, d2, d3⟩ := c_fadv C
      refine ⟨h2, ?_, d2, d3⟩
      unfold qX3_readNumber qX3_readNumber_56
      simp (disch := omega) only [↓reduceIte, ↓q_m1, ↓q_m2, k_o, k_0, k_1, k_2, k_3, k_4, k_5, k_6, k_7, k_8, k_9, k_10, k_11, k_16, k_17, k_19, k_20, k_24, k_26, k_27, k_30, k_32, k_33, k_35, k_40, k_43, k_48, k_50, k_57, k_60, k_64, k_81, k_86, k_34, k_66, k_322, k_97, k_99, k_100, k_122, k_128, k_160, k_161, k_255, k_256, k_512, k_580, k_600, k_1000, k_4096, k_far, k_o, nI_add, n_mul, n_sub, n_div, n_rem, n_lt, n_le, n_eq, n_cl, n_and, n_or, n_xor, m1_lt, lt_m1, m1_eq, eq_m1, le_m1, m1_le, m2_eq, up_eq, up_ne, n_shl, n_shr, b2_some, let_e, ob_some, bI_0, bI_a, bI_t, bI_f, if_true, if_false, ite_true, ite_false, true_and, and_true, false_and, and_false, true_or, or_true, false_or, or_false, not_true_eq_false, not_false_eq_true, ite_not, ne_eq, Bool.true_eq_false, Bool.false_eq_true, reduceCtorEq, decide_true, decide_false, Bool.and_true, Bool.and_false, Bool.true_and, Bool.false_and, Bool.or_true, Bool.or_false, Bool.not_true, Bool.not_false, Nat.add_zero, Nat.zero_add, eq_self, Nat.not_lt_zero, Nat.reduceAdd, Nat.reduceMul, Nat.reduceSub, Nat.reduceDiv, Nat.reduceMod, Nat.reduceAnd, Nat.reduceXor, Nat.reduceEqDiff, Nat.reducePow, lt_T, lt_F, le_T, le_F, eq_F, gs, C1, C5, d1]
theorem fNum_r (B : Nat → Nat) (n : Nat) {lo hi : Nat} (F : fl) (hlo : lo ≤ hi) : lo ≤ (fNum B n lo hi F).1 ∧ (fNum B n lo hi F).1 ≤ hi := by
  unfold fNum
  split
  · exact ⟨Nat.le_refl _, hlo⟩
  · split
    · exact ⟨Nat.le_refl _, hlo⟩
    · show lo ≤ tV B n F.1 ∧ tV B n F.1 ≤ hi
      omega
theorem c_word1 {B : Nat → Nat} {n k : Nat} {F : fl} {h : qm_H} (C : fC B n F h) (hk : k < 16) (h1 : F.2.1 ≠ 1) (hw : tW B n F.1 = wcL.getD k 0) : ∃ h', qX3_readWord 31 k h = some (nI 1, h') ∧ fC B n (fAdv B n F) h' ∧ qFr fP h h' := by
  have gs := c_goes C
  rw [if_neg h1] at gs
  have w := c_isW C.1 C.2.1 C.2.2.1 hk
  rw [decide_eq_true hw] at w
  obtain ⟨h2, d1, d2, d3⟩ := c_fadv C
  refine ⟨h2, ?_, d2, d3⟩
  unfold qX3_readWord
  simp (disch := omega) only [↓reduceIte, ↓q_m1, ↓q_m2, k_o, k_0, k_1, k_2, k_3, k_4, k_5, k_6, k_7, k_8, k_9, k_10, k_11, k_16, k_17, k_19, k_20, k_24, k_26, k_27, k_30, k_32, k_33, k_35, k_40, k_43, k_48, k_50, k_57, k_60, k_64, k_81, k_86, k_34, k_66, k_322, k_97, k_99, k_100, k_122, k_128, k_160, k_161, k_255, k_256, k_512, k_580, k_600, k_1000, k_4096, k_far, k_o, nI_add, n_mul, n_sub, n_div, n_rem, n_lt, n_le, n_eq, n_cl, n_and, n_or, n_xor, m1_lt, lt_m1, m1_eq, eq_m1, le_m1, m1_le, m2_eq, up_eq, up_ne, n_shl, n_shr, b2_some, let_e, ob_some, bI_0, bI_a, bI_t, bI_f, if_true, if_false, ite_true, ite_false, true_and, and_true, false_and, and_false, true_or, or_true, false_or, or_false, not_true_eq_false, not_false_eq_true, ite_not, ne_eq, Bool.true_eq_false, Bool.false_eq_true, reduceCtorEq, decide_true, decide_false, Bool.and_true, Bool.and_false, Bool.true_and, Bool.false_and, Bool.or_true, Bool.or_false, Bool.not_true, Bool.not_false, Nat.add_zero, Nat.zero_add, eq_self, Nat.not_lt_zero, Nat.reduceAdd, Nat.reduceMul, Nat.reduceSub, Nat.reduceDiv, Nat.reduceMod, Nat.reduceAnd, Nat.reduceXor, Nat.reduceEqDiff, Nat.reducePow, lt_T, lt_F, le_T, le_F, eq_F, gs, w, d1]
theorem c_word0 {B : Nat → Nat} {n k : Nat} {F : fl} {h : qm_H} (C : fC B n F h) (hk : k < 16) (hw : F.2.1 = 1 ∨ tW B n F.1 ≠ wcL.getD k 0) : qX3_readWord 31 k h = some (nI 0, h) := by
  have gs := c_goes C
  unfold qX3_readWord
  by_cases h1 : F.2.1 = 1
  · rw [if_pos h1] at gs
    simp (disch := omega) only [↓reduceIte, ↓q_m1, ↓q_m2, k_o, k_0, k_1, k_2, k_3, k_4, k_5, k_6, k_7, k_8, k_9, k_10, k_11, k_16, k_17, k_19, k_20, k_24, k_26, k_27, k_30, k_32, k_33, k_35, k_40, k_43, k_48, k_50, k_57, k_60, k_64, k_81, k_86, k_34, k_66, k_322, k_97, k_99, k_100, k_122, k_128, k_160, k_161, k_255, k_256, k_512, k_580, k_600, k_1000, k_4096, k_far, k_o, nI_add, n_mul, n_sub, n_div, n_rem, n_lt, n_le, n_eq, n_cl, n_and, n_or, n_xor, m1_lt, lt_m1, m1_eq, eq_m1, le_m1, m1_le, m2_eq, up_eq, up_ne, n_shl, n_shr, b2_some, let_e, ob_some, bI_0, bI_a, bI_t, bI_f, if_true, if_false, ite_true, ite_false, true_and, and_true, false_and, and_false, true_or, or_true, false_or, or_false, not_true_eq_false, not_false_eq_true, ite_not, ne_eq, Bool.true_eq_false, Bool.false_eq_true, reduceCtorEq, decide_true, decide_false, Bool.and_true, Bool.and_false, Bool.true_and, Bool.false_and, Bool.or_true, Bool.or_false, Bool.not_true, Bool.not_false, Nat.add_zero, Nat.zero_add, eq_self, Nat.not_lt_zero, Nat.reduceAdd, Nat.reduceMul, Nat.reduceSub, Nat.reduceDiv, Nat.reduceMod, Nat.reduceAnd, Nat.reduceXor, Nat.reduceEqDiff, Nat.reducePow, lt_T, lt_F, le_T, le_F, eq_F, gs]
  · rw [if_neg h1] at gs
    have w := c_isW C.1 C.2.1 C.2.2.1 hk
    rw [decide_eq_false (by omega)] at w
    simp (disch := omega) only [↓reduceIte, ↓q_m1, ↓q_m2, k_o, k_0, k_1, k_2, k_3, k_4, k_5, k_6, k_7, k_8, k_9, k_10, k_11, k_16, k_17, k_19, k_20, k_24, k_26, k_27, k_30, k_32, k_33, k_35, k_40, k_43, k_48, k_50, k_57, k_60, k_64, k_81, k_86, k_34, k_66, k_322, k_97, k_99, k_100, k_122, k_128, k_160, k_161, k_255, k_256, k_512, k_580, k_600, k_1000, k_4096, k_far, k_o, nI_add, n_mul, n_sub, n_div, n_rem, n_lt, n_le, n_eq, n_cl, n_and, n_or, n_xor, m1_lt, lt_m1, m1_eq, eq_m1, le_m1, m1_le, m2_eq, up_eq, up_ne, n_shl, n_shr, b2_some, let_e, ob_some, bI_0, bI_a, bI_t, bI_f, if_true, if_false, ite_true, ite_false, true_and, and_true, false_and, and_false, true_or, or_true, false_or, or_false, not_true_eq_false, not_false_eq_true, ite_not, ne_eq, Bool.true_eq_false, Bool.false_eq_true, reduceCtorEq, decide_true, decide_false, Bool.and_true, Bool.and_false, Bool.true_and, Bool.false_and, Bool.or_true, Bool.or_false, Bool.not_true, Bool.not_false, Nat.add_zero, Nat.zero_add, eq_self, Nat.not_lt_zero, Nat.reduceAdd, Nat.reduceMul, Nat.reduceSub, Nat.reduceDiv, Nat.reduceMod, Nat.reduceAnd, Nat.reduceXor, Nat.reduceEqDiff, Nat.reducePow, lt_T, lt_F, le_T, le_F, eq_F, gs, w]
theorem c_stop {B : Nat → Nat} {n : Nat} {F : fl} {h : qm_H} (C : fC B n F h) : ∃ h', qX3_readStop 31 h = some h' ∧ fC B n (fStop B n F) h' ∧ qFr fP h h' := by
  have gs := c_goes C
  have tk := t_K B n F.1
  have C1 := C.2.2.1.1
  unfold fStop
  by_cases q : F.2.1 ≠ 1 ∧ tK B n F.1 = 3
  · rw [if_pos q]
    rw [if_neg q.1] at gs
    rw [q.2] at C1
    obtain ⟨h2, d1, d2, d3⟩ := c_fadv C
    refine ⟨h2, ?_, d2, d3⟩
    unfold qX3_readStop
    simp (disch := omega) only [↓reduceIte, ↓q_m1, ↓q_m2, k_o, k_0, k_1, k_2, k_3, k_4, k_5, k_6, k_7, k_8, k_9, k_10, k_11, k_16, k_17, k_19, k_20, k_24, k_26, k_27, k_30, k_32, k_33, k_35, k_40, k_43, k_48, k_50, k_57, k_60, k_64, k_81, k_86, k_34, k_66, k_322, k_97, k_99, k_100, k_122, k_128, k_160, k_161, k_255, k_256, k_512, k_580, k_600, k_1000, k_4096, k_far, k_o, nI_add, n_mul, n_sub, n_div, n_rem, n_lt, n_le, n_eq, n_cl, n_and, n_or, n_xor, m1_lt, lt_m1, m1_eq, eq_m1, le_m1, m1_le, m2_eq, up_eq, up_ne, n_shl, n_shr, b2_some, let_e, ob_some, bI_0, bI_a, bI_t, bI_f, if_true, if_false, ite_true, ite_false, true_and, and_true, false_and, and_false, true_or, or_true, false_or, or_false, not_true_eq_false, not_false_eq_true, ite_not, ne_eq, Bool.true_eq_false, Bool.false_eq_true, reduceCtorEq, decide_true, decide_false, Bool.and_true, Bool.and_false, Bool.true_and, Bool.false_and, Bool.or_true, Bool.or_false, Bool.not_true, Bool.not_false, Nat.add_zero, Nat.zero_add, eq_self, Nat.not_lt_zero, Nat.reduceAdd, Nat.reduceMul, Nat.reduceSub, Nat.reduceDiv, Nat.reduceMod, Nat.reduceAnd, Nat.reduceXor, Nat.reduceEqDiff, Nat.reducePow, lt_T, lt_F, le_T, le_F, eq_F, gs, C1, d1]
  · rw [if_neg q]
    obtain ⟨h', b1, b2, b3⟩ := c_ref C
    refine ⟨h', ?_, b2, b3⟩
    unfold qX3_readStop qX3_readStop_28
    by_cases z : F.2.1 = 1
    · rw [if_pos z] at gs
      simp (disch := omega) only [↓reduceIte, ↓q_m1, ↓q_m2, k_o, k_0, k_1, k_2, k_3, k_4, k_5, k_6, k_7, k_8, k_9, k_10, k_11, k_16, k_17, k_19, k_20, k_24, k_26, k_27, k_30, k_32, k_33, k_35, k_40, k_43, k_48, k_50, k_57, k_60, k_64, k_81, k_86, k_34, k_66, k_322, k_97, k_99, k_100, k_122, k_128, k_160, k_161, k_255, k_256, k_512, k_580, k_600, k_1000, k_4096, k_far, k_o, nI_add, n_mul, n_sub, n_div, n_rem, n_lt, n_le, n_eq, n_cl, n_and, n_or, n_xor, m1_lt, lt_m1, m1_eq, eq_m1, le_m1, m1_le, m2_eq, up_eq, up_ne, n_shl, n_shr, b2_some, let_e, ob_some, bI_0, bI_a, bI_t, bI_f, if_true, if_false, ite_true, ite_false, true_and, and_true, false_and, and_false, true_or, or_true, false_or, or_false, not_true_eq_false, not_false_eq_true, ite_not, ne_eq, Bool.true_eq_false, Bool.false_eq_true, reduceCtorEq, decide_true, decide_false, Bool.and_true, Bool.and_false, Bool.true_and, Bool.false_and, Bool.or_true, Bool.or_false, Bool.not_true, Bool.not_false, Nat.add_zero, Nat.zero_add, eq_self, Nat.not_lt_zero, Nat.reduceAdd, Nat.reduceMul, Nat.reduceSub, Nat.reduceDiv, Nat.reduceMod, Nat.reduceAnd, Nat.reduceXor, Nat.reduceEqDiff, Nat.reducePow, lt_T, lt_F, le_T, le_F, eq_F, gs, b1]
    · rw [if_neg z] at gs
      simp (disch := omega) only [↓reduceIte, ↓q_m1, ↓q_m2, k_o, k_0, k_1, k_2, k_3, k_4, k_5, k_6, k_7, k_8, k_9, k_10, k_11, k_16, k_17, k_19, k_20, k_24, k_26, k_27, k_30, k_32, k_33, k_35, k_40, k_43, k_48, k_50, k_57, k_60, k_64, k_81, k_86, k_34, k_66, k_322, k_97, k_99, k_100, k_122, k_128, k_160, k_161, k_255, k_256, k_512, k_580, k_600, k_1000, k_4096, k_far, k_o, nI_add, n_mul, n_sub, n_div, n_rem, n_lt, n_le, n_eq, n_cl, n_and, n_or, n_xor, m1_lt, lt_m1, m1_eq, eq_m1, le_m1, m1_le, m2_eq, up_eq, up_ne, n_shl, n_shr, b2_some, let_e, ob_some, bI_0, bI_a, bI_t, bI_f, if_true, if_false, ite_true, ite_false, true_and, and_true, false_and, and_false, true_or, or_true, false_or, or_false, not_true_eq_false, not_false_eq_true, ite_not, ne_eq, Bool.true_eq_false, Bool.false_eq_true, reduceCtorEq, decide_true, decide_false, Bool.and_true, Bool.and_false, Bool.true_and, Bool.false_and, Bool.or_true, Bool.or_false, Bool.not_true, Bool.not_false, Nat.add_zero, Nat.zero_add, eq_self, Nat.not_lt_zero, Nat.reduceAdd, Nat.reduceMul, Nat.reduceSub, Nat.reduceDiv, Nat.reduceMod, Nat.reduceAnd, Nat.reduceXor, Nat.reduceEqDiff, Nat.reducePow, lt_T, lt_F, le_T, le_F, eq_F, gs, b1, C1]
theorem c_col {B : Nat → Nat} {n x : Nat} {F : fl} {h : qm_H} (C : fC B n F h) (e : h.1 31 7 = nI x) (hx : x < 100) : ∃ h', qX3_readColumn 31 h = some (nI (fNum B n 0 7 F).1, h') ∧ fC B n (fNum B n 0 7 F).2 h' ∧ h'.1 31 7 = nI (max x (fNum B n 0 7 F).1) ∧ qFr (fun a k => fP a k ∨ (a = 31 ∧ k = 7)) h h' := by
  obtain ⟨h1, b1, b2, b3⟩ := c_num (lo := 0) (hi := 7) C (by omega) (by omega)
  have r := fNum_r B n (lo := 0) (hi := 7) F (by omega)
  have e' : h1.1 31 7 = nI x := by rw [(b3 _ _ (by unfold fP; omega)).1]; exact e
  refine ⟨qm_seti h1 31 7 (nI (max x (fNum B n 0 7 F).1)), ?_, b2.mv (fun k => sI_ne (by omega)) (fun k => sI_ne (by omega)) (sI_ne (by omega)) (sI_ne (by omega)), sI_eq _ _ _ _, (b3.mono (fun a k z => Or.inl z)).trans (qFr.seti (Or.inr ⟨rfl, rfl⟩))⟩
  unfold qX3_readColumn
  simp (disch := omega) only [↓reduceIte, ↓q_m1, ↓q_m2, k_o, k_0, k_1, k_2, k_3, k_4, k_5, k_6, k_7, k_8, k_9, k_10, k_11, k_16, k_17, k_19, k_20, k_24, k_26, k_27, k_30, k_32, k_33, k_35, k_40, k_43, k_48, k_50, k_57, k_60, k_64, k_81, k_86, k_34, k_66, k_322, k_97, k_99, k_100, k_122, k_128, k_160, k_161, k_255, k_256, k_512, k_580, k_600, k_1000, k_4096, k_far, k_o, nI_add, n_mul, n_sub, n_div, n_rem, n_lt, n_le, n_eq, n_cl, n_and, n_or, n_xor, m1_lt, lt_m1, m1_eq, eq_m1, le_m1, m1_le, m2_eq, up_eq, up_ne, n_shl, n_shr, b2_some, let_e, ob_some, bI_0, bI_a, bI_t, bI_f, if_true, if_false, ite_true, ite_false, true_and, and_true, false_and, and_false, true_or, or_true, false_or, or_false, not_true_eq_false, not_false_eq_true, ite_not, ne_eq, Bool.true_eq_false, Bool.false_eq_true, reduceCtorEq, decide_true, decide_false, Bool.and_true, Bool.and_false, Bool.true_and, Bool.false_and, Bool.or_true, Bool.or_false, Bool.not_true, Bool.not_false, Nat.add_zero, Nat.zero_add, eq_self, Nat.not_lt_zero, Nat.reduceAdd, Nat.reduceMul, Nat.reduceSub, Nat.reduceDiv, Nat.reduceMod, Nat.reduceAnd, Nat.reduceXor, Nat.reduceEqDiff, Nat.reducePow, lt_T, lt_F, le_T, le_F, eq_F, b1, e', j_maxn]
theorem c_row {B : Nat → Nat} {n x : Nat} {F : fl} {h : qm_H} (C : fC B n F h) (e : h.1 31 8 = nI x) (hx : x < 100) : ∃ h', qX3_readRow 31 h = some (nI (fNum B n 0 7 F).1, h') ∧ fC B n (fNum B n 0 7 F).2 h' ∧ h'.1 31 8 = nI (max x (fNum B n 0 7 F).1) ∧ qFr (fun a k => fP a k ∨ (a = 31 ∧ k = 8)) h h' := by
  obtain ⟨h1, b1, b2, b3⟩ := c_num (lo := 0) (hi := 7) C (by omega) (by omega)
  have r := fNum_r B n (lo := 0) (hi := 7) F (by omega)
  have e' : h1.1 31 8 = nI x := by rw [(b3 _ _ (by unfold fP; omega)).1]; exact e
  refine ⟨qm_seti h1 31 8 (nI (max x (fNum B n 0 7 F).1)), ?_, b2.mv (fun k => sI_ne (by omega)) (fun k => sI_ne (by omega)) (sI_ne (by omega)) (sI_ne (by omega)), sI_eq _ _ _ _, (b3.mono (fun a k z => Or.inl z)).trans (qFr.seti (Or.inr ⟨rfl, rfl⟩))⟩
  unfold qX3_readRow
  simp (disch := omega) only [↓reduceIte, ↓q_m1, ↓q_m2, k_o, k_0, k_1, k_2, k_3, k_4, k_5, k_6, k_7, k_8, k_9, k_10, k_11, k_16, k_17, k_19, k_20, k_24, k_26, k_27, k_30, k_32, k_33, k_35, k_40, k_43, k_48, k_50, k_57, k_60, k_64, k_81, k_86, k_34, k_66, k_322, k_97, k_99, k_100, k_122, k_128, k_160, k_161, k_255, k_256, k_512, k_580, k_600, k_1000, k_4096, k_far, k_o, nI_add, n_mul, n_sub, n_div, n_rem, n_lt, n_le, n_eq, n_cl, n_and, n_or, n_xor, m1_lt, lt_m1, m1_eq, eq_m1, le_m1, m1_le, m2_eq, up_eq, up_ne, n_shl, n_shr, b2_some, let_e, ob_some, bI_0, bI_a, bI_t, bI_f, if_true, if_false, ite_true, ite_false, true_and, and_true, false_and, and_false, true_or, or_true, false_or, or_false, not_true_eq_false, not_false_eq_true, ite_not, ne_eq, Bool.true_eq_false, Bool.false_eq_true, reduceCtorEq, decide_true, decide_false, Bool.and_true, Bool.and_false, Bool.true_and, Bool.false_and, Bool.or_true, Bool.or_false, Bool.not_true, Bool.not_false, Nat.add_zero, Nat.zero_add, eq_self, Nat.not_lt_zero, Nat.reduceAdd, Nat.reduceMul, Nat.reduceSub, Nat.reduceDiv, Nat.reduceMod, Nat.reduceAnd, Nat.reduceXor, Nat.reduceEqDiff, Nat.reducePow, lt_T, lt_F, le_T, le_F, eq_F, b1, e', j_maxn]
