/-! escape, tunnel: both go round by round to the best ways. -/
theorem grd1 : ∀ W, W < 9 → ∀ i, i < 64 → 2 ≤ W → ((0 < i / W ↔ W ≤ i) ∧ (i / W = 0 ↔ i < W)) := by decide +kernel
theorem grd2 : ∀ W, W < 9 → ∀ H, H < 9 → ∀ i, i < 64 → (2 ≤ W ∧ i < W * H) → (i / W + 1 < H ↔ i + W < W * H) := by decide +kernel
theorem grd3 : ∀ W, W < 9 → ∀ i, i < 64 → 2 ≤ W → (i % W + 1 < W ↔ (i + 1) % W ≠ 0) := by decide +kernel
theorem grd4 : ∀ W, W < 9 → ∀ H, H < 9 → ∀ i, i < 64 → (2 ≤ W ∧ i < W * H) → (i % W + 1 < W → i + 1 < W * H) := by decide +kernel
theorem grd5 : ∀ W, W < 9 → ∀ H, H < 9 → ∀ i, i < 64 → (2 ≤ W ∧ i < W * H) → (i / W = H - 1 ↔ W * H - W ≤ i) := by decide +kernel
theorem grd (W : Nat) (h1 : W < 9) (h2 : 2 ≤ W) (H : Nat) (h3 : H < 9) (i : Nat) (h4 : i < 64) (h5 : i < W * H) : (0 < i / W ↔ W ≤ i) ∧ (i / W + 1 < H ↔ i + W < W * H) ∧ (i % W + 1 < W ↔ (i + 1) % W ≠ 0) ∧ (i % W + 1 < W → i + 1 < W * H) ∧ (i / W = 0 ↔ i < W) ∧ (i / W = H - 1 ↔ W * H - W ≤ i) := ⟨(grd1 W h1 i h4 h2).1, grd2 W h1 H h3 i h4 ⟨h2, h5⟩, grd3 W h1 i h4 h2, grd4 W h1 H h3 i h4 ⟨h2, h5⟩, (grd1 W h1 i h4 h2).2, grd5 W h1 H h3 i h4 ⟨h2, h5⟩⟩
def sS (β : qB) (c : Nat) : Nat := hg β 0 (c / bw β) (c % bw β)
theorem sS_le {β : qB} (k : bOK β) {c : Nat} (hc : c < bw β * bh β) : sS β c ≤ 18 := by
  have := k.dm hc
  have hW := k.W
  have hH := k.H
  exact hg_le k (by omega) (by omega)
def bf1 (W H : Nat) (X : Nat → Nat) (i : Nat) : Nat := if 0 < i / W then min 1000000 (X (i - W)) else 1000000
def bf2 (W H : Nat) (X : Nat → Nat) (i : Nat) : Nat := if i / W + 1 < H then min (bf1 W H X i) (X (i + W)) else bf1 W H X i
def bf3 (W H : Nat) (X : Nat → Nat) (i : Nat) : Nat := if 0 < i % W then min (bf2 W H X i) (X (i - 1)) else bf2 W H X i
def bf4 (W H : Nat) (X : Nat → Nat) (i : Nat) : Nat := if i % W + 1 < W then min (bf3 W H X i) (X (i + 1)) else bf3 W H X i
theorem bf1_le {W H i : Nat} {X : Nat → Nat} : bf1 W H X i ≤ 1000000 := by unfold bf1; split <;> omega
theorem bf2_le {W H i : Nat} {X : Nat → Nat} : bf2 W H X i ≤ bf1 W H X i := by unfold bf2; split <;> omega
theorem bf3_le {W H i : Nat} {X : Nat → Nat} : bf3 W H X i ≤ bf2 W H X i := by unfold bf3; split <;> omega
theorem bf4_le {W H i : Nat} {X : Nat → Nat} : bf4 W H X i ≤ bf3 W H X i := by unfold bf4; split <;> omega
theorem bf_nb {W H d i : Nat} {X : Nat → Nat} (hW : 2 ≤ W) (hW8 : W ≤ 8) (hH8 : H ≤ 8) (h : nb W (W * H) d i) : bf4 W H X i ≤ X d := by
  have hn : W * H ≤ 8 * 8 := Nat.mul_le_mul hW8 hH8
  obtain ⟨h1, h2, h3⟩ := h
  obtain ⟨g1, g2, g3, g4, _, _⟩ := grd W (by omega) hW H (by omega) i (by omega) h2
  have l2 := bf2_le (W := W) (H := H) (i := i) (X := X)
  have l3 := bf3_le (W := W) (H := H) (i := i) (X := X)
  have l4 := bf4_le (W := W) (H := H) (i := i) (X := X)
  rcases h3 with h3 | h3 | ⟨h3, h4⟩ | ⟨h3, h4⟩
  · have : bf1 W H X i ≤ X d := by
      unfold bf1
      rw [if_pos (g1.mpr (by omega)), show i - W = d by omega]
      omega
    omega
  · have : bf2 W H X i ≤ X d := by
      unfold bf2
      rw [if_pos (g2.mpr (by omega)), show i + W = d by omega]
      omega
    omega
  · have : bf3 W H X i ≤ X d := by
      unfold bf3
      rw [if_pos (by omega), show i - 1 = d by omega]
      omega
    omega
  · unfold bf4
    rw [h3] at h4
    rw [if_pos (g3.mpr h4), show i + 1 = d by omega]
    omega
theorem bf_at {W H i : Nat} {X : Nat → Nat} (hW : 2 ≤ W) (hW8 : W ≤ 8) (hH8 : H ≤ 8) (hi : i < W * H) : bf4 W H X i = 1000000 ∨ ∃ d, nb W (W * H) d i ∧ bf4 W H X i = X d := by
  have hn : W * H ≤ 8 * 8 := Nat.mul_le_mul hW8 hH8
  obtain ⟨g1, g2, g3, g4, _, _⟩ := grd W (by omega) hW H (by omega) i (by omega) hi
  have a1 : bf1 W H X i = 1000000 ∨ ∃ d, nb W (W * H) d i ∧ bf1 W H X i = X d := by
    unfold bf1
    by_cases q : 0 < i / W
    · rw [if_pos q]
      by_cases z : X (i - W) ≤ 1000000
      · exact Or.inr ⟨i - W, ⟨by omega, hi, Or.inl (by have := g1.mp q; omega)⟩, by omega⟩
      · exact Or.inl (by omega)
    · rw [if_neg q]; exact Or.inl rfl
  have a2 : bf2 W H X i = 1000000 ∨ ∃ d, nb W (W * H) d i ∧ bf2 W H X i = X d := by
    unfold bf2
    by_cases q : i / W + 1 < H
    · rw [if_pos q]
      by_cases z : X (i + W) ≤ bf1 W H X i
      · exact Or.inr ⟨i + W, ⟨g2.mp q, hi, Or.inr (Or.inl rfl)⟩, by omega⟩
      · rw [show min (bf1 W H X i) (X (i + W)) = bf1 W H X i by omega]
        exact a1
    · rw [if_neg q]; exact a1
  have a3 : bf3 W H X i = 1000000 ∨ ∃ d, nb W (W * H) d i ∧ bf3 W H X i = X d := by
    unfold bf3
    by_cases q : 0 < i % W
    · rw [if_pos q]
      by_cases z : X (i - 1) ≤ bf2 W H X i
      · have : i ≠ 0 := fun y => by rw [y, Nat.zero_mod] at q; omega
        exact Or.inr ⟨i - 1, ⟨by omega, hi, Or.inr (Or.inr (Or.inl ⟨by omega, by omega⟩))⟩, by omega⟩
      · rw [show min (bf2 W H X i) (X (i - 1)) = bf2 W H X i by omega]
        exact a2
    · rw [if_neg q]; exact a2
  unfold bf4
  by_cases q : i % W + 1 < W
  · rw [if_pos q]
    by_cases z : X (i + 1) ≤ bf3 W H X i
    · exact Or.inr ⟨i + 1, ⟨g4 q, hi, Or.inr (Or.inr (Or.inr ⟨rfl, g3.mp q⟩))⟩, by omega⟩
    · rw [show min (bf3 W H X i) (X (i + 1)) = bf3 W H X i by omega]
      exact a3
  · rw [if_neg q]; exact a3
def upN (X : Nat → Nat) (i v : Nat) : Nat → Nat := fun c => if c = i then v else X c
theorem upN_eq (X : Nat → Nat) (i v : Nat) : upN X i v i = v := if_pos rfl
theorem upN_ne {X : Nat → Nat} {i v c : Nat} (h : c ≠ i) : upN X i v c = X c := if_neg h
/-- a table in the heap -/
def hT (a N : Nat) (X : Nat → Nat) (h : qm_H) : Prop := ∀ c, c < N → h.1 a c = nI (X c) ∧ X c ≤ 1000000
theorem hT.up {a N : Nat} {X : Nat → Nat} {h : qm_H} (T : hT a N X h) {i v : Nat} (hv : v ≤ 1000000) : hT a N (upN X i v) (qm_seti h a i (nI v)) := by
  intro c hc
  by_cases z : c = i
  · rw [z, upN_eq, sI_eq]
    exact ⟨rfl, hv⟩
  · rw [upN_ne z, sI_ne (by omega)]
    exact T c hc
/-- what a round keeps -/
def RI (W N f0 : Nat) (s : Nat → Nat) (m : Nat) (X Y : Nat → Nat) (fl : Bool) : Prop := (∀ c, c < N → Y c ≤ X c) ∧ AF W N f0 s m Y ∧ (fl = false → ∀ c, c < N → Y c = X c) ∧ (fl = true → ∃ c, c < N ∧ Y c < X c)
theorem RI.up {W N f0 m : Nat} {s : Nat → Nat} {X Y : Nat → Nat} {fl : Bool} (I : RI W N f0 s m X Y fl) {d i : Nat} (hn : nb W N d i) (hlt : Y d + (m * s i + 1) < Y i) : RI W N f0 s m X (upN Y i (Y d + (m * s i + 1))) true := by
  obtain ⟨a1, a2, a3, a4⟩ := I
  have yi := (a2 i hn.2.1).1
  refine ⟨fun c hc => ?_, fun c hc => ?_, (fun z => by cases z), fun _ => ⟨i, hn.2.1, by rw [upN_eq]; have := a1 i hn.2.1; omega⟩⟩
  · by_cases z : c = i
    · rw [z, upN_eq]
      have := a1 i hn.2.1
      omega
    · rw [upN_ne z]
      exact a1 c hc
  · by_cases z : c = i
    · rw [z, upN_eq]
      refine ⟨by omega, Or.inr ?_⟩
      rcases (a2 d hn.1).2 with y | ⟨k, F, t, y1, y2⟩
      · omega
      · refine ⟨k + 1, F + s i, t + 1, Or.inr ⟨d, F, t, hn, y1, rfl, rfl⟩, ?_⟩
        rw [Nat.mul_add]
        omega
    · rw [upN_ne z]
      exact a2 c hc
section EC
variable {β : qB} {b : Nat} {h : qm_H}
theorem c_cost (k : bOK β) (C : bC b β h) {c : Nat} (hc : c < bw β * bh β) : qX7_costOf b (nI c) h = some (nI (128 * sS β c + 1), h) := by
  unfold qX7_costOf
  rw [c_strengthOf k C hc, b2_some, k_128, n_mul, k_1, nI_add, Nat.mul_comm]
  rfl
theorem c_keyAt {c : Nat} (hc : c < 64) : qX7_keyAt 49 (nI c) h = some (h.1 52 c, h) := by
  unfold qX7_keyAt
  simp (disch := omega) only [↓reduceIte, ↓q_m1, ↓q_m2, k_o, k_0, k_1, k_2, k_3, k_4, k_5, k_6, k_7, k_8, k_9, k_10, k_11, k_16, k_17, k_19, k_20, k_24, k_26, k_27, k_30, k_32, k_33, k_35, k_40, k_43, k_48, k_50, k_57, k_60, k_64, k_81, k_86, k_34, k_66, k_322, k_97, k_99, k_100, k_122, k_128, k_160, k_161, k_255, k_256, k_512, k_580, k_600, k_1000, k_4096, k_far, k_o, nI_add, n_mul, n_sub, n_div, n_rem, n_lt, n_le, n_eq, n_cl, n_and, n_or, n_xor, m1_lt, lt_m1, m1_eq, eq_m1, le_m1, m1_le, m2_eq, up_eq, up_ne, n_shl, n_shr, b2_some, let_e, ob_some, bI_0, bI_a, bI_t, bI_f, if_true, if_false, ite_true, ite_false, true_and, and_true, false_and, and_false, true_or, or_true, false_or, or_false, not_true_eq_false, not_false_eq_true, ite_not, ne_eq, Bool.true_eq_false, Bool.false_eq_true, reduceCtorEq, decide_true, decide_false, Bool.and_true, Bool.and_false, Bool.true_and, Bool.false_and, Bool.or_true, Bool.or_false, Bool.not_true, Bool.not_false, Nat.add_zero, Nat.zero_add, eq_self, Nat.not_lt_zero, Nat.reduceAdd, Nat.reduceMul, Nat.reduceSub, Nat.reduceDiv, Nat.reduceMod, Nat.reduceAnd, Nat.reduceXor, Nat.reduceEqDiff, Nat.reducePow, lt_T, lt_F, le_T, le_F, eq_F]
theorem c_lower (k : bOK β) (C : bC b β h) {X : Nat → Nat} (T : hT 52 (bw β * bh β) X h) {i : Nat} (hi : i < bw β * bh β) : qX7_lower 49 b (nI i) h = some (bI (decide (bf4 (bw β) (bh β) X i + (128 * sS β i + 1) < X i)), if bf4 (bw β) (bh β) X i + (128 * sS β i + 1) < X i then qm_seti h 52 i (nI (bf4 (bw β) (bh β) X i + (128 * sS β i + 1))) else h) := by
  have hW := k.W
  have hH := k.H
  have hn := k.n
  have hd := k.dm hi
  have hz := Nat.zero_le (i / bw β)
  obtain ⟨g1, g2, g3, g4, _, _⟩ := grd (bw β) (by omega) hW.1 (bh β) (by omega) i (by omega) hi
  have hs := sS_le k hi
  have o := c_cost k C hi
  have xi := T i hi
  have b1 := bf1_le (W := bw β) (H := bh β) (i := i) (X := X)
  have b2 := bf2_le (W := bw β) (H := bh β) (i := i) (X := X)
  have b3 := bf3_le (W := bw β) (H := bh β) (i := i) (X := X)
  have b4 := bf4_le (W := bw β) (H := bh β) (i := i) (X := X)
  have s4 : qX7_lower_109 49 b (nI i) (nI (bf4 (bw β) (bh β) X i)) h = some (bI (decide (bf4 (bw β) (bh β) X i + (128 * sS β i + 1) < X i)), if bf4 (bw β) (bh β) X i + (128 * sS β i + 1) < X i then qm_seti h 52 i (nI (bf4 (bw β) (bh β) X i + (128 * sS β i + 1))) else h) := by
    unfold qX7_lower_109
    by_cases q : bf4 (bw β) (bh β) X i + (128 * sS β i + 1) < X i
    · rw [if_pos q, decide_eq_true q]
      simp (disch := omega) only [↓reduceIte, ↓q_m1, ↓q_m2, k_o, k_0, k_1, k_2, k_3, k_4, k_5, k_6, k_7, k_8, k_9, k_10, k_11, k_16, k_17, k_19, k_20, k_24, k_26, k_27, k_30, k_32, k_33, k_35, k_40, k_43, k_48, k_50, k_57, k_60, k_64, k_81, k_86, k_34, k_66, k_322, k_97, k_99, k_100, k_122, k_128, k_160, k_161, k_255, k_256, k_512, k_580, k_600, k_1000, k_4096, k_far, k_o, nI_add, n_mul, n_sub, n_div, n_rem, n_lt, n_le, n_eq, n_cl, n_and, n_or, n_xor, m1_lt, lt_m1, m1_eq, eq_m1, le_m1, m1_le, m2_eq, up_eq, up_ne, n_shl, n_shr, b2_some, let_e, ob_some, bI_0, bI_a, bI_t, bI_f, if_true, if_false, ite_true, ite_false, true_and, and_true, false_and, and_false, true_or, or_true, false_or, or_false, not_true_eq_false, not_false_eq_true, ite_not, ne_eq, Bool.true_eq_false, Bool.false_eq_true, reduceCtorEq, decide_true, decide_false, Bool.and_true, Bool.and_false, Bool.true_and, Bool.false_and, Bool.or_true, Bool.or_false, Bool.not_true, Bool.not_false, Nat.add_zero, Nat.zero_add, eq_self, Nat.not_lt_zero, Nat.reduceAdd, Nat.reduceMul, Nat.reduceSub, Nat.reduceDiv, Nat.reduceMod, Nat.reduceAnd, Nat.reduceXor, Nat.reduceEqDiff, Nat.reducePow, lt_T, lt_F, le_T, le_F, eq_F, o, c_keyAt (c := i), xi.1]
    · rw [if_neg q, decide_eq_false q]
      simp (disch := omega) only [↓reduceIte, ↓q_m1, ↓q_m2, k_o, k_0, k_1, k_2, k_3, k_4, k_5, k_6, k_7, k_8, k_9, k_10, k_11, k_16, k_17, k_19, k_20, k_24, k_26, k_27, k_30, k_32, k_33, k_35, k_40, k_43, k_48, k_50, k_57, k_60, k_64, k_81, k_86, k_34, k_66, k_322, k_97, k_99, k_100, k_122, k_128, k_160, k_161, k_255, k_256, k_512, k_580, k_600, k_1000, k_4096, k_far, k_o, nI_add, n_mul, n_sub, n_div, n_rem, n_lt, n_le, n_eq, n_cl, n_and, n_or, n_xor, m1_lt, lt_m1, m1_eq, eq_m1, le_m1, m1_le, m2_eq, up_eq, up_ne, n_shl, n_shr, b2_some, let_e, ob_some, bI_0, bI_a, bI_t, bI_f, if_true, if_false, ite_true, ite_false, true_and, and_true, false_and, and_false, true_or, or_true, false_or, or_false, not_true_eq_false, not_false_eq_true, ite_not, ne_eq, Bool.true_eq_false, Bool.false_eq_true, reduceCtorEq, decide_true, decide_false, Bool.and_true, Bool.and_false, Bool.true_and, Bool.false_and, Bool.or_true, Bool.or_false, Bool.not_true, Bool.not_false, Nat.add_zero, Nat.zero_add, eq_self, Nat.not_lt_zero, Nat.reduceAdd, Nat.reduceMul, Nat.reduceSub, Nat.reduceDiv, Nat.reduceMod, Nat.reduceAnd, Nat.reduceXor, Nat.reduceEqDiff, Nat.reducePow, lt_T, lt_F, le_T, le_F, eq_F, o, c_keyAt (c := i), xi.1]
  have s3 : qX7_lower_84 49 b (nI i) (nI (i % bw β)) (nI (bf3 (bw β) (bh β) X i)) h = qX7_lower_109 49 b (nI i) (nI (bf4 (bw β) (bh β) X i)) h := by
    unfold qX7_lower_84 bf4
    by_cases q : i % bw β + 1 < bw β
    · have x1 := T (i + 1) (g4 q)
      have := g4 q
      simp (disch := omega) only [↓reduceIte, ↓q_m1, ↓q_m2, k_o, k_0, k_1, k_2, k_3, k_4, k_5, k_6, k_7, k_8, k_9, k_10, k_11, k_16, k_17, k_19, k_20, k_24, k_26, k_27, k_30, k_32, k_33, k_35, k_40, k_43, k_48, k_50, k_57, k_60, k_64, k_81, k_86, k_34, k_66, k_322, k_97, k_99, k_100, k_122, k_128, k_160, k_161, k_255, k_256, k_512, k_580, k_600, k_1000, k_4096, k_far, k_o, nI_add, n_mul, n_sub, n_div, n_rem, n_lt, n_le, n_eq, n_cl, n_and, n_or, n_xor, m1_lt, lt_m1, m1_eq, eq_m1, le_m1, m1_le, m2_eq, up_eq, up_ne, n_shl, n_shr, b2_some, let_e, ob_some, bI_0, bI_a, bI_t, bI_f, if_true, if_false, ite_true, ite_false, true_and, and_true, false_and, and_false, true_or, or_true, false_or, or_false, not_true_eq_false, not_false_eq_true, ite_not, ne_eq, Bool.true_eq_false, Bool.false_eq_true, reduceCtorEq, decide_true, decide_false, Bool.and_true, Bool.and_false, Bool.true_and, Bool.false_and, Bool.or_true, Bool.or_false, Bool.not_true, Bool.not_false, Nat.add_zero, Nat.zero_add, eq_self, Nat.not_lt_zero, Nat.reduceAdd, Nat.reduceMul, Nat.reduceSub, Nat.reduceDiv, Nat.reduceMod, Nat.reduceAnd, Nat.reduceXor, Nat.reduceEqDiff, Nat.reducePow, lt_T, lt_F, le_T, le_F, eq_F, C.1, c_keyAt (c := i + 1), x1.1, j_minn]
    · simp (disch := omega) only [↓reduceIte, ↓q_m1, ↓q_m2, k_o, k_0, k_1, k_2, k_3, k_4, k_5, k_6, k_7, k_8, k_9, k_10, k_11, k_16, k_17, k_19, k_20, k_24, k_26, k_27, k_30, k_32, k_33, k_35, k_40, k_43, k_48, k_50, k_57, k_60, k_64, k_81, k_86, k_34, k_66, k_322, k_97, k_99, k_100, k_122, k_128, k_160, k_161, k_255, k_256, k_512, k_580, k_600, k_1000, k_4096, k_far, k_o, nI_add, n_mul, n_sub, n_div, n_rem, n_lt, n_le, n_eq, n_cl, n_and, n_or, n_xor, m1_lt, lt_m1, m1_eq, eq_m1, le_m1, m1_le, m2_eq, up_eq, up_ne, n_shl, n_shr, b2_some, let_e, ob_some, bI_0, bI_a, bI_t, bI_f, if_true, if_false, ite_true, ite_false, true_and, and_true, false_and, and_false, true_or, or_true, false_or, or_false, not_true_eq_false, not_false_eq_true, ite_not, ne_eq, Bool.true_eq_false, Bool.false_eq_true, reduceCtorEq, decide_true, decide_false, Bool.and_true, Bool.and_false, Bool.true_and, Bool.false_and, Bool.or_true, Bool.or_false, Bool.not_true, Bool.not_false, Nat.add_zero, Nat.zero_add, eq_self, Nat.not_lt_zero, Nat.reduceAdd, Nat.reduceMul, Nat.reduceSub, Nat.reduceDiv, Nat.reduceMod, Nat.reduceAnd, Nat.reduceXor, Nat.reduceEqDiff, Nat.reducePow, lt_T, lt_F, le_T, le_F, eq_F, C.1]
  have s2 : qX7_lower_65 49 b (nI i) (nI (i % bw β)) (nI (bf2 (bw β) (bh β) X i)) h = qX7_lower_84 49 b (nI i) (nI (i % bw β)) (nI (bf3 (bw β) (bh β) X i)) h := by
    unfold qX7_lower_65 bf3
    by_cases q : 0 < i % bw β
    · have i0 : i ≠ 0 := fun y => by rw [y, Nat.zero_mod] at q; omega
      have x1 := T (i - 1) (by omega)
      simp (disch := omega) only [↓reduceIte, ↓q_m1, ↓q_m2, k_o, k_0, k_1, k_2, k_3, k_4, k_5, k_6, k_7, k_8, k_9, k_10, k_11, k_16, k_17, k_19, k_20, k_24, k_26, k_27, k_30, k_32, k_33, k_35, k_40, k_43, k_48, k_50, k_57, k_60, k_64, k_81, k_86, k_34, k_66, k_322, k_97, k_99, k_100, k_122, k_128, k_160, k_161, k_255, k_256, k_512, k_580, k_600, k_1000, k_4096, k_far, k_o, nI_add, n_mul, n_sub, n_div, n_rem, n_lt, n_le, n_eq, n_cl, n_and, n_or, n_xor, m1_lt, lt_m1, m1_eq, eq_m1, le_m1, m1_le, m2_eq, up_eq, up_ne, n_shl, n_shr, b2_some, let_e, ob_some, bI_0, bI_a, bI_t, bI_f, if_true, if_false, ite_true, ite_false, true_and, and_true, false_and, and_false, true_or, or_true, false_or, or_false, not_true_eq_false, not_false_eq_true, ite_not, ne_eq, Bool.true_eq_false, Bool.false_eq_true, reduceCtorEq, decide_true, decide_false, Bool.and_true, Bool.and_false, Bool.true_and, Bool.false_and, Bool.or_true, Bool.or_false, Bool.not_true, Bool.not_false, Nat.add_zero, Nat.zero_add, eq_self, Nat.not_lt_zero, Nat.reduceAdd, Nat.reduceMul, Nat.reduceSub, Nat.reduceDiv, Nat.reduceMod, Nat.reduceAnd, Nat.reduceXor, Nat.reduceEqDiff, Nat.reducePow, lt_T, lt_F, le_T, le_F, eq_F, c_keyAt (c := i - 1), x1.1, j_minn]
    · simp (disch := omega) only [↓reduceIte, ↓q_m1, ↓q_m2, k_o, k_0, k_1, k_2, k_3, k_4, k_5, k_6, k_7, k_8, k_9, k_10, k_11, k_16, k_17, k_19, k_20, k_24, k_26, k_27, k_30, k_32, k_33, k_35, k_40, k_43, k_48, k_50, k_57, k_60, k_64, k_81, k_86, k_34, k_66, k_322, k_97, k_99, k_100, k_122, k_128, k_160, k_161, k_255, k_256, k_512, k_580, k_600, k_1000, k_4096, k_far, k_o, nI_add, n_mul, n_sub, n_div, n_rem, n_lt, n_le, n_eq, n_cl, n_and, n_or, n_xor, m1_lt, lt_m1, m1_eq, eq_m1, le_m1, m1_le, m2_eq, up_eq, up_ne, n_shl, n_shr, b2_some, let_e, ob_some, bI_0, bI_a, bI_t, bI_f, if_true, if_false, ite_true, ite_false, true_and, and_true, false_and, and_false, true_or, or_true, false_or, or_false, not_true_eq_false, not_false_eq_true, ite_not, ne_eq, Bool.true_eq_false, Bool.false_eq_true, reduceCtorEq, decide_true, decide_false, Bool.and_true, Bool.and_false, Bool.true_and, Bool.false_and, Bool.or_true, Bool.or_false, Bool.not_true, Bool.not_false, Nat.add_zero, Nat.zero_add, eq_self, Nat.not_lt_zero, Nat.reduceAdd, Nat.reduceMul, Nat.reduceSub, Nat.reduceDiv, Nat.reduceMod, Nat.reduceAnd, Nat.reduceXor, Nat.reduceEqDiff, Nat.reducePow, lt_T, lt_F, le_T, le_F, eq_F]
  have s1' : qX7_lower_38 49 b (nI i) (nI (i / bw β)) (nI (i % bw β)) (nI (bf1 (bw β) (bh β) X i)) h = qX7_lower_65 49 b (nI i) (nI (i % bw β)) (nI (bf2 (bw β) (bh β) X i)) h := by
    unfold qX7_lower_38 bf2
    by_cases q : i / bw β + 1 < bh β
    · have q2 := g2.mp q
      have x1 := T (i + bw β) q2
      simp (disch := omega) only [↓reduceIte, ↓q_m1, ↓q_m2, k_o, k_0, k_1, k_2, k_3, k_4, k_5, k_6, k_7, k_8, k_9, k_10, k_11, k_16, k_17, k_19, k_20, k_24, k_26, k_27, k_30, k_32, k_33, k_35, k_40, k_43, k_48, k_50, k_57, k_60, k_64, k_81, k_86, k_34, k_66, k_322, k_97, k_99, k_100, k_122, k_128, k_160, k_161, k_255, k_256, k_512, k_580, k_600, k_1000, k_4096, k_far, k_o, nI_add, n_mul, n_sub, n_div, n_rem, n_lt, n_le, n_eq, n_cl, n_and, n_or, n_xor, m1_lt, lt_m1, m1_eq, eq_m1, le_m1, m1_le, m2_eq, up_eq, up_ne, n_shl, n_shr, b2_some, let_e, ob_some, bI_0, bI_a, bI_t, bI_f, if_true, if_false, ite_true, ite_false, true_and, and_true, false_and, and_false, true_or, or_true, false_or, or_false, not_true_eq_false, not_false_eq_true, ite_not, ne_eq, Bool.true_eq_false, Bool.false_eq_true, reduceCtorEq, decide_true, decide_false, Bool.and_true, Bool.and_false, Bool.true_and, Bool.false_and, Bool.or_true, Bool.or_false, Bool.not_true, Bool.not_false, Nat.add_zero, Nat.zero_add, eq_self, Nat.not_lt_zero, Nat.reduceAdd, Nat.reduceMul, Nat.reduceSub, Nat.reduceDiv, Nat.reduceMod, Nat.reduceAnd, Nat.reduceXor, Nat.reduceEqDiff, Nat.reducePow, lt_T, lt_F, le_T, le_F, eq_F, C.1, C.2.1, c_keyAt (c := i + bw β), x1.1, j_minn]
    · simp (disch := omega) only [↓reduceIte, ↓q_m1, ↓q_m2, k_o, k_0, k_1, k_2, k_3, k_4, k_5, k_6, k_7, k_8, k_9, k_10, k_11, k_16, k_17, k_19, k_20, k_24, k_26, k_27, k_30, k_32, k_33, k_35, k_40, k_43, k_48, k_50, k_57, k_60, k_64, k_81, k_86, k_34, k_66, k_322, k_97, k_99, k_100, k_122, k_128, k_160, k_161, k_255, k_256, k_512, k_580, k_600, k_1000, k_4096, k_far, k_o, nI_add, n_mul, n_sub, n_div, n_rem, n_lt, n_le, n_eq, n_cl, n_and, n_or, n_xor, m1_lt, lt_m1, m1_eq, eq_m1, le_m1, m1_le, m2_eq, up_eq, up_ne, n_shl, n_shr, b2_some, let_e, ob_some, bI_0, bI_a, bI_t, bI_f, if_true, if_false, ite_true, ite_false, true_and, and_true, false_and, and_false, true_or, or_true, false_or, or_false, not_true_eq_false, not_false_eq_true, ite_not, ne_eq, Bool.true_eq_false, Bool.false_eq_true, reduceCtorEq, decide_true, decide_false, Bool.and_true, Bool.and_false, Bool.true_and, Bool.false_and, Bool.or_true, Bool.or_false, Bool.not_true, Bool.not_false, Nat.add_zero, Nat.zero_add, eq_self, Nat.not_lt_zero, Nat.reduceAdd, Nat.reduceMul, Nat.reduceSub, Nat.reduceDiv, Nat.reduceMod, Nat.reduceAnd, Nat.reduceXor, Nat.reduceEqDiff, Nat.reducePow, lt_T, lt_F, le_T, le_F, eq_F, C.2.1]
  rw [← s4, ← s3, ← s2, ← s1']
  unfold qX7_lower bf1
  by_cases q : 0 < i / bw β
  · have q2 := g1.mp q
    have x1 := T (i - bw β) (by omega)
    simp (disch := omega) only [↓reduceIte, ↓q_m1, ↓q_m2, k_o, k_0, k_1, k_2, k_3, k_4, k_5, k_6, k_7, k_8, k_9, k_10, k_11, k_16, k_17, k_19, k_20, k_24, k_26, k_27, k_30, k_32, k_33, k_35, k_40, k_43, k_48, k_50, k_57, k_60, k_64, k_81, k_86, k_34, k_66, k_322, k_97, k_99, k_100, k_122, k_128, k_160, k_161, k_255, k_256, k_512, k_580, k_600, k_1000, k_4096, k_far, k_o, nI_add, n_mul, n_sub, n_div, n_rem, n_lt, n_le, n_eq, n_cl, n_and, n_or, n_xor, m1_lt, lt_m1, m1_eq, eq_m1, le_m1, m1_le, m2_eq, up_eq, up_ne, n_shl, n_shr, b2_some, let_e, ob_some, bI_0, bI_a, bI_t, bI_f, if_true, if_false, ite_true, ite_false, true_and, and_true, false_and, and_false, true_or, or_true, false_or, or_false, not_true_eq_false, not_false_eq_true, ite_not, ne_eq, Bool.true_eq_false, Bool.false_eq_true, reduceCtorEq, decide_true, decide_false, Bool.and_true, Bool.and_false, Bool.true_and, Bool.false_and, Bool.or_true, Bool.or_false, Bool.not_true, Bool.not_false, Nat.add_zero, Nat.zero_add, eq_self, Nat.not_lt_zero, Nat.reduceAdd, Nat.reduceMul, Nat.reduceSub, Nat.reduceDiv, Nat.reduceMod, Nat.reduceAnd, Nat.reduceXor, Nat.reduceEqDiff, Nat.reducePow, lt_T, lt_F, le_T, le_F, eq_F, c_rowOf k C, c_columnOf k C, C.1, c_keyAt (c := i - bw β), x1.1, j_minn]
  · simp (disch := omega) only [↓reduceIte, ↓q_m1, ↓q_m2, k_o, k_0, k_1, k_2, k_3, k_4, k_5, k_6, k_7, k_8, k_9, k_10, k_11, k_16, k_17, k_19, k_20, k_24, k_26, k_27, k_30, k_32, k_33, k_35, k_40, k_43, k_48, k_50, k_57, k_60, k_64, k_81, k_86, k_34, k_66, k_322, k_97, k_99, k_100, k_122, k_128, k_160, k_161, k_255, k_256, k_512, k_580, k_600, k_1000, k_4096, k_far, k_o, nI_add, n_mul, n_sub, n_div, n_rem, n_lt, n_le, n_eq, n_cl, n_and, n_or, n_xor, m1_lt, lt_m1, m1_eq, eq_m1, le_m1, m1_le, m2_eq, up_eq, up_ne, n_shl, n_shr, b2_some, let_e, ob_some, bI_0, bI_a, bI_t, bI_f, if_true, if_false, ite_true, ite_false, true_and, and_true, false_and, and_false, true_or, or_true, false_or, or_false, not_true_eq_false, not_false_eq_true, ite_not, ne_eq, Bool.true_eq_false, Bool.false_eq_true, reduceCtorEq, decide_true, decide_false, Bool.and_true, Bool.and_false, Bool.true_and, Bool.false_and, Bool.or_true, Bool.or_false, Bool.not_true, Bool.not_false, Nat.add_zero, Nat.zero_add, eq_self, Nat.not_lt_zero, Nat.reduceAdd, Nat.reduceMul, Nat.reduceSub, Nat.reduceDiv, Nat.reduceMod, Nat.reduceAnd, Nat.reduceXor, Nat.reduceEqDiff, Nat.reducePow, lt_T, lt_F, le_T, le_F, eq_F, c_rowOf k C, c_columnOf k C]
theorem c_round (k : bOK β) {f0 r : Nat} {X : Nat → Nat} (hf : f0 < bw β * bh β) (C : bC b β h) (hb : b + 2 < 49) (K : Nat → Nat → Int32 → Int32 → Int32 → qm_H → Option qm_H) : ∀ d i Y fl h1 fuel, i + d = bw β * bh β → d < fuel → qFr (fun a _ => a = 52) h h1 → hT 52 (bw β * bh β) Y h1 → RI (bw β) (bw β * bh β) f0 (sS β) 128 X Y fl → (∀ p c, nb (bw β) (bw β * bh β) p c → c < i → Y c ≤ X p + (128 * sS β c + 1)) → ∃ Y' fl' h2, qX7_spread_84 K fuel 49 b (nI (bw β * bh β)) (bI fl) (nI r) (nI i) h1 = K 49 b (nI (bw β * bh β)) (bI fl') (nI (r + 1)) h2 ∧ qFr (fun a _ => a = 52) h h2 ∧ hT 52 (bw β * bh β) Y' h2 ∧ RI (bw β) (bw β * bh β) f0 (sS β) 128 X Y' fl' ∧ ∀ p c, nb (bw β) (bw β * bh β) p c → Y' c ≤ X p + (128 * sS β c + 1) := by
  have hW := k.W
  have hH := k.H
  have hn := k.n
  intro d
  induction d with
  | zero =>
    intro i Y fl h1 fuel hi hfu F T I J
    obtain ⟨g, rfl⟩ : ∃ g, fuel = g + 1 := ⟨fuel - 1, by omega⟩
    refine ⟨Y, fl, h1, ?_, F, T, I, fun p c hnb => J p c hnb (by have := hnb.2.1; omega)⟩
    unfold qX7_spread_84
    simp (disch := omega) only [↓reduceIte, ↓q_m1, ↓q_m2, k_o, k_0, k_1, k_2, k_3, k_4, k_5, k_6, k_7, k_8, k_9, k_10, k_11, k_16, k_17, k_19, k_20, k_24, k_26, k_27, k_30, k_32, k_33, k_35, k_40, k_43, k_48, k_50, k_57, k_60, k_64, k_81, k_86, k_34, k_66, k_322, k_97, k_99, k_100, k_122, k_128, k_160, k_161, k_255, k_256, k_512, k_580, k_600, k_1000, k_4096, k_far, k_o, nI_add, n_mul, n_sub, n_div, n_rem, n_lt, n_le, n_eq, n_cl, n_and, n_or, n_xor, m1_lt, lt_m1, m1_eq, eq_m1, le_m1, m1_le, m2_eq, up_eq, up_ne, n_shl, n_shr, b2_some, let_e, ob_some, bI_0, bI_a, bI_t, bI_f, if_true, if_false, ite_true, ite_false, true_and, and_true, false_and, and_false, true_or, or_true, false_or, or_false, not_true_eq_false, not_false_eq_true, ite_not, ne_eq, Bool.true_eq_false, Bool.false_eq_true, reduceCtorEq, decide_true, decide_false, Bool.and_true, Bool.and_false, Bool.true_and, Bool.false_and, Bool.or_true, Bool.or_false, Bool.not_true, Bool.not_false, Nat.add_zero, Nat.zero_add, eq_self, Nat.not_lt_zero, Nat.reduceAdd, Nat.reduceMul, Nat.reduceSub, Nat.reduceDiv, Nat.reduceMod, Nat.reduceAnd, Nat.reduceXor, Nat.reduceEqDiff, Nat.reducePow, lt_T, lt_F, le_T, le_F, eq_F]
  | succ d ih =>
    intro i Y fl h1 fuel hi hfu F T I J
    obtain ⟨g, rfl⟩ : ∃ g, fuel = g + 1 := ⟨fuel - 1, by omega⟩
    have hi2 : i < bw β * bh β := by omega
    have C1 : bC b β h1 := C.mv (fun a q _ _ => (F a q (by omega)).1) (F b 6 (by omega)).2
    have o := c_lower k C1 T hi2
    by_cases q : bf4 (bw β) (bh β) Y i + (128 * sS β i + 1) < Y i
    · rw [decide_eq_true q, if_pos q] at o
      have yi := (T i hi2).2
      rcases bf_at (X := Y) hW.1 hW.2 hH.2 hi2 with z | ⟨p, hp, z⟩
      · omega
      · rw [z] at o q
        obtain ⟨Y', fl', h2, e1, e2, e3, e4, e5⟩ := ih (i + 1) (upN Y i (Y p + (128 * sS β i + 1))) true _ g (by omega) (by omega) (F.trans (qFr.seti rfl)) (T.up (by omega)) (I.up hp q) (fun p' c hnb hc => by
          by_cases y : c = i
          · rw [y, upN_eq]
            rw [y] at hnb
            have l := bf_nb (X := Y) hW.1 hW.2 hH.2 hnb
            have := I.1 p' hnb.1
            omega
          · rw [upN_ne y]
            exact J p' c hnb (by omega))
        refine ⟨Y', fl', h2, ?_, e2, e3, e4, e5⟩
        unfold qX7_spread_84
        simp (disch := omega) only [↓reduceIte, ↓q_m1, ↓q_m2, k_o, k_0, k_1, k_2, k_3, k_4, k_5, k_6, k_7, k_8, k_9, k_10, k_11, k_16, k_17, k_19, k_20, k_24, k_26, k_27, k_30, k_32, k_33, k_35, k_40, k_43, k_48, k_50, k_57, k_60, k_64, k_81, k_86, k_34, k_66, k_322, k_97, k_99, k_100, k_122, k_128, k_160, k_161, k_255, k_256, k_512, k_580, k_600, k_1000, k_4096, k_far, k_o, nI_add, n_mul, n_sub, n_div, n_rem, n_lt, n_le, n_eq, n_cl, n_and, n_or, n_xor, m1_lt, lt_m1, m1_eq, eq_m1, le_m1, m1_le, m2_eq, up_eq, up_ne, n_shl, n_shr, b2_some, let_e, ob_some, bI_0, bI_a, bI_t, bI_f, if_true, if_false, ite_true, ite_false, true_and, and_true, false_and, and_false, true_or, or_true, false_or, or_false, not_true_eq_false, not_false_eq_true, ite_not, ne_eq, Bool.true_eq_false, Bool.false_eq_true, reduceCtorEq, decide_true, decide_false, Bool.and_true, Bool.and_false, Bool.true_and, Bool.false_and, Bool.or_true, Bool.or_false, Bool.not_true, Bool.not_false, Nat.add_zero, Nat.zero_add, eq_self, Nat.not_lt_zero, Nat.reduceAdd, Nat.reduceMul, Nat.reduceSub, Nat.reduceDiv, Nat.reduceMod, Nat.reduceAnd, Nat.reduceXor, Nat.reduceEqDiff, Nat.reducePow, lt_T, lt_F, le_T, le_F, eq_F, o]
        have : bI fl ||| nI 1 = bI true := bI_or1 fl
        rw [this]
        exact e1
    · rw [decide_eq_false q, if_neg q] at o
      obtain ⟨Y', fl', h2, e1, e2, e3, e4, e5⟩ := ih (i + 1) Y fl h1 g (by omega) (by omega) F T I (fun p' c hnb hc => by
        by_cases y : c = i
        · rw [y] at hnb ⊢
          have l := bf_nb (X := Y) hW.1 hW.2 hH.2 hnb
          have := I.1 p' hnb.1
          omega
        · exact J p' c hnb (by omega))
      refine ⟨Y', fl', h2, ?_, e2, e3, e4, e5⟩
      unfold qX7_spread_84
      simp (disch := omega) only [↓reduceIte, ↓q_m1, ↓q_m2, k_o, k_0, k_1, k_2, k_3, k_4, k_5, k_6, k_7, k_8, k_9, k_10, k_11, k_16, k_17, k_19, k_20, k_24, k_26, k_27, k_30, k_32, k_33, k_35, k_40, k_43, k_48, k_50, k_57, k_60, k_64, k_81, k_86, k_34, k_66, k_322, k_97, k_99, k_100, k_122, k_128, k_160, k_161, k_255, k_256, k_512, k_580, k_600, k_1000, k_4096, k_far, k_o, nI_add, n_mul, n_sub, n_div, n_rem, n_lt, n_le, n_eq, n_cl, n_and, n_or, n_xor, m1_lt, lt_m1, m1_eq, eq_m1, le_m1, m1_le, m2_eq, up_eq, up_ne, n_shl, n_shr, b2_some, let_e, ob_some, bI_0, bI_a, bI_t, bI_f, if_true, if_false, ite_true, ite_false, true_and, and_true, false_and, and_false, true_or, or_true, false_or, or_false, not_true_eq_false, not_false_eq_true, ite_not, ne_eq, Bool.true_eq_false, Bool.false_eq_true, reduceCtorEq, decide_true, decide_false, Bool.and_true, Bool.and_false, Bool.true_and, Bool.false_and, Bool.or_true, Bool.or_false, Bool.not_true, Bool.not_false, Nat.add_zero, Nat.zero_add, eq_self, Nat.not_lt_zero, Nat.reduceAdd, Nat.reduceMul, Nat.reduceSub, Nat.reduceDiv, Nat.reduceMod, Nat.reduceAnd, Nat.reduceXor, Nat.reduceEqDiff, Nat.reducePow, lt_T, lt_F, le_T, le_F, eq_F, o]
      rw [bI_or0 fl]
      exact e1
theorem UB_dn {W N f0 m j j' : Nat} {s : Nat → Nat} {X : Nat → Nat} (U : UB W N f0 s m j X) (hj : j' ≤ j) : UB W N f0 s m j' X := fun c F t hc hp => U c F t hc (pth_le hp hj)
theorem c_rounds (k : bOK β) {f0 : Nat} (hf : f0 < bw β * bh β) (C : bC b β h) (hb : b + 2 < 49) : ∀ e r X fl h1 fuel, r + e = 64 → e < fuel → qFr (fun a _ => a = 52) h h1 → hT 52 (bw β * bh β) X h1 → AF (bw β) (bw β * bh β) f0 (sS β) 128 X → UB (bw β) (bw β * bh β) f0 (sS β) 128 r X → (fl = false → ∀ p c, nb (bw β) (bw β * bh β) p c → X c ≤ X p + (128 * sS β c + 1)) → ∃ X' h2, qX7_spread_66 fuel 49 b (nI (bw β * bh β)) (bI fl) (nI r) h1 = some h2 ∧ qFr (fun a _ => a = 52) h h2 ∧ hT 52 (bw β * bh β) X' h2 ∧ FI (bw β) (bw β * bh β) f0 (sS β) 128 X' := by
  have hW := k.W
  have hH := k.H
  have hn := k.n
  have reach := rc_all (W := bw β) (N := bw β * bh β) (H := bh β) (f0 := f0) (s := sS β) hW.1 hW.2 hH.2 rfl (fun c hc => sS_le k hc) hf
  intro e
  induction e with
  | zero =>
    intro r X fl h1 fuel hr hfu F T A U J
    obtain ⟨g, rfl⟩ : ∃ g, fuel = g + 1 := ⟨fuel - 1, by omega⟩
    refine ⟨X, h1, ?_, F, T, FI_of hn.2 (by omega) reach A (UB_dn U (by omega))⟩
    unfold qX7_spread_66
    simp (disch := omega) only [↓reduceIte, ↓q_m1, ↓q_m2, k_o, k_0, k_1, k_2, k_3, k_4, k_5, k_6, k_7, k_8, k_9, k_10, k_11, k_16, k_17, k_19, k_20, k_24, k_26, k_27, k_30, k_32, k_33, k_35, k_40, k_43, k_48, k_50, k_57, k_60, k_64, k_81, k_86, k_34, k_66, k_322, k_97, k_99, k_100, k_122, k_128, k_160, k_161, k_255, k_256, k_512, k_580, k_600, k_1000, k_4096, k_far, k_o, nI_add, n_mul, n_sub, n_div, n_rem, n_lt, n_le, n_eq, n_cl, n_and, n_or, n_xor, m1_lt, lt_m1, m1_eq, eq_m1, le_m1, m1_le, m2_eq, up_eq, up_ne, n_shl, n_shr, b2_some, let_e, ob_some, bI_0, bI_a, bI_t, bI_f, if_true, if_false, ite_true, ite_false, true_and, and_true, false_and, and_false, true_or, or_true, false_or, or_false, not_true_eq_false, not_false_eq_true, ite_not, ne_eq, Bool.true_eq_false, Bool.false_eq_true, reduceCtorEq, decide_true, decide_false, Bool.and_true, Bool.and_false, Bool.true_and, Bool.false_and, Bool.or_true, Bool.or_false, Bool.not_true, Bool.not_false, Nat.add_zero, Nat.zero_add, eq_self, Nat.not_lt_zero, Nat.reduceAdd, Nat.reduceMul, Nat.reduceSub, Nat.reduceDiv, Nat.reduceMod, Nat.reduceAnd, Nat.reduceXor, Nat.reduceEqDiff, Nat.reducePow, lt_T, lt_F, le_T, le_F, eq_F]
  | succ e ih =>
    intro r X fl h1 fuel hr hfu F T A U J
    obtain ⟨g, rfl⟩ : ∃ g, fuel = g + 1 := ⟨fuel - 1, by omega⟩
    cases fl with
    | false =>
      refine ⟨X, h1, ?_, F, T, FI_of hn.2 (by omega) reach A (UB_fix (UB_dn U (Nat.zero_le _)) (J rfl) 63)⟩
      unfold qX7_spread_66
      simp (disch := omega) only [↓reduceIte, ↓q_m1, ↓q_m2, k_o, k_0, k_1, k_2, k_3, k_4, k_5, k_6, k_7, k_8, k_9, k_10, k_11, k_16, k_17, k_19, k_20, k_24, k_26, k_27, k_30, k_32, k_33, k_35, k_40, k_43, k_48, k_50, k_57, k_60, k_64, k_81, k_86, k_34, k_66, k_322, k_97, k_99, k_100, k_122, k_128, k_160, k_161, k_255, k_256, k_512, k_580, k_600, k_1000, k_4096, k_far, k_o, nI_add, n_mul, n_sub, n_div, n_rem, n_lt, n_le, n_eq, n_cl, n_and, n_or, n_xor, m1_lt, lt_m1, m1_eq, eq_m1, le_m1, m1_le, m2_eq, up_eq, up_ne, n_shl, n_shr, b2_some, let_e, ob_some, bI_0, bI_a, bI_t, bI_f, if_true, if_false, ite_true, ite_false, true_and, and_true, false_and, and_false, true_or, or_true, false_or, or_false, not_true_eq_false, not_false_eq_true, ite_not, ne_eq, Bool.true_eq_false, Bool.false_eq_true, reduceCtorEq, decide_true, decide_false, Bool.and_true, Bool.and_false, Bool.true_and, Bool.false_and, Bool.or_true, Bool.or_false, Bool.not_true, Bool.not_false, Nat.add_zero, Nat.zero_add, eq_self, Nat.not_lt_zero, Nat.reduceAdd, Nat.reduceMul, Nat.reduceSub, Nat.reduceDiv, Nat.reduceMod, Nat.reduceAnd, Nat.reduceXor, Nat.reduceEqDiff, Nat.reducePow, lt_T, lt_F, le_T, le_F, eq_F]
    | true =>
      obtain ⟨Y, fl', h2, e1, e2, e3, e4, e5⟩ := c_round k hf C hb (r := r) (X := X) (qX7_spread_66 g) (bw β * bh β) 0 X false h1 qm_N (by omega) (by unfold qm_N; omega) F T ⟨fun c _ => Nat.le_refl _, A, fun _ c _ => rfl, fun z => by cases z⟩ (fun p c _ hc => absurd hc (Nat.not_lt_zero c))
      obtain ⟨X', h3, p1, p2, p3, p4⟩ := ih (r + 1) Y fl' h2 g (by omega) (by omega) e2 e3 e4.2.1 (UB_s U e4.1 e5) (fun z p c hnb => by
        have := e5 p c hnb
        rw [e4.2.2.1 z p hnb.1]
        exact this)
      refine ⟨X', h3, ?_, p2, p3, p4⟩
      unfold qX7_spread_66
      simp (disch := omega) only [↓reduceIte, ↓q_m1, ↓q_m2, k_o, k_0, k_1, k_2, k_3, k_4, k_5, k_6, k_7, k_8, k_9, k_10, k_11, k_16, k_17, k_19, k_20, k_24, k_26, k_27, k_30, k_32, k_33, k_35, k_40, k_43, k_48, k_50, k_57, k_60, k_64, k_81, k_86, k_34, k_66, k_322, k_97, k_99, k_100, k_122, k_128, k_160, k_161, k_255, k_256, k_512, k_580, k_600, k_1000, k_4096, k_far, k_o, nI_add, n_mul, n_sub, n_div, n_rem, n_lt, n_le, n_eq, n_cl, n_and, n_or, n_xor, m1_lt, lt_m1, m1_eq, eq_m1, le_m1, m1_le, m2_eq, up_eq, up_ne, n_shl, n_shr, b2_some, let_e, ob_some, bI_0, bI_a, bI_t, bI_f, if_true, if_false, ite_true, ite_false, true_and, and_true, false_and, and_false, true_or, or_true, false_or, or_false, not_true_eq_false, not_false_eq_true, ite_not, ne_eq, Bool.true_eq_false, Bool.false_eq_true, reduceCtorEq, decide_true, decide_false, Bool.and_true, Bool.and_false, Bool.true_and, Bool.false_and, Bool.or_true, Bool.or_false, Bool.not_true, Bool.not_false, Nat.add_zero, Nat.zero_add, eq_self, Nat.not_lt_zero, Nat.reduceAdd, Nat.reduceMul, Nat.reduceSub, Nat.reduceDiv, Nat.reduceMod, Nat.reduceAnd, Nat.reduceXor, Nat.reduceEqDiff, Nat.reducePow, lt_T, lt_F, le_T, le_F, eq_F]
      rw [bI_f] at e1
      rw [e1]
      exact p1
theorem c_spread18 (k : bOK β) {f0 : Nat} (hf : f0 < bw β * bh β) (C : bC b β h) (hb : b + 2 < 49) : ∀ d i h1 fuel, i + d = bw β * bh β → d < fuel → qFr (fun a _ => a = 52) h h1 → (∀ c, c < i → h1.1 52 c = nI 1000000) → ∃ X' h2, qX7_spread_18 fuel 49 b (nI f0) (nI (bw β * bh β)) (nI i) h1 = some h2 ∧ qFr (fun a _ => a = 52) h h2 ∧ hT 52 (bw β * bh β) X' h2 ∧ FI (bw β) (bw β * bh β) f0 (sS β) 128 X' := by
  have hn := k.n
  intro d
  induction d with
  | zero =>
    intro i h1 fuel hi hfu F I
    obtain ⟨g, rfl⟩ : ∃ g, fuel = g + 1 := ⟨fuel - 1, by omega⟩
    have C1 : bC b β h1 := C.mv (fun a q _ _ => (F a q (by omega)).1) (F b 6 (by omega)).2
    have o := c_cost k C1 hf
    have hs := sS_le k hf
    obtain ⟨X', h2, e1, e2, e3, e4⟩ := c_rounds k hf C hb 64 0 (upN (fun _ => 1000000) f0 (128 * sS β f0 + 1)) true (qm_seti h1 52 f0 (nI (128 * sS β f0 + 1))) qm_N (by omega) (by unfold qm_N; omega) (F.trans (qFr.seti rfl)) (hT.up (fun c hc => ⟨I c (by omega), Nat.le_refl _⟩) (by omega)) (fun c hc => by
      by_cases z : c = f0
      · rw [z, upN_eq]
        exact ⟨by omega, Or.inr ⟨0, sS β f0, 1, ⟨rfl, rfl, rfl⟩, rfl⟩⟩
      · rw [upN_ne z]
        exact ⟨Nat.le_refl _, Or.inl rfl⟩) (UB_0 (by rw [upN_eq]; omega)) (fun z => by cases z)
    refine ⟨X', h2, ?_, e2, e3, e4⟩
    unfold qX7_spread_18
    simp (disch := omega) only [↓reduceIte, ↓q_m1, ↓q_m2, k_o, k_0, k_1, k_2, k_3, k_4, k_5, k_6, k_7, k_8, k_9, k_10, k_11, k_16, k_17, k_19, k_20, k_24, k_26, k_27, k_30, k_32, k_33, k_35, k_40, k_43, k_48, k_50, k_57, k_60, k_64, k_81, k_86, k_34, k_66, k_322, k_97, k_99, k_100, k_122, k_128, k_160, k_161, k_255, k_256, k_512, k_580, k_600, k_1000, k_4096, k_far, k_o, nI_add, n_mul, n_sub, n_div, n_rem, n_lt, n_le, n_eq, n_cl, n_and, n_or, n_xor, m1_lt, lt_m1, m1_eq, eq_m1, le_m1, m1_le, m2_eq, up_eq, up_ne, n_shl, n_shr, b2_some, let_e, ob_some, bI_0, bI_a, bI_t, bI_f, if_true, if_false, ite_true, ite_false, true_and, and_true, false_and, and_false, true_or, or_true, false_or, or_false, not_true_eq_false, not_false_eq_true, ite_not, ne_eq, Bool.true_eq_false, Bool.false_eq_true, reduceCtorEq, decide_true, decide_false, Bool.and_true, Bool.and_false, Bool.true_and, Bool.false_and, Bool.or_true, Bool.or_false, Bool.not_true, Bool.not_false, Nat.add_zero, Nat.zero_add, eq_self, Nat.not_lt_zero, Nat.reduceAdd, Nat.reduceMul, Nat.reduceSub, Nat.reduceDiv, Nat.reduceMod, Nat.reduceAnd, Nat.reduceXor, Nat.reduceEqDiff, Nat.reducePow, lt_T, lt_F, le_T, le_F, eq_F, o]
    exact e1
  | succ d ih =>
    intro i h1 fuel hi hfu F I
    obtain ⟨g, rfl⟩ : ∃ g, fuel = g + 1 := ⟨fuel - 1, by omega⟩
    obtain ⟨X', h2, e1, e2, e3, e4⟩ := ih (i + 1) (qm_seti h1 52 i (nI 1000000)) g (by omega) (by omega) (F.trans (qFr.seti rfl)) (fun c hc => by
      by_cases z : c = i
      · rw [z, sI_eq]
      · rw [sI_ne (by omega)]
        exact I c (by omega))
    refine ⟨X', h2, ?_, e2, e3, e4⟩
    unfold qX7_spread_18
    simp (disch := omega) only [↓reduceIte, ↓q_m1, ↓q_m2, k_o, k_0, k_1, k_2, k_3, k_4, k_5, k_6, k_7, k_8, k_9, k_10, k_11, k_16, k_17, k_19, k_20, k_24, k_26, k_27, k_30, k_32, k_33, k_35, k_40, k_43, k_48, k_50, k_57, k_60, k_64, k_81, k_86, k_34, k_66, k_322, k_97, k_99, k_100, k_122, k_128, k_160, k_161, k_255, k_256, k_512, k_580, k_600, k_1000, k_4096, k_far, k_o, nI_add, n_mul, n_sub, n_div, n_rem, n_lt, n_le, n_eq, n_cl, n_and, n_or, n_xor, m1_lt, lt_m1, m1_eq, eq_m1, le_m1, m1_le, m2_eq, up_eq, up_ne, n_shl, n_shr, b2_some, let_e, ob_some, bI_0, bI_a, bI_t, bI_f, if_true, if_false, ite_true, ite_false, true_and, and_true, false_and, and_false, true_or, or_true, false_or, or_false, not_true_eq_false, not_false_eq_true, ite_not, ne_eq, Bool.true_eq_false, Bool.false_eq_true, reduceCtorEq, decide_true, decide_false, Bool.and_true, Bool.and_false, Bool.true_and, Bool.false_and, Bool.or_true, Bool.or_false, Bool.not_true, Bool.not_false, Nat.add_zero, Nat.zero_add, eq_self, Nat.not_lt_zero, Nat.reduceAdd, Nat.reduceMul, Nat.reduceSub, Nat.reduceDiv, Nat.reduceMod, Nat.reduceAnd, Nat.reduceXor, Nat.reduceEqDiff, Nat.reducePow, lt_T, lt_F, le_T, le_F, eq_F]
    exact e1
theorem c_spread (k : bOK β) {f0 : Nat} (hf : f0 < bw β * bh β) (C : bC b β h) (hb : b + 2 < 49) : ∃ X' h2, qX7_spread 49 b (nI f0) h = some h2 ∧ qFr (fun a _ => a = 52) h h2 ∧ hT 52 (bw β * bh β) X' h2 ∧ FI (bw β) (bw β * bh β) f0 (sS β) 128 X' := by
  have hn := k.n
  obtain ⟨X', h2, e1, e2⟩ := c_spread18 k hf C hb (bw β * bh β) 0 h qm_N (by omega) (by unfold qm_N; omega) (qFr.refl _ _) (fun c hc => absurd hc (Nat.not_lt_zero c))
  refine ⟨X', h2, ?_, e2⟩
  unfold qX7_spread
  simp (disch := omega) only [↓reduceIte, ↓q_m1, ↓q_m2, k_o, k_0, k_1, k_2, k_3, k_4, k_5, k_6, k_7, k_8, k_9, k_10, k_11, k_16, k_17, k_19, k_20, k_24, k_26, k_27, k_30, k_32, k_33, k_35, k_40, k_43, k_48, k_50, k_57, k_60, k_64, k_81, k_86, k_34, k_66, k_322, k_97, k_99, k_100, k_122, k_128, k_160, k_161, k_255, k_256, k_512, k_580, k_600, k_1000, k_4096, k_far, k_o, nI_add, n_mul, n_sub, n_div, n_rem, n_lt, n_le, n_eq, n_cl, n_and, n_or, n_xor, m1_lt, lt_m1, m1_eq, eq_m1, le_m1, m1_le, m2_eq, up_eq, up_ne, n_shl, n_shr, b2_some, let_e, ob_some, bI_0, bI_a, bI_t, bI_f, if_true, if_false, ite_true, ite_false, true_and, and_true, false_and, and_false, true_or, or_true, false_or, or_false, not_true_eq_false, not_false_eq_true, ite_not, ne_eq, Bool.true_eq_false, Bool.false_eq_true, reduceCtorEq, decide_true, decide_false, Bool.and_true, Bool.and_false, Bool.true_and, Bool.false_and, Bool.or_true, Bool.or_false, Bool.not_true, Bool.not_false, Nat.add_zero, Nat.zero_add, eq_self, Nat.not_lt_zero, Nat.reduceAdd, Nat.reduceMul, Nat.reduceSub, Nat.reduceDiv, Nat.reduceMod, Nat.reduceAnd, Nat.reduceXor, Nat.reduceEqDiff, Nat.reducePow, lt_T, lt_F, le_T, le_F, eq_F, C.1, C.2.1, j_minn]
  rw [show min (bw β * bh β) 64 = bw β * bh β by omega]
  exact e1
end EC
