/-! text: the TOKENS, pure: B the tape's bytes (0 .. 255), n how many; the class's. -/
/-- on from p as long as bytes are of kind k -/
def tSk (B : Nat → Nat) (n k : Nat) : Nat → Nat → Nat
  | 0, p => p
  | f + 1, p => if p < n ∧ kdB (B p) = k then tSk B n k f (p + 1) else p
theorem tSk_stay {B : Nat → Nat} {n k f p : Nat} (h : ¬ (p < n ∧ kdB (B p) = k)) : tSk B n k f p = p := by
  cases f with
  | zero => rfl
  | succ f => exact if_neg h
theorem tSk_step {B : Nat → Nat} {n k p : Nat} (h1 : p < n) (h2 : kdB (B p) = k) : tSk B n k (n - p) p = tSk B n k (n - (p + 1)) (p + 1) := by
  rw [show n - p = (n - (p + 1)) + 1 by omega]
  exact if_pos ⟨h1, h2⟩
theorem tSk_ge (B : Nat → Nat) (n k : Nat) : ∀ f p, p ≤ tSk B n k f p := by
  intro f
  induction f with
  | zero => intro p; exact Nat.le_refl _
  | succ f ih =>
    intro p
    by_cases q : p < n ∧ kdB (B p) = k
    · rw [show tSk B n k (f + 1) p = tSk B n k f (p + 1) from if_pos q]
      have := ih (p + 1)
      omega
    · rw [tSk_stay q]
      exact Nat.le_refl _
theorem tSk_le (B : Nat → Nat) (n k : Nat) : ∀ f p, p ≤ n → tSk B n k f p ≤ n := by
  intro f
  induction f with
  | zero => intro p hp; exact hp
  | succ f ih =>
    intro p hp
    by_cases q : p < n ∧ kdB (B p) = k
    · rw [show tSk B n k (f + 1) p = tSk B n k f (p + 1) from if_pos q]
      exact ih (p + 1) q.1
    · rw [tSk_stay q]
      exact hp
theorem tSk_all (B : Nat → Nat) (n k : Nat) : ∀ f p j, p ≤ j → j < tSk B n k f p → kdB (B j) = k := by
  intro f
  induction f with
  | zero =>
    intro p j h1 h2
    have : tSk B n k 0 p = p := rfl
    omega
  | succ f ih =>
    intro p j h1 h2
    by_cases q : p < n ∧ kdB (B p) = k
    · rw [show tSk B n k (f + 1) p = tSk B n k f (p + 1) from if_pos q] at h2
      by_cases z : j = p
      · rw [z]; exact q.2
      · exact ih (p + 1) j (by omega) h2
    · rw [tSk_stay q] at h2
      omega
theorem tSk_end (B : Nat → Nat) (n k : Nat) : ∀ f p, n - p ≤ f → ¬ (tSk B n k f p < n ∧ kdB (B (tSk B n k f p)) = k) := by
  intro f
  induction f with
  | zero =>
    intro p h1 h2
    have : tSk B n k 0 p = p := rfl
    omega
  | succ f ih =>
    intro p h1
    by_cases q : p < n ∧ kdB (B p) = k
    · rw [show tSk B n k (f + 1) p = tSk B n k f (p + 1) from if_pos q]
      exact ih (p + 1) (by omega)
    · rw [tSk_stay q]
      exact q
theorem kdB_r (c : Nat) : 1 ≤ kdB c ∧ kdB c ≤ 5 := by
  unfold kdB
  repeat' split
  all_goals omega
theorem kdB_1 {c : Nat} : kdB c = 1 ↔ 97 ≤ c ∧ c ≤ 122 := by
  unfold kdB
  repeat' split
  all_goals omega
theorem kdB_2 {c : Nat} : kdB c = 2 ↔ 48 ≤ c ∧ c ≤ 57 := by
  unfold kdB
  repeat' split
  all_goals omega
theorem kdB_3 {c : Nat} : kdB c = 3 ↔ c = 59 := by
  unfold kdB
  repeat' split
  all_goals omega
theorem kdB_4 {c : Nat} : kdB c = 4 ↔ c = 10 ∨ c = 32 := by
  unfold kdB
  repeat' split
  all_goals omega
/-- a TOKEN looked for from p on: its first byte's place, that byte's kind, the end, the kind, the number -/
def tS (B : Nat → Nat) (n p : Nat) : Nat := tSk B n 4 (n - p) p
def tA (B : Nat → Nat) (n p : Nat) : Nat := if tS B n p < n then kdB (B (tS B n p)) else 0
def tE (B : Nat → Nat) (n p : Nat) : Nat := if tA B n p = 0 then tS B n p else if tA B n p = 1 ∨ tA B n p = 2 then tSk B n (tA B n p) (n - (tS B n p + 1)) (tS B n p + 1) else tS B n p + 1
def tK (B : Nat → Nat) (n p : Nat) : Nat := if tA B n p = 2 ∧ 2 < tE B n p - tS B n p then 5 else tA B n p
def tV (B : Nat → Nat) (n p : Nat) : Nat := if tE B n p - tS B n p = 1 then B (tS B n p) - 48 else 10 * (B (tS B n p) - 48) + (B (tS B n p + 1) - 48)
theorem t_S (B : Nat → Nat) {n p : Nat} (hp : p ≤ n) : p ≤ tS B n p ∧ tS B n p ≤ n := ⟨tSk_ge .., tSk_le _ _ _ _ _ hp⟩
theorem t_A (B : Nat → Nat) (n p : Nat) : (tA B n p = 0 ∧ n ≤ tS B n p) ∨ (tS B n p < n ∧ tA B n p = kdB (B (tS B n p)) ∧ 1 ≤ tA B n p ∧ tA B n p ≤ 5 ∧ tA B n p ≠ 4) := by
  have z := tSk_end B n 4 (n - p) p (Nat.le_refl _)
  have r := kdB_r (B (tS B n p))
  unfold tA
  by_cases q : tS B n p < n
  · rw [if_pos q]
    have : kdB (B (tS B n p)) ≠ 4 := fun y => z ⟨q, y⟩
    exact Or.inr ⟨q, rfl, r.1, r.2, this⟩
  · rw [if_neg q]
    exact Or.inl ⟨rfl, by omega⟩
theorem t_E (B : Nat → Nat) {n p : Nat} (hp : p ≤ n) : tE B n p ≤ n ∧ tS B n p ≤ tE B n p ∧ (tA B n p ≠ 0 → tS B n p < tE B n p) := by
  have s := t_S B hp
  unfold tE
  rcases t_A B n p with ⟨a, b⟩ | ⟨a, b, c, d, e⟩
  · rw [if_pos a]
    omega
  · rw [if_neg (by omega)]
    have g := tSk_ge B n (tA B n p) (n - (tS B n p + 1)) (tS B n p + 1)
    have l := tSk_le B n (tA B n p) (n - (tS B n p + 1)) (tS B n p + 1) (by omega)
    split
    · omega
    · omega
theorem t_K (B : Nat → Nat) (n p : Nat) : tK B n p ≤ 5 ∧ tK B n p ≠ 4 ∧ (tK B n p = 0 ↔ tA B n p = 0) ∧ (tK B n p = 1 ↔ tA B n p = 1) := by
  unfold tK
  rcases t_A B n p with ⟨a, b⟩ | ⟨a, b, c, d, e⟩
  · split <;> omega
  · split <;> omega
/-- the bytes of a word, of a number -/
theorem t_row (B : Nat → Nat) {n p : Nat} (h : tA B n p = 1 ∨ tA B n p = 2) : ∀ j, tS B n p ≤ j → j < tE B n p → kdB (B j) = tA B n p := by
  intro j h1 h2
  unfold tE at h2
  rw [if_neg (by omega), if_pos h] at h2
  rcases t_A B n p with ⟨a, b⟩ | ⟨a, b, c, d, e⟩
  · omega
  · by_cases z : j = tS B n p
    · rw [z]; exact b.symm
    · exact tSk_all _ _ _ _ _ j (by omega) h2
/-- a byte as the tape holds it -/
def ytB (y : Int32) (c : Nat) : Prop := (c < 128 ∧ y = nI c) ∨ (128 ≤ c ∧ c < 256 ∧ y < 0 ∧ y &&& nI 255 = nI c)
theorem ytB_neg : ∀ k : Fin 128, Int32.ofInt (Int.negSucc k.val) &&& nI 255 = nI (255 - k.val) := by decide +kernel
theorem ytB_and : ∀ k : Fin 128, nI k.val &&& nI 255 = nI k.val := by decide +kernel
theorem ytB_ex {y : Int32} (h : fits .byte (.int y) = true) : ∃ c, ytB y c := by
  have h' : (decide ((-128 : Int32) ≤ y) && decide (y ≤ 127)) = true := h
  rw [Bool.and_eq_true] at h'
  have h1 := Int32.le_iff_toInt_le.mp (of_decide_eq_true h'.1)
  have h2 := Int32.le_iff_toInt_le.mp (of_decide_eq_true h'.2)
  have e1 : (-128 : Int32).toInt = -128 := rfl
  have e2 : (127 : Int32).toInt = 127 := rfl
  rcases i_cases y with hy | ⟨c, hc, rfl⟩
  · have hy' := Int32.lt_iff_toInt_lt.mp hy
    have e0 : (0 : Int32).toInt = 0 := rfl
    obtain ⟨k, hk⟩ : ∃ k : Nat, y.toInt = Int.negSucc k := ⟨(-y.toInt - 1).toNat, by rw [Int.negSucc_eq]; omega⟩
    have hk8 : k < 128 := by rw [Int.negSucc_eq] at hk; omega
    have hyk : y = Int32.ofInt (Int.negSucc k) := by rw [← hk, Int32.ofInt_toInt]
    refine ⟨255 - k, Or.inr ⟨by omega, by omega, hy, ?_⟩⟩
    have := ytB_neg ⟨k, hk8⟩
    rw [hyk]
    exact this
  · rw [nI_toInt hc] at h2
    exact ⟨c, Or.inl ⟨by omega, rfl⟩⟩
theorem ytB_and' {y : Int32} {c : Nat} (h : ytB y c) : y &&& nI 255 = nI c := by
  rcases h with ⟨h1, h2⟩ | ⟨_, _, _, h⟩
  · rw [h2]
    exact ytB_and ⟨c, h1⟩
  · exact h
theorem ytB_lt {y : Int32} {c : Nat} (h : ytB y c) : c < 256 := by
  rcases h with ⟨h1, h2⟩ | ⟨_, h, _, _⟩
  · omega
  · exact h
theorem ytB_s {y : Int32} {c : Nat} (h : ytB y c) (hc : c < 128) : y = nI c := by
  rcases h with ⟨h1, h2⟩ | ⟨h, _, _, _⟩
  · exact h2
  · omega
def tpC (B : Nat → Nat) (n : Nat) (h : qm_H) : Prop := n ≤ 600 ∧ h.1 43 1 = nI n ∧ ∀ j, j < n → ytB (h.1 2 j) (B j)
theorem tpC.mv {B : Nat → Nat} {n : Nat} {h h' : qm_H} (T : tpC B n h) (e1 : h'.1 43 1 = h.1 43 1) (e2 : ∀ j, h'.1 2 j = h.1 2 j) : tpC B n h' := ⟨T.1, e1.trans T.2.1, fun j hj => by rw [e2]; exact T.2.2 j hj⟩
theorem c_kd {B : Nat → Nat} {n p : Nat} {h : qm_H} (T : tpC B n h) (hp : p ≤ n) : qX8_kindAt 43 (nI p) h = some (nI (if p < n then kdB (B p) else 0), h) := by
  have hn := T.1
  have e1 := T.2.1
  by_cases q : p < n
  · rw [if_pos q]
    rcases T.2.2 p q with ⟨q1, q2⟩ | ⟨q1, q2, hy, q4⟩
    · exact c_kindAt hn e1 q (by omega) q2
    · have kv : kdB (B p) = 5 := by
        unfold kdB
        rw [if_neg (by omega), if_neg (by omega), if_neg (by omega), if_neg (by omega)]
      rw [kv]
      unfold qX8_kindAt qX8_kindAt_49
      rw [show (59 : Int32) = nI 59 from rfl]
      simp (disch := omega) only [↓reduceIte, ↓q_m1, ↓q_m2, k_o, k_0, k_1, k_2, k_3, k_4, k_5, k_6, k_7, k_8, k_9, k_10, k_11, k_16, k_17, k_19, k_20, k_24, k_26, k_27, k_30, k_32, k_33, k_35, k_40, k_43, k_48, k_50, k_57, k_60, k_64, k_81, k_86, k_34, k_66, k_322, k_97, k_99, k_100, k_122, k_128, k_160, k_161, k_255, k_256, k_512, k_580, k_600, k_1000, k_4096, k_far, k_o, nI_add, n_mul, n_sub, n_div, n_rem, n_lt, n_le, n_eq, n_cl, n_and, n_or, n_xor, m1_lt, lt_m1, m1_eq, eq_m1, le_m1, m1_le, m2_eq, up_eq, up_ne, n_shl, n_shr, b2_some, let_e, ob_some, bI_0, bI_a, bI_t, bI_f, if_true, if_false, ite_true, ite_false, true_and, and_true, false_and, and_false, true_or, or_true, false_or, or_false, not_true_eq_false, not_false_eq_true, ite_not, ne_eq, Bool.true_eq_false, Bool.false_eq_true, reduceCtorEq, decide_true, decide_false, Bool.and_true, Bool.and_false, Bool.true_and, Bool.false_and, Bool.or_true, Bool.or_false, Bool.not_true, Bool.not_false, Nat.add_zero, Nat.zero_add, eq_self, Nat.not_lt_zero, Nat.reduceAdd, Nat.reduceMul, Nat.reduceSub, Nat.reduceDiv, Nat.reduceMod, Nat.reduceAnd, Nat.reduceXor, Nat.reduceEqDiff, Nat.reducePow, lt_T, lt_F, le_T, le_F, eq_F, e1, ng_lt hy, ng_eq hy]
  · rw [if_neg q]
    unfold qX8_kindAt
    simp (disch := omega) only [↓reduceIte, ↓q_m1, ↓q_m2, k_o, k_0, k_1, k_2, k_3, k_4, k_5, k_6, k_7, k_8, k_9, k_10, k_11, k_16, k_17, k_19, k_20, k_24, k_26, k_27, k_30, k_32, k_33, k_35, k_40, k_43, k_48, k_50, k_57, k_60, k_64, k_81, k_86, k_34, k_66, k_322, k_97, k_99, k_100, k_122, k_128, k_160, k_161, k_255, k_256, k_512, k_580, k_600, k_1000, k_4096, k_far, k_o, nI_add, n_mul, n_sub, n_div, n_rem, n_lt, n_le, n_eq, n_cl, n_and, n_or, n_xor, m1_lt, lt_m1, m1_eq, eq_m1, le_m1, m1_le, m2_eq, up_eq, up_ne, n_shl, n_shr, b2_some, let_e, ob_some, bI_0, bI_a, bI_t, bI_f, if_true, if_false, ite_true, ite_false, true_and, and_true, false_and, and_false, true_or, or_true, false_or, or_false, not_true_eq_false, not_false_eq_true, ite_not, ne_eq, Bool.true_eq_false, Bool.false_eq_true, reduceCtorEq, decide_true, decide_false, Bool.and_true, Bool.and_false, Bool.true_and, Bool.false_and, Bool.or_true, Bool.or_false, Bool.not_true, Bool.not_false, Nat.add_zero, Nat.zero_add, eq_self, Nat.not_lt_zero, Nat.reduceAdd, Nat.reduceMul, Nat.reduceSub, Nat.reduceDiv, Nat.reduceMod, Nat.reduceAnd, Nat.reduceXor, Nat.reduceEqDiff, Nat.reducePow, lt_T, lt_F, le_T, le_F, eq_F, e1]
/-- blanks are passed over -/
theorem c_adv0 {B : Nat → Nat} {n : Nat} : ∀ d b h fuel, n - b = d → d < fuel → b ≤ n → tpC B n h → h.1 43 4 = nI b → ∃ h1, qX8_advance_0 fuel 43 h = qX8_advance_36 43 h1 ∧ tpC B n h1 ∧ h1.1 43 4 = nI (tSk B n 4 (n - b) b) ∧ qFr (fun a k => a = 43 ∧ k = 4) h h1 := by
  intro d
  induction d with
  | zero =>
    intro b h fuel hd hf hb T e4
    obtain ⟨g, rfl⟩ : ∃ g, fuel = g + 1 := ⟨fuel - 1, by omega⟩
    have e1 := T.2.1
    have hn := T.1
    refine ⟨h, ?_, T, ?_, qFr.refl _ _⟩
    · unfold qX8_advance_0
      simp (disch := omega) only [↓reduceIte, ↓q_m1, ↓q_m2, k_o, k_0, k_1, k_2, k_3, k_4, k_5, k_6, k_7, k_8, k_9, k_10, k_11, k_16, k_17, k_19, k_20, k_24, k_26, k_27, k_30, k_32, k_33, k_35, k_40, k_43, k_48, k_50, k_57, k_60, k_64, k_81, k_86, k_34, k_66, k_322, k_97, k_99, k_100, k_122, k_128, k_160, k_161, k_255, k_256, k_512, k_580, k_600, k_1000, k_4096, k_far, k_o, nI_add, n_mul, n_sub, n_div, n_rem, n_lt, n_le, n_eq, n_cl, n_and, n_or, n_xor, m1_lt, lt_m1, m1_eq, eq_m1, le_m1, m1_le, m2_eq, up_eq, up_ne, n_shl, n_shr, b2_some, let_e, ob_some, bI_0, bI_a, bI_t, bI_f, if_true, if_false, ite_true, ite_false, true_and, and_true, false_and, and_false, true_or, or_true, false_or, or_false, not_true_eq_false, not_false_eq_true, ite_not, ne_eq, Bool.true_eq_false, Bool.false_eq_true, reduceCtorEq, decide_true, decide_false, Bool.and_true, Bool.and_false, Bool.true_and, Bool.false_and, Bool.or_true, Bool.or_false, Bool.not_true, Bool.not_false, Nat.add_zero, Nat.zero_add, eq_self, Nat.not_lt_zero, Nat.reduceAdd, Nat.reduceMul, Nat.reduceSub, Nat.reduceDiv, Nat.reduceMod, Nat.reduceAnd, Nat.reduceXor, Nat.reduceEqDiff, Nat.reducePow, lt_T, lt_F, le_T, le_F, eq_F, e1, e4]
    · rw [tSk_stay (by omega)]
      exact e4
  | succ d ih =>
    intro b h fuel hd hf hb T e4
    obtain ⟨g, rfl⟩ : ∃ g, fuel = g + 1 := ⟨fuel - 1, by omega⟩
    have e1 := T.2.1
    have hn := T.1
    have ck := c_kd T hb
    rw [if_pos (show b < n by omega)] at ck
    have kb := kdB_r (B b)
    by_cases q : kdB (B b) = 4
    · rw [q] at ck
      obtain ⟨h1, a1, a2, a3, a4⟩ := ih (b + 1) (qm_seti h 43 4 (nI (b + 1))) g (by omega) (by omega) (by omega) (T.mv (sI_ne (by omega)) (fun j => sI_ne (by omega))) (sI_eq _ _ _ _)
      refine ⟨h1, ?_, a2, ?_, (qFr.seti ⟨rfl, rfl⟩).trans a4⟩
      · unfold qX8_advance_0
        simp (disch := omega) only [↓reduceIte, ↓q_m1, ↓q_m2, k_o, k_0, k_1, k_2, k_3, k_4, k_5, k_6, k_7, k_8, k_9, k_10, k_11, k_16, k_17, k_19, k_20, k_24, k_26, k_27, k_30, k_32, k_33, k_35, k_40, k_43, k_48, k_50, k_57, k_60, k_64, k_81, k_86, k_34, k_66, k_322, k_97, k_99, k_100, k_122, k_128, k_160, k_161, k_255, k_256, k_512, k_580, k_600, k_1000, k_4096, k_far, k_o, nI_add, n_mul, n_sub, n_div, n_rem, n_lt, n_le, n_eq, n_cl, n_and, n_or, n_xor, m1_lt, lt_m1, m1_eq, eq_m1, le_m1, m1_le, m2_eq, up_eq, up_ne, n_shl, n_shr, b2_some, let_e, ob_some, bI_0, bI_a, bI_t, bI_f, if_true, if_false, ite_true, ite_false, true_and, and_true, false_and, and_false, true_or, or_true, false_or, or_false, not_true_eq_false, not_false_eq_true, ite_not, ne_eq, Bool.true_eq_false, Bool.false_eq_true, reduceCtorEq, decide_true, decide_false, Bool.and_true, Bool.and_false, Bool.true_and, Bool.false_and, Bool.or_true, Bool.or_false, Bool.not_true, Bool.not_false, Nat.add_zero, Nat.zero_add, eq_self, Nat.not_lt_zero, Nat.reduceAdd, Nat.reduceMul, Nat.reduceSub, Nat.reduceDiv, Nat.reduceMod, Nat.reduceAnd, Nat.reduceXor, Nat.reduceEqDiff, Nat.reducePow, lt_T, lt_F, le_T, le_F, eq_F, e1, e4, ck]
        exact a1
      · rw [tSk_step (by omega) q]
        exact a3
    · refine ⟨h, ?_, T, ?_, qFr.refl _ _⟩
      · unfold qX8_advance_0
        simp (disch := omega) only [↓reduceIte, ↓q_m1, ↓q_m2, k_o, k_0, k_1, k_2, k_3, k_4, k_5, k_6, k_7, k_8, k_9, k_10, k_11, k_16, k_17, k_19, k_20, k_24, k_26, k_27, k_30, k_32, k_33, k_35, k_40, k_43, k_48, k_50, k_57, k_60, k_64, k_81, k_86, k_34, k_66, k_322, k_97, k_99, k_100, k_122, k_128, k_160, k_161, k_255, k_256, k_512, k_580, k_600, k_1000, k_4096, k_far, k_o, nI_add, n_mul, n_sub, n_div, n_rem, n_lt, n_le, n_eq, n_cl, n_and, n_or, n_xor, m1_lt, lt_m1, m1_eq, eq_m1, le_m1, m1_le, m2_eq, up_eq, up_ne, n_shl, n_shr, b2_some, let_e, ob_some, bI_0, bI_a, bI_t, bI_f, if_true, if_false, ite_true, ite_false, true_and, and_true, false_and, and_false, true_or, or_true, false_or, or_false, not_true_eq_false, not_false_eq_true, ite_not, ne_eq, Bool.true_eq_false, Bool.false_eq_true, reduceCtorEq, decide_true, decide_false, Bool.and_true, Bool.and_false, Bool.true_and, Bool.false_and, Bool.or_true, Bool.or_false, Bool.not_true, Bool.not_false, Nat.add_zero, Nat.zero_add, eq_self, Nat.not_lt_zero, Nat.reduceAdd, Nat.reduceMul, Nat.reduceSub, Nat.reduceDiv, Nat.reduceMod, Nat.reduceAnd, Nat.reduceXor, Nat.reduceEqDiff, Nat.reducePow, lt_T, lt_F, le_T, le_F, eq_F, e1, e4, ck]
      · rw [tSk_stay (fun z => q z.2)]
        exact e4
/-- a row of letters, of digits -/
theorem c_adv95 {B : Nat → Nat} {n k : Nat} (hk : k = 1 ∨ k = 2) : ∀ d b h fuel, n - b = d → d < fuel → b ≤ n → tpC B n h → h.1 43 4 = nI b → h.1 43 2 = nI k → ∃ h1, qX8_advance_95 fuel 43 (nI 1) h = qX8_advance_138 43 h1 ∧ h1.1 43 4 = nI (tSk B n k (n - b) b) ∧ qFr (fun a k => a = 43 ∧ k = 4) h h1 := by
  intro d
  induction d with
  | zero =>
    intro b h fuel hd hf hb T e4 e2
    obtain ⟨g, rfl⟩ : ∃ g, fuel = g + 1 := ⟨fuel - 1, by omega⟩
    have e1 := T.2.1
    have hn := T.1
    refine ⟨h, ?_, ?_, qFr.refl _ _⟩
    · unfold qX8_advance_95
      simp (disch := omega) only [↓reduceIte, ↓q_m1, ↓q_m2, k_o, k_0, k_1, k_2, k_3, k_4, k_5, k_6, k_7, k_8, k_9, k_10, k_11, k_16, k_17, k_19, k_20, k_24, k_26, k_27, k_30, k_32, k_33, k_35, k_40, k_43, k_48, k_50, k_57, k_60, k_64, k_81, k_86, k_34, k_66, k_322, k_97, k_99, k_100, k_122, k_128, k_160, k_161, k_255, k_256, k_512, k_580, k_600, k_1000, k_4096, k_far, k_o, nI_add, n_mul, n_sub, n_div, n_rem, n_lt, n_le, n_eq, n_cl, n_and, n_or, n_xor, m1_lt, lt_m1, m1_eq, eq_m1, le_m1, m1_le, m2_eq, up_eq, up_ne, n_shl, n_shr, b2_some, let_e, ob_some, bI_0, bI_a, bI_t, bI_f, if_true, if_false, ite_true, ite_false, true_and, and_true, false_and, and_false, true_or, or_true, false_or, or_false, not_true_eq_false, not_false_eq_true, ite_not, ne_eq, Bool.true_eq_false, Bool.false_eq_true, reduceCtorEq, decide_true, decide_false, Bool.and_true, Bool.and_false, Bool.true_and, Bool.false_and, Bool.or_true, Bool.or_false, Bool.not_true, Bool.not_false, Nat.add_zero, Nat.zero_add, eq_self, Nat.not_lt_zero, Nat.reduceAdd, Nat.reduceMul, Nat.reduceSub, Nat.reduceDiv, Nat.reduceMod, Nat.reduceAnd, Nat.reduceXor, Nat.reduceEqDiff, Nat.reducePow, lt_T, lt_F, le_T, le_F, eq_F, e1, e4]
    · rw [tSk_stay (by omega)]
      exact e4
  | succ d ih =>
    intro b h fuel hd hf hb T e4 e2
    obtain ⟨g, rfl⟩ : ∃ g, fuel = g + 1 := ⟨fuel - 1, by omega⟩
    have e1 := T.2.1
    have hn := T.1
    have ck := c_kd T hb
    rw [if_pos (show b < n by omega)] at ck
    have kb := kdB_r (B b)
    by_cases q : kdB (B b) = k
    · rw [q] at ck
      obtain ⟨h1, a1, a3, a4⟩ := ih (b + 1) (qm_seti h 43 4 (nI (b + 1))) g (by omega) (by omega) (by omega) (T.mv (sI_ne (by omega)) (fun j => sI_ne (by omega))) (sI_eq _ _ _ _) (by rw [sI_ne (by omega)]; exact e2)
      refine ⟨h1, ?_, ?_, (qFr.seti ⟨rfl, rfl⟩).trans a4⟩
      · unfold qX8_advance_95
        simp (disch := omega) only [↓reduceIte, ↓q_m1, ↓q_m2, k_o, k_0, k_1, k_2, k_3, k_4, k_5, k_6, k_7, k_8, k_9, k_10, k_11, k_16, k_17, k_19, k_20, k_24, k_26, k_27, k_30, k_32, k_33, k_35, k_40, k_43, k_48, k_50, k_57, k_60, k_64, k_81, k_86, k_34, k_66, k_322, k_97, k_99, k_100, k_122, k_128, k_160, k_161, k_255, k_256, k_512, k_580, k_600, k_1000, k_4096, k_far, k_o, nI_add, n_mul, n_sub, n_div, n_rem, n_lt, n_le, n_eq, n_cl, n_and, n_or, n_xor, m1_lt, lt_m1, m1_eq, eq_m1, le_m1, m1_le, m2_eq, up_eq, up_ne, n_shl, n_shr, b2_some, let_e, ob_some, bI_0, bI_a, bI_t, bI_f, if_true, if_false, ite_true, ite_false, true_and, and_true, false_and, and_false, true_or, or_true, false_or, or_false, not_true_eq_false, not_false_eq_true, ite_not, ne_eq, Bool.true_eq_false, Bool.false_eq_true, reduceCtorEq, decide_true, decide_false, Bool.and_true, Bool.and_false, Bool.true_and, Bool.false_and, Bool.or_true, Bool.or_false, Bool.not_true, Bool.not_false, Nat.add_zero, Nat.zero_add, eq_self, Nat.not_lt_zero, Nat.reduceAdd, Nat.reduceMul, Nat.reduceSub, Nat.reduceDiv, Nat.reduceMod, Nat.reduceAnd, Nat.reduceXor, Nat.reduceEqDiff, Nat.reducePow, lt_T, lt_F, le_T, le_F, eq_F, e1, e4, e2, ck]
        exact a1
      · rw [tSk_step (by omega) q]
        exact a3
    · refine ⟨h, ?_, ?_, qFr.refl _ _⟩
      · unfold qX8_advance_95
        simp (disch := omega) only [↓reduceIte, ↓q_m1, ↓q_m2, k_o, k_0, k_1, k_2, k_3, k_4, k_5, k_6, k_7, k_8, k_9, k_10, k_11, k_16, k_17, k_19, k_20, k_24, k_26, k_27, k_30, k_32, k_33, k_35, k_40, k_43, k_48, k_50, k_57, k_60, k_64, k_81, k_86, k_34, k_66, k_322, k_97, k_99, k_100, k_122, k_128, k_160, k_161, k_255, k_256, k_512, k_580, k_600, k_1000, k_4096, k_far, k_o, nI_add, n_mul, n_sub, n_div, n_rem, n_lt, n_le, n_eq, n_cl, n_and, n_or, n_xor, m1_lt, lt_m1, m1_eq, eq_m1, le_m1, m1_le, m2_eq, up_eq, up_ne, n_shl, n_shr, b2_some, let_e, ob_some, bI_0, bI_a, bI_t, bI_f, if_true, if_false, ite_true, ite_false, true_and, and_true, false_and, and_false, true_or, or_true, false_or, or_false, not_true_eq_false, not_false_eq_true, ite_not, ne_eq, Bool.true_eq_false, Bool.false_eq_true, reduceCtorEq, decide_true, decide_false, Bool.and_true, Bool.and_false, Bool.true_and, Bool.false_and, Bool.or_true, Bool.or_false, Bool.not_true, Bool.not_false, Nat.add_zero, Nat.zero_add, eq_self, Nat.not_lt_zero, Nat.reduceAdd, Nat.reduceMul, Nat.reduceSub, Nat.reduceDiv, Nat.reduceMod, Nat.reduceAnd, Nat.reduceXor, Nat.reduceEqDiff, Nat.reducePow, lt_T, lt_F, le_T, le_F, eq_F, e1, e4, e2, ck]
      · rw [tSk_stay (fun z => q z.2)]
        exact e4
theorem c_adv950 (h : qm_H) : qX8_advance_95 qm_N 43 (nI 0) h = qX8_advance_138 43 h := by
  obtain ⟨g, hg⟩ : ∃ g, qm_N = g + 1 := ⟨99999, rfl⟩
  rw [hg]
  unfold qX8_advance_95
  simp (disch := omega) only [↓reduceIte, ↓q_m1, ↓q_m2, k_o, k_0, k_1, k_2, k_3, k_4, k_5, k_6, k_7, k_8, k_9, k_10, k_11, k_16, k_17, k_19, k_20, k_24, k_26, k_27, k_30, k_32, k_33, k_35, k_40, k_43, k_48, k_50, k_57, k_60, k_64, k_81, k_86, k_34, k_66, k_322, k_97, k_99, k_100, k_122, k_128, k_160, k_161, k_255, k_256, k_512, k_580, k_600, k_1000, k_4096, k_far, k_o, nI_add, n_mul, n_sub, n_div, n_rem, n_lt, n_le, n_eq, n_cl, n_and, n_or, n_xor, m1_lt, lt_m1, m1_eq, eq_m1, le_m1, m1_le, m2_eq, up_eq, up_ne, n_shl, n_shr, b2_some, let_e, ob_some, bI_0, bI_a, bI_t, bI_f, if_true, if_false, ite_true, ite_false, true_and, and_true, false_and, and_false, true_or, or_true, false_or, or_false, not_true_eq_false, not_false_eq_true, ite_not, ne_eq, Bool.true_eq_false, Bool.false_eq_true, reduceCtorEq, decide_true, decide_false, Bool.and_true, Bool.and_false, Bool.true_and, Bool.false_and, Bool.or_true, Bool.or_false, Bool.not_true, Bool.not_false, Nat.add_zero, Nat.zero_add, eq_self, Nat.not_lt_zero, Nat.reduceAdd, Nat.reduceMul, Nat.reduceSub, Nat.reduceDiv, Nat.reduceMod, Nat.reduceAnd, Nat.reduceXor, Nat.reduceEqDiff, Nat.reducePow, lt_T, lt_F, le_T, le_F, eq_F]
/-- the class's TOKEN -/
def ytC (B : Nat → Nat) (n p : Nat) (h : qm_H) : Prop := h.1 43 2 = nI (tK B n p) ∧ h.1 43 3 = nI (tS B n p) ∧ h.1 43 4 = nI (tE B n p) ∧ (tK B n p = 2 → h.1 43 5 = nI (tV B n p))
theorem c_n29 {B : Nat → Nat} {n i e v g : Nat} {h : qm_H} (T : tpC B n h) (he : e ≤ n) (hi : i < e) (D : kdB (B i) = 2) (e4 : h.1 43 4 = nI e) (e5 : h.1 43 5 = nI v) (hv : v < 1000) : qX8_takeNumber_29 (g + 1) 43 (nI i) h = qX8_takeNumber_29 g 43 (nI (i + 1)) (qm_seti h 43 5 (nI (10 * v + (B i - 48)))) := by
  have hn := T.1
  have e1 := T.2.1
  have d0 := kdB_2.mp D
  have b0 := ytB_s (T.2.2 i (by omega)) (by omega)
  conv => { lhs; unfold qX8_takeNumber_29 }
  simp (disch := omega) only [↓reduceIte, ↓q_m1, ↓q_m2, k_o, k_0, k_1, k_2, k_3, k_4, k_5, k_6, k_7, k_8, k_9, k_10, k_11, k_16, k_17, k_19, k_20, k_24, k_26, k_27, k_30, k_32, k_33, k_35, k_40, k_43, k_48, k_50, k_57, k_60, k_64, k_81, k_86, k_34, k_66, k_322, k_97, k_99, k_100, k_122, k_128, k_160, k_161, k_255, k_256, k_512, k_580, k_600, k_1000, k_4096, k_far, k_o, nI_add, n_mul, n_sub, n_div, n_rem, n_lt, n_le, n_eq, n_cl, n_and, n_or, n_xor, m1_lt, lt_m1, m1_eq, eq_m1, le_m1, m1_le, m2_eq, up_eq, up_ne, n_shl, n_shr, b2_some, let_e, ob_some, bI_0, bI_a, bI_t, bI_f, if_true, if_false, ite_true, ite_false, true_and, and_true, false_and, and_false, true_or, or_true, false_or, or_false, not_true_eq_false, not_false_eq_true, ite_not, ne_eq, Bool.true_eq_false, Bool.false_eq_true, reduceCtorEq, decide_true, decide_false, Bool.and_true, Bool.and_false, Bool.true_and, Bool.false_and, Bool.or_true, Bool.or_false, Bool.not_true, Bool.not_false, Nat.add_zero, Nat.zero_add, eq_self, Nat.not_lt_zero, Nat.reduceAdd, Nat.reduceMul, Nat.reduceSub, Nat.reduceDiv, Nat.reduceMod, Nat.reduceAnd, Nat.reduceXor, Nat.reduceEqDiff, Nat.reducePow, lt_T, lt_F, le_T, le_F, eq_F, e1, e4, e5, b0]
theorem c_n29e {i g : Nat} {h : qm_H} (e4 : h.1 43 4 = nI i) (hi : i ≤ 600) : qX8_takeNumber_29 (g + 1) 43 (nI i) h = some h := by
  unfold qX8_takeNumber_29
  simp (disch := omega) only [↓reduceIte, ↓q_m1, ↓q_m2, k_o, k_0, k_1, k_2, k_3, k_4, k_5, k_6, k_7, k_8, k_9, k_10, k_11, k_16, k_17, k_19, k_20, k_24, k_26, k_27, k_30, k_32, k_33, k_35, k_40, k_43, k_48, k_50, k_57, k_60, k_64, k_81, k_86, k_34, k_66, k_322, k_97, k_99, k_100, k_122, k_128, k_160, k_161, k_255, k_256, k_512, k_580, k_600, k_1000, k_4096, k_far, k_o, nI_add, n_mul, n_sub, n_div, n_rem, n_lt, n_le, n_eq, n_cl, n_and, n_or, n_xor, m1_lt, lt_m1, m1_eq, eq_m1, le_m1, m1_le, m2_eq, up_eq, up_ne, n_shl, n_shr, b2_some, let_e, ob_some, bI_0, bI_a, bI_t, bI_f, if_true, if_false, ite_true, ite_false, true_and, and_true, false_and, and_false, true_or, or_true, false_or, or_false, not_true_eq_false, not_false_eq_true, ite_not, ne_eq, Bool.true_eq_false, Bool.false_eq_true, reduceCtorEq, decide_true, decide_false, Bool.and_true, Bool.and_false, Bool.true_and, Bool.false_and, Bool.or_true, Bool.or_false, Bool.not_true, Bool.not_false, Nat.add_zero, Nat.zero_add, eq_self, Nat.not_lt_zero, Nat.reduceAdd, Nat.reduceMul, Nat.reduceSub, Nat.reduceDiv, Nat.reduceMod, Nat.reduceAnd, Nat.reduceXor, Nat.reduceEqDiff, Nat.reducePow, lt_T, lt_F, le_T, le_F, eq_F, e4]
theorem c_num1 {B : Nat → Nat} {n s e : Nat} {h : qm_H} (T : tpC B n h) (he : e ≤ n) (hs : s < e) (h2 : e - s ≤ 2) (D : ∀ j, s ≤ j → j < e → kdB (B j) = 2) (e3 : h.1 43 3 = nI s) (e4 : h.1 43 4 = nI e) : ∃ h1, qX8_takeNumber 43 h = some h1 ∧ h1.1 43 5 = nI (if e - s = 1 then B s - 48 else 10 * (B s - 48) + (B (s + 1) - 48)) ∧ qFr (fun a k => a = 43 ∧ k = 5) h h1 := by
  have hn := T.1
  have e1 := T.2.1
  obtain ⟨g, hg⟩ : ∃ g, qm_N = g + 3 := ⟨99997, rfl⟩
  have d0 := kdB_2.mp (D s (by omega) (by omega))
  have b0 := ytB_s (T.2.2 s (by omega)) (by omega)
  have b0' : h.1 (43 - 41) s = nI (B s) := b0
  have T1 : ∀ x, tpC B n (qm_seti h 43 5 x) := fun x => T.mv (sI_ne (by omega)) (fun j => sI_ne (by omega))
  have st : qX8_takeNumber 43 h = qX8_takeNumber_29 qm_N 43 (nI s) (qm_seti h 43 5 (nI 0)) := by
    unfold qX8_takeNumber
    simp (disch := omega) only [↓reduceIte, ↓q_m1, ↓q_m2, k_o, k_0, k_1, k_2, k_3, k_4, k_5, k_6, k_7, k_8, k_9, k_10, k_11, k_16, k_17, k_19, k_20, k_24, k_26, k_27, k_30, k_32, k_33, k_35, k_40, k_43, k_48, k_50, k_57, k_60, k_64, k_81, k_86, k_34, k_66, k_322, k_97, k_99, k_100, k_122, k_128, k_160, k_161, k_255, k_256, k_512, k_580, k_600, k_1000, k_4096, k_far, k_o, nI_add, n_mul, n_sub, n_div, n_rem, n_lt, n_le, n_eq, n_cl, n_and, n_or, n_xor, m1_lt, lt_m1, m1_eq, eq_m1, le_m1, m1_le, m2_eq, up_eq, up_ne, n_shl, n_shr, b2_some, let_e, ob_some, bI_0, bI_a, bI_t, bI_f, if_true, if_false, ite_true, ite_false, true_and, and_true, false_and, and_false, true_or, or_true, false_or, or_false, not_true_eq_false, not_false_eq_true, ite_not, ne_eq, Bool.true_eq_false, Bool.false_eq_true, reduceCtorEq, decide_true, decide_false, Bool.and_true, Bool.and_false, Bool.true_and, Bool.false_and, Bool.or_true, Bool.or_false, Bool.not_true, Bool.not_false, Nat.add_zero, Nat.zero_add, eq_self, Nat.not_lt_zero, Nat.reduceAdd, Nat.reduceMul, Nat.reduceSub, Nat.reduceDiv, Nat.reduceMod, Nat.reduceAnd, Nat.reduceXor, Nat.reduceEqDiff, Nat.reducePow, lt_T, lt_F, le_T, le_F, eq_F, e3, e4]
  have s1 := c_n29 (g := g + 2) (T1 (nI 0)) he hs (D s (by omega) (by omega)) (by rw [sI_ne (by omega)]; exact e4) (sI_eq _ _ _ _) (by omega)
  rw [st, hg, s1]
  by_cases q : e = s + 1
  · refine ⟨_, c_n29e (by rw [sI_ne (by omega), sI_ne (by omega), e4, q]) (by omega), ?_, (qFr.seti ⟨rfl, rfl⟩).trans (qFr.seti ⟨rfl, rfl⟩)⟩
    rw [if_pos (by omega), sI_eq]
    congr 1
    omega
  · have d1 := kdB_2.mp (D (s + 1) (by omega) (by omega))
    have s2 := c_n29 (g := g + 1) (i := s + 1) (v := 10 * 0 + (B s - 48)) ((T1 (nI 0)).mv (h' := qm_seti (qm_seti h 43 5 (nI 0)) 43 5 (nI (10 * 0 + (B s - 48)))) (sI_ne (by omega)) (fun j => sI_ne (by omega))) he (by omega) (D (s + 1) (by omega) (by omega)) (by rw [sI_ne (by omega), sI_ne (by omega)]; exact e4) (sI_eq _ _ _ _) (by omega)
    rw [s2]
    refine ⟨_, c_n29e (by rw [sI_ne (by omega), sI_ne (by omega), sI_ne (by omega), e4]; congr 1; omega) (by omega), ?_, ((qFr.seti ⟨rfl, rfl⟩).trans (qFr.seti ⟨rfl, rfl⟩)).trans (qFr.seti ⟨rfl, rfl⟩)⟩
    rw [if_neg (by omega), sI_eq]
    congr 1
    omega
theorem c_adv36 {B : Nat → Nat} {n p : Nat} {h : qm_H} (T : tpC B n h) (hp : p ≤ n) (e4 : h.1 43 4 = nI (tS B n p)) : ∃ h', qX8_advance_36 43 h = some h' ∧ ytC B n p h' ∧ qFr (fun a k => a = 43 ∧ k ≠ 1) h h' := by
  have hn := T.1
  have e1 := T.2.1
  have s1 := t_S B hp
  have E1 := t_E B hp
  have T1 : tpC B n (qm_seti h 43 3 (nI (tS B n p))) := T.mv (sI_ne (by omega)) (fun j => sI_ne (by omega))
  have ck := c_kd T1 s1.2
  have ea : (if tS B n p < n then kdB (B (tS B n p)) else 0) = tA B n p := rfl
  rw [ea] at ck
  obtain ⟨g, hg⟩ : ∃ g, qm_N = g + 1 := ⟨99999, rfl⟩
  have f1 : ∀ x, qFr (fun a k => a = 43 ∧ k ≠ 1) h (qm_seti (qm_seti h 43 3 (nI (tS B n p))) 43 2 x) := fun x => (qFr.seti ⟨rfl, by omega⟩).trans (qFr.seti ⟨rfl, by omega⟩)
  rcases t_A B n p with ⟨a, b⟩ | ⟨a, b, c, d, e⟩
  · have kv : tK B n p = 0 := by unfold tK; rw [if_neg (by omega)]; exact a
    have ev : tE B n p = tS B n p := by unfold tE; rw [if_pos a]
    rw [a] at ck
    refine ⟨qm_seti (qm_seti h 43 3 (nI (tS B n p))) 43 2 (nI 0), ?_, ⟨?_, ?_, ?_, fun z => by omega⟩, f1 _⟩
    · unfold qX8_advance_36 qX8_advance_73
      simp (disch := omega) only [↓reduceIte, ↓q_m1, ↓q_m2, k_o, k_0, k_1, k_2, k_3, k_4, k_5, k_6, k_7, k_8, k_9, k_10, k_11, k_16, k_17, k_19, k_20, k_24, k_26, k_27, k_30, k_32, k_33, k_35, k_40, k_43, k_48, k_50, k_57, k_60, k_64, k_81, k_86, k_34, k_66, k_322, k_97, k_99, k_100, k_122, k_128, k_160, k_161, k_255, k_256, k_512, k_580, k_600, k_1000, k_4096, k_far, k_o, nI_add, n_mul, n_sub, n_div, n_rem, n_lt, n_le, n_eq, n_cl, n_and, n_or, n_xor, m1_lt, lt_m1, m1_eq, eq_m1, le_m1, m1_le, m2_eq, up_eq, up_ne, n_shl, n_shr, b2_some, let_e, ob_some, bI_0, bI_a, bI_t, bI_f, if_true, if_false, ite_true, ite_false, true_and, and_true, false_and, and_false, true_or, or_true, false_or, or_false, not_true_eq_false, not_false_eq_true, ite_not, ne_eq, Bool.true_eq_false, Bool.false_eq_true, reduceCtorEq, decide_true, decide_false, Bool.and_true, Bool.and_false, Bool.true_and, Bool.false_and, Bool.or_true, Bool.or_false, Bool.not_true, Bool.not_false, Nat.add_zero, Nat.zero_add, eq_self, Nat.not_lt_zero, Nat.reduceAdd, Nat.reduceMul, Nat.reduceSub, Nat.reduceDiv, Nat.reduceMod, Nat.reduceAnd, Nat.reduceXor, Nat.reduceEqDiff, Nat.reducePow, lt_T, lt_F, le_T, le_F, eq_F, e4, ck]
      rw [c_adv950]
      unfold qX8_advance_138
      simp (disch := omega) only [↓reduceIte, ↓q_m1, ↓q_m2, k_o, k_0, k_1, k_2, k_3, k_4, k_5, k_6, k_7, k_8, k_9, k_10, k_11, k_16, k_17, k_19, k_20, k_24, k_26, k_27, k_30, k_32, k_33, k_35, k_40, k_43, k_48, k_50, k_57, k_60, k_64, k_81, k_86, k_34, k_66, k_322, k_97, k_99, k_100, k_122, k_128, k_160, k_161, k_255, k_256, k_512, k_580, k_600, k_1000, k_4096, k_far, k_o, nI_add, n_mul, n_sub, n_div, n_rem, n_lt, n_le, n_eq, n_cl, n_and, n_or, n_xor, m1_lt, lt_m1, m1_eq, eq_m1, le_m1, m1_le, m2_eq, up_eq, up_ne, n_shl, n_shr, b2_some, let_e, ob_some, bI_0, bI_a, bI_t, bI_f, if_true, if_false, ite_true, ite_false, true_and, and_true, false_and, and_false, true_or, or_true, false_or, or_false, not_true_eq_false, not_false_eq_true, ite_not, ne_eq, Bool.true_eq_false, Bool.false_eq_true, reduceCtorEq, decide_true, decide_false, Bool.and_true, Bool.and_false, Bool.true_and, Bool.false_and, Bool.or_true, Bool.or_false, Bool.not_true, Bool.not_false, Nat.add_zero, Nat.zero_add, eq_self, Nat.not_lt_zero, Nat.reduceAdd, Nat.reduceMul, Nat.reduceSub, Nat.reduceDiv, Nat.reduceMod, Nat.reduceAnd, Nat.reduceXor, Nat.reduceEqDiff, Nat.reducePow, lt_T, lt_F, le_T, le_F, eq_F]
    · rw [kv]; exact sI_eq _ _ _ _
    · rw [sI_ne (by omega)]; exact sI_eq _ _ _ _
    · rw [ev, sI_ne (by omega), sI_ne (by omega)]; exact e4
  · by_cases r : tA B n p = 1 ∨ tA B n p = 2
    · have ev : tE B n p = tSk B n (tA B n p) (n - (tS B n p + 1)) (tS B n p + 1) := by unfold tE; rw [if_neg (by omega), if_pos r]
      have T2 : tpC B n (qm_seti (qm_seti (qm_seti h 43 3 (nI (tS B n p))) 43 2 (nI (tA B n p))) 43 4 (nI (tS B n p + 1))) := T.mv (by rw [sI_ne (by omega), sI_ne (by omega), sI_ne (by omega)]) (fun j => by rw [sI_ne (by omega), sI_ne (by omega), sI_ne (by omega)])
      obtain ⟨h1, a1, a2, a3⟩ := c_adv95 r (n - (tS B n p + 1)) (tS B n p + 1) _ qm_N rfl (by unfold qm_N; omega) (by omega) T2 (sI_eq _ _ _ _) (by rw [sI_ne (by omega)]; exact sI_eq _ _ _ _)
      rw [← ev] at a2
      have k2 : h1.1 43 2 = nI (tA B n p) := by rw [(a3 43 2 (by omega)).1, sI_ne (by omega)]; exact sI_eq _ _ _ _
      have k3 : h1.1 43 3 = nI (tS B n p) := by rw [(a3 43 3 (by omega)).1, sI_ne (by omega), sI_ne (by omega)]; exact sI_eq _ _ _ _
      have F1 : qFr (fun a k => a = 43 ∧ k ≠ 1) h h1 := ((f1 _).trans (qFr.seti ⟨rfl, by omega⟩)).trans (a3.mono (fun x y z => ⟨z.1, by omega⟩))
      have T3 : tpC B n h1 := T.mv (F1 43 1 (by omega)).1 (fun j => (F1 2 j (by omega)).1)
      have main : qX8_advance_36 43 h = qX8_advance_138 43 h1 := by
        rw [← a1]
        unfold qX8_advance_36 qX8_advance_73
        rcases r with r | r
        · rw [r] at ck ⊢
          simp (disch := omega) only [↓reduceIte, ↓q_m1, ↓q_m2, k_o, k_0, k_1, k_2, k_3, k_4, k_5, k_6, k_7, k_8, k_9, k_10, k_11, k_16, k_17, k_19, k_20, k_24, k_26, k_27, k_30, k_32, k_33, k_35, k_40, k_43, k_48, k_50, k_57, k_60, k_64, k_81, k_86, k_34, k_66, k_322, k_97, k_99, k_100, k_122, k_128, k_160, k_161, k_255, k_256, k_512, k_580, k_600, k_1000, k_4096, k_far, k_o, nI_add, n_mul, n_sub, n_div, n_rem, n_lt, n_le, n_eq, n_cl, n_and, n_or, n_xor, m1_lt, lt_m1, m1_eq, eq_m1, le_m1, m1_le, m2_eq, up_eq, up_ne, n_shl, n_shr, b2_some, let_e, ob_some, bI_0, bI_a, bI_t, bI_f, if_true, if_false, ite_true, ite_false, true_and, and_true, false_and, and_false, true_or, or_true, false_or, or_false, not_true_eq_false, not_false_eq_true, ite_not, ne_eq, Bool.true_eq_false, Bool.false_eq_true, reduceCtorEq, decide_true, decide_false, Bool.and_true, Bool.and_false, Bool.true_and, Bool.false_and, Bool.or_true, Bool.or_false, Bool.not_true, Bool.not_false, Nat.add_zero, Nat.zero_add, eq_self, Nat.not_lt_zero, Nat.reduceAdd, Nat.reduceMul, Nat.reduceSub, Nat.reduceDiv, Nat.reduceMod, Nat.reduceAnd, Nat.reduceXor, Nat.reduceEqDiff, Nat.reducePow, lt_T, lt_F, le_T, le_F, eq_F, e4, ck]
        · rw [r] at ck ⊢
          simp (disch := omega) only [↓reduceIte, ↓q_m1, ↓q_m2, k_o, k_0, k_1, k_2, k_3, k_4, k_5, k_6, k_7, k_8, k_9, k_10, k_11, k_16, k_17, k_19, k_20, k_24, k_26, k_27, k_30, k_32, k_33, k_35, k_40, k_43, k_48, k_50, k_57, k_60, k_64, k_81, k_86, k_34, k_66, k_322, k_97, k_99, k_100, k_122, k_128, k_160, k_161, k_255, k_256, k_512, k_580, k_600, k_1000, k_4096, k_far, k_o, nI_add, n_mul, n_sub, n_div, n_rem, n_lt, n_le, n_eq, n_cl, n_and, n_or, n_xor, m1_lt, lt_m1, m1_eq, eq_m1, le_m1, m1_le, m2_eq, up_eq, up_ne, n_shl, n_shr, b2_some, let_e, ob_some, bI_0, bI_a, bI_t, bI_f, if_true, if_false, ite_true, ite_false, true_and, and_true, false_and, and_false, true_or, or_true, false_or, or_false, not_true_eq_false, not_false_eq_true, ite_not, ne_eq, Bool.true_eq_false, Bool.false_eq_true, reduceCtorEq, decide_true, decide_false, Bool.and_true, Bool.and_false, Bool.true_and, Bool.false_and, Bool.or_true, Bool.or_false, Bool.not_true, Bool.not_false, Nat.add_zero, Nat.zero_add, eq_self, Nat.not_lt_zero, Nat.reduceAdd, Nat.reduceMul, Nat.reduceSub, Nat.reduceDiv, Nat.reduceMod, Nat.reduceAnd, Nat.reduceXor, Nat.reduceEqDiff, Nat.reducePow, lt_T, lt_F, le_T, le_F, eq_F, e4, ck]
      rw [main]
      rcases r with r | r
      · have kv : tK B n p = 1 := by unfold tK; rw [if_neg (by omega)]; exact r
        rw [r] at k2
        refine ⟨h1, ?_, ⟨by rw [kv]; exact k2, k3, a2, fun z => by omega⟩, F1⟩
        unfold qX8_advance_138
        simp (disch := omega) only [↓reduceIte, ↓q_m1, ↓q_m2, k_o, k_0, k_1, k_2, k_3, k_4, k_5, k_6, k_7, k_8, k_9, k_10, k_11, k_16, k_17, k_19, k_20, k_24, k_26, k_27, k_30, k_32, k_33, k_35, k_40, k_43, k_48, k_50, k_57, k_60, k_64, k_81, k_86, k_34, k_66, k_322, k_97, k_99, k_100, k_122, k_128, k_160, k_161, k_255, k_256, k_512, k_580, k_600, k_1000, k_4096, k_far, k_o, nI_add, n_mul, n_sub, n_div, n_rem, n_lt, n_le, n_eq, n_cl, n_and, n_or, n_xor, m1_lt, lt_m1, m1_eq, eq_m1, le_m1, m1_le, m2_eq, up_eq, up_ne, n_shl, n_shr, b2_some, let_e, ob_some, bI_0, bI_a, bI_t, bI_f, if_true, if_false, ite_true, ite_false, true_and, and_true, false_and, and_false, true_or, or_true, false_or, or_false, not_true_eq_false, not_false_eq_true, ite_not, ne_eq, Bool.true_eq_false, Bool.false_eq_true, reduceCtorEq, decide_true, decide_false, Bool.and_true, Bool.and_false, Bool.true_and, Bool.false_and, Bool.or_true, Bool.or_false, Bool.not_true, Bool.not_false, Nat.add_zero, Nat.zero_add, eq_self, Nat.not_lt_zero, Nat.reduceAdd, Nat.reduceMul, Nat.reduceSub, Nat.reduceDiv, Nat.reduceMod, Nat.reduceAnd, Nat.reduceXor, Nat.reduceEqDiff, Nat.reducePow, lt_T, lt_F, le_T, le_F, eq_F, k2]
      · have rw' := t_row B (n := n) (p := p) (Or.inr r)
        rw [r] at k2 rw'
        by_cases l : 2 < tE B n p - tS B n p
        · have kv : tK B n p = 5 := by unfold tK; rw [if_pos ⟨r, l⟩]
          refine ⟨qm_seti h1 43 2 (nI 5), ?_, ⟨by rw [kv]; exact sI_eq _ _ _ _, by rw [sI_ne (by omega)]; exact k3, by rw [sI_ne (by omega)]; exact a2, fun z => by omega⟩, F1.trans (qFr.seti ⟨rfl, by omega⟩)⟩
          unfold qX8_advance_138 qX8_takeNumber
          simp (disch := omega) only [↓reduceIte, ↓q_m1, ↓q_m2, k_o, k_0, k_1, k_2, k_3, k_4, k_5, k_6, k_7, k_8, k_9, k_10, k_11, k_16, k_17, k_19, k_20, k_24, k_26, k_27, k_30, k_32, k_33, k_35, k_40, k_43, k_48, k_50, k_57, k_60, k_64, k_81, k_86, k_34, k_66, k_322, k_97, k_99, k_100, k_122, k_128, k_160, k_161, k_255, k_256, k_512, k_580, k_600, k_1000, k_4096, k_far, k_o, nI_add, n_mul, n_sub, n_div, n_rem, n_lt, n_le, n_eq, n_cl, n_and, n_or, n_xor, m1_lt, lt_m1, m1_eq, eq_m1, le_m1, m1_le, m2_eq, up_eq, up_ne, n_shl, n_shr, b2_some, let_e, ob_some, bI_0, bI_a, bI_t, bI_f, if_true, if_false, ite_true, ite_false, true_and, and_true, false_and, and_false, true_or, or_true, false_or, or_false, not_true_eq_false, not_false_eq_true, ite_not, ne_eq, Bool.true_eq_false, Bool.false_eq_true, reduceCtorEq, decide_true, decide_false, Bool.and_true, Bool.and_false, Bool.true_and, Bool.false_and, Bool.or_true, Bool.or_false, Bool.not_true, Bool.not_false, Nat.add_zero, Nat.zero_add, eq_self, Nat.not_lt_zero, Nat.reduceAdd, Nat.reduceMul, Nat.reduceSub, Nat.reduceDiv, Nat.reduceMod, Nat.reduceAnd, Nat.reduceXor, Nat.reduceEqDiff, Nat.reducePow, lt_T, lt_F, le_T, le_F, eq_F, k2, k3, a2]
        · have kv : tK B n p = 2 := by unfold tK; rw [if_neg (by omega)]; exact r
          obtain ⟨h2, b1, b2, b3⟩ := c_num1 T3 E1.1 (E1.2.2 (by omega)) (by omega) rw' k3 a2
          refine ⟨h2, ?_, ⟨by rw [kv, (b3 43 2 (by omega)).1]; exact k2, by rw [(b3 43 3 (by omega)).1]; exact k3, by rw [(b3 43 4 (by omega)).1]; exact a2, fun _ => b2⟩, F1.trans (b3.mono (fun x y z => ⟨z.1, by omega⟩))⟩
          unfold qX8_advance_138
          simp (disch := omega) only [↓reduceIte, ↓q_m1, ↓q_m2, k_o, k_0, k_1, k_2, k_3, k_4, k_5, k_6, k_7, k_8, k_9, k_10, k_11, k_16, k_17, k_19, k_20, k_24, k_26, k_27, k_30, k_32, k_33, k_35, k_40, k_43, k_48, k_50, k_57, k_60, k_64, k_81, k_86, k_34, k_66, k_322, k_97, k_99, k_100, k_122, k_128, k_160, k_161, k_255, k_256, k_512, k_580, k_600, k_1000, k_4096, k_far, k_o, nI_add, n_mul, n_sub, n_div, n_rem, n_lt, n_le, n_eq, n_cl, n_and, n_or, n_xor, m1_lt, lt_m1, m1_eq, eq_m1, le_m1, m1_le, m2_eq, up_eq, up_ne, n_shl, n_shr, b2_some, let_e, ob_some, bI_0, bI_a, bI_t, bI_f, if_true, if_false, ite_true, ite_false, true_and, and_true, false_and, and_false, true_or, or_true, false_or, or_false, not_true_eq_false, not_false_eq_true, ite_not, ne_eq, Bool.true_eq_false, Bool.false_eq_true, reduceCtorEq, decide_true, decide_false, Bool.and_true, Bool.and_false, Bool.true_and, Bool.false_and, Bool.or_true, Bool.or_false, Bool.not_true, Bool.not_false, Nat.add_zero, Nat.zero_add, eq_self, Nat.not_lt_zero, Nat.reduceAdd, Nat.reduceMul, Nat.reduceSub, Nat.reduceDiv, Nat.reduceMod, Nat.reduceAnd, Nat.reduceXor, Nat.reduceEqDiff, Nat.reducePow, lt_T, lt_F, le_T, le_F, eq_F, k2, b1]
    · have kv : tK B n p = tA B n p := by unfold tK; rw [if_neg (by omega)]
      have ev : tE B n p = tS B n p + 1 := by unfold tE; rw [if_neg (by omega), if_neg r]
      refine ⟨qm_seti (qm_seti (qm_seti h 43 3 (nI (tS B n p))) 43 2 (nI (tA B n p))) 43 4 (nI (tS B n p + 1)), ?_, ⟨?_, ?_, ?_, fun z => by omega⟩, (f1 _).trans (qFr.seti ⟨rfl, by omega⟩)⟩
      · unfold qX8_advance_36 qX8_advance_73
        simp (disch := omega) only [↓reduceIte, ↓q_m1, ↓q_m2, k_o, k_0, k_1, k_2, k_3, k_4, k_5, k_6, k_7, k_8, k_9, k_10, k_11, k_16, k_17, k_19, k_20, k_24, k_26, k_27, k_30, k_32, k_33, k_35, k_40, k_43, k_48, k_50, k_57, k_60, k_64, k_81, k_86, k_34, k_66, k_322, k_97, k_99, k_100, k_122, k_128, k_160, k_161, k_255, k_256, k_512, k_580, k_600, k_1000, k_4096, k_far, k_o, nI_add, n_mul, n_sub, n_div, n_rem, n_lt, n_le, n_eq, n_cl, n_and, n_or, n_xor, m1_lt, lt_m1, m1_eq, eq_m1, le_m1, m1_le, m2_eq, up_eq, up_ne, n_shl, n_shr, b2_some, let_e, ob_some, bI_0, bI_a, bI_t, bI_f, if_true, if_false, ite_true, ite_false, true_and, and_true, false_and, and_false, true_or, or_true, false_or, or_false, not_true_eq_false, not_false_eq_true, ite_not, ne_eq, Bool.true_eq_false, Bool.false_eq_true, reduceCtorEq, decide_true, decide_false, Bool.and_true, Bool.and_false, Bool.true_and, Bool.false_and, Bool.or_true, Bool.or_false, Bool.not_true, Bool.not_false, Nat.add_zero, Nat.zero_add, eq_self, Nat.not_lt_zero, Nat.reduceAdd, Nat.reduceMul, Nat.reduceSub, Nat.reduceDiv, Nat.reduceMod, Nat.reduceAnd, Nat.reduceXor, Nat.reduceEqDiff, Nat.reducePow, lt_T, lt_F, le_T, le_F, eq_F, e4, ck, c_adv950]
        unfold qX8_advance_138
        simp (disch := omega) only [↓reduceIte, ↓q_m1, ↓q_m2, k_o, k_0, k_1, k_2, k_3, k_4, k_5, k_6, k_7, k_8, k_9, k_10, k_11, k_16, k_17, k_19, k_20, k_24, k_26, k_27, k_30, k_32, k_33, k_35, k_40, k_43, k_48, k_50, k_57, k_60, k_64, k_81, k_86, k_34, k_66, k_322, k_97, k_99, k_100, k_122, k_128, k_160, k_161, k_255, k_256, k_512, k_580, k_600, k_1000, k_4096, k_far, k_o, nI_add, n_mul, n_sub, n_div, n_rem, n_lt, n_le, n_eq, n_cl, n_and, n_or, n_xor, m1_lt, lt_m1, m1_eq, eq_m1, le_m1, m1_le, m2_eq, up_eq, up_ne, n_shl, n_shr, b2_some, let_e, ob_some, bI_0, bI_a, bI_t, bI_f, if_true, if_false, ite_true, ite_false, true_and, and_true, false_and, and_false, true_or, or_true, false_or, or_false, not_true_eq_false, not_false_eq_true, ite_not, ne_eq, Bool.true_eq_false, Bool.false_eq_true, reduceCtorEq, decide_true, decide_false, Bool.and_true, Bool.and_false, Bool.true_and, Bool.false_and, Bool.or_true, Bool.or_false, Bool.not_true, Bool.not_false, Nat.add_zero, Nat.zero_add, eq_self, Nat.not_lt_zero, Nat.reduceAdd, Nat.reduceMul, Nat.reduceSub, Nat.reduceDiv, Nat.reduceMod, Nat.reduceAnd, Nat.reduceXor, Nat.reduceEqDiff, Nat.reducePow, lt_T, lt_F, le_T, le_F, eq_F]
      · rw [kv, sI_ne (by omega)]; exact sI_eq _ _ _ _
      · rw [sI_ne (by omega), sI_ne (by omega)]; exact sI_eq _ _ _ _
      · rw [ev]; exact sI_eq _ _ _ _
/-- the class's next TOKEN -/
theorem c_adv {B : Nat → Nat} {n p : Nat} {h : qm_H} (T : tpC B n h) (hp : p ≤ n) (e4 : h.1 43 4 = nI p) : ∃ h', qX8_advance 43 h = some h' ∧ ytC B n p h' ∧ qFr (fun a k => a = 43 ∧ k ≠ 1) h h' := by
  have hn := T.1
  obtain ⟨h1, a1, a2, a3, a4⟩ := c_adv0 (n - p) p h qm_N rfl (by unfold qm_N; omega) hp T e4
  obtain ⟨h2, b1, b2, b3⟩ := c_adv36 a2 hp a3
  refine ⟨h2, ?_, b2, (a4.mono (fun x y z => ⟨z.1, by omega⟩)).trans b3⟩
  unfold qX8_advance
  rw [a1, b1]
