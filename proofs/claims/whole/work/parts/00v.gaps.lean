/-! gaps: the class's four loops, and the reference's one, go through the same numbers. -/
theorem if_cg {p q : Prop} {dp : Decidable p} {dq : Decidable q} (h : p ↔ q) : @ite Nat p dp 1 0 = @ite Nat q dq 1 0 := by
  by_cases z : p
  · rw [if_pos z, if_pos (h.mp z)]
  · rw [if_neg z, if_neg (fun y => z (h.mpr y))]
theorem ct_skip {p : Nat → Bool} {a b : Nat} (h : a ≤ b) (H : ∀ u, a ≤ u → u < b → p u = false) : fb_ct p b = fb_ct p a := by
  obtain ⟨d, rfl⟩ : ∃ d, b = a + d := ⟨b - a, by omega⟩
  rw [fb_ct_split, fb_ct_zero.mpr (fun k hk => H (a + k) (by omega) (by omega)), Nat.add_zero]
theorem fG_v {κ : qK} {u : Nat} (h : vG κ u = false) : fG κ u = false := by unfold fG; rw [h, Bool.false_and]
/-- what the class has found among the numbers below u -/
def gS (κ : qK) (wt : Int32) (tl : Bool) (g : Nat) (h h1 : qm_H) : Prop := qFr (fun a k => (a = 60 ∧ (k = 1 ∨ k = 3)) ∨ a = 61) h h1 ∧ h1.1 60 1 = nI (fb_ct (fG κ) g) ∧ (∀ u, u < g → fG κ u = true → nI (fb_ct (fG κ) u) = wt → h1.1 60 3 = nI u) ∧ ((∀ u, u < g → fG κ u = true → nI (fb_ct (fG κ) u) ≠ wt) → h1.1 60 3 = m1) ∧ (tl = true → ∀ i, i < 64 → h1.1 61 i = nI (fb_ct (fun u => fG κ u && inG κ u (i % kw κ) (i / kw κ)) g))
theorem gS.skip {κ : qK} {wt : Int32} {tl : Bool} {a b : Nat} {h h1 : qm_H} (S : gS κ wt tl a h h1) (hab : a ≤ b) (H : ∀ u, a ≤ u → u < b → vG κ u = false) : gS κ wt tl b h h1 := by
  obtain ⟨s1, s2, s3, s4, s5⟩ := S
  have no : ∀ u, u < b → fG κ u = true → u < a := fun u hu hf => by
    by_cases z : u < a
    · exact z
    · rw [fG_v (H u (by omega) hu)] at hf
      cases hf
  refine ⟨s1, ?_, fun u hu hf => s3 u (no u hu hf) hf, fun q => s4 (fun u hu hf => q u (by omega) hf), fun t i hi => ?_⟩
  · rw [ct_skip hab (fun u h1 h2 => fG_v (H u h1 h2))]
    exact s2
  · rw [ct_skip hab (fun u h1 h2 => by rw [fG_v (H u h1 h2), Bool.false_and])]
    exact s5 t i hi
/-! the tally -/
def tyI (W top left w r j i : Nat) : Nat := if (left ≤ i % W ∧ i % W < left + w ∧ top ≤ i / W ∧ i / W < top + r) ∨ (i / W = top + r ∧ left ≤ i % W ∧ i % W < left + j) then 1 else 0
theorem c_ty13 {W H top left w hh r : Nat} {T : Nat → Nat} {h1 : qm_H} (hW : 2 ≤ W) (hW8 : W ≤ 8) (hH8 : H ≤ 8) (hl : left + w ≤ W) (ht : top + hh ≤ H) (hr : r < hh) (K : Nat → Int32 → Int32 → Int32 → Int32 → Int32 → qm_H → Option qm_H) : ∀ d j h2 fuel, j + d = w → d < fuel → qFr (fun a _ => a = 61) h1 h2 → (∀ i, i < 64 → h2.1 61 i = nI (T i + tyI W top left w r j i)) → ∃ h3, qX5_tally_13 K fuel 60 (nI W) (nI (W * top + left)) (nI w) (nI hh) (nI r) (nI j) h2 = K 60 (nI W) (nI (W * top + left)) (nI w) (nI hh) (nI (r + 1)) h3 ∧ qFr (fun a _ => a = 61) h1 h3 ∧ ∀ i, i < 64 → h3.1 61 i = nI (T i + tyI W top left w (r + 1) 0 i) := by
  intro d
  induction d with
  | zero =>
    intro j h2 fuel hj hf F I
    obtain ⟨g, rfl⟩ : ∃ g, fuel = g + 1 := ⟨fuel - 1, by omega⟩
    refine ⟨h2, ?_, F, fun i hi => ?_⟩
    · unfold qX5_tally_13
      simp (disch := omega) only [↓reduceIte, ↓q_m1, ↓q_m2, k_o, k_0, k_1, k_2, k_3, k_4, k_5, k_6, k_7, k_8, k_9, k_10, k_11, k_16, k_17, k_19, k_20, k_24, k_26, k_27, k_30, k_32, k_33, k_35, k_40, k_43, k_48, k_50, k_57, k_60, k_64, k_81, k_86, k_34, k_66, k_322, k_97, k_99, k_100, k_122, k_128, k_160, k_161, k_255, k_256, k_512, k_580, k_600, k_1000, k_4096, k_far, k_o, nI_add, n_mul, n_sub, n_div, n_rem, n_lt, n_le, n_eq, n_cl, n_and, n_or, n_xor, m1_lt, lt_m1, m1_eq, eq_m1, le_m1, m1_le, m2_eq, up_eq, up_ne, n_shl, n_shr, b2_some, let_e, ob_some, bI_0, bI_a, bI_t, bI_f, if_true, if_false, ite_true, ite_false, true_and, and_true, false_and, and_false, true_or, or_true, false_or, or_false, not_true_eq_false, not_false_eq_true, ite_not, ne_eq, Bool.true_eq_false, Bool.false_eq_true, reduceCtorEq, decide_true, decide_false, Bool.and_true, Bool.and_false, Bool.true_and, Bool.false_and, Bool.or_true, Bool.or_false, Bool.not_true, Bool.not_false, Nat.add_zero, Nat.zero_add, eq_self, Nat.not_lt_zero, Nat.reduceAdd, Nat.reduceMul, Nat.reduceSub, Nat.reduceDiv, Nat.reduceMod, Nat.reduceAnd, Nat.reduceXor, Nat.reduceEqDiff, Nat.reducePow, lt_T, lt_F, le_T, le_F, eq_F]
    · rw [I i hi]
      congr 2
      unfold tyI
      have : j = w := by omega
      subst this
      refine if_cg ⟨fun z => ?_, fun z => ?_⟩
      · omega
      · omega
  | succ d ih =>
    intro j h2 fuel hj hf F I
    obtain ⟨g, rfl⟩ : ∃ g, fuel = g + 1 := ⟨fuel - 1, by omega⟩
    have hb : W * (top + r + 1) ≤ 8 * 8 := Nat.mul_le_mul (by omega) (by omega)
    rw [Nat.mul_succ] at hb
    have e1 : W * top + left + W * r + j = W * (top + r) + (left + j) := by rw [Nat.mul_add]; omega
    obtain ⟨d1, d2⟩ := wc_dm (W := W) (r := top + r) (c := left + j) (by omega)
    have hv : W * top + left + W * r + j < 64 := by omega
    have iv := I (W * top + left + W * r + j) hv
    obtain ⟨h3, p1, p2, p3⟩ := ih (j + 1) (qm_seti h2 61 (W * top + left + W * r + j) (nI (T (W * top + left + W * r + j) + tyI W top left w r j (W * top + left + W * r + j) + 1))) g (by omega) (by omega) (F.trans (qFr.seti rfl)) (fun i hi => by
      by_cases z : i = W * top + left + W * r + j
      · subst z
        rw [sI_eq]
        congr 1
        unfold tyI
        rw [e1, d1, d2, if_neg (by omega), if_pos (by omega)]
      · rw [sI_ne (by omega), I i hi]
        congr 2
        unfold tyI
        have hne : ¬ (i / W = top + r ∧ i % W = left + j) := fun y => by
          have := Nat.div_add_mod i W
          rw [y.1, y.2] at this
          omega
        refine if_cg ⟨fun y => ?_, fun y => ?_⟩
        · omega
        · omega)
    refine ⟨h3, ?_, p2, p3⟩
    unfold qX5_tally_13
    simp (disch := omega) only [↓reduceIte, ↓q_m1, ↓q_m2, k_o, k_0, k_1, k_2, k_3, k_4, k_5, k_6, k_7, k_8, k_9, k_10, k_11, k_16, k_17, k_19, k_20, k_24, k_26, k_27, k_30, k_32, k_33, k_35, k_40, k_43, k_48, k_50, k_57, k_60, k_64, k_81, k_86, k_34, k_66, k_322, k_97, k_99, k_100, k_122, k_128, k_160, k_161, k_255, k_256, k_512, k_580, k_600, k_1000, k_4096, k_far, k_o, nI_add, n_mul, n_sub, n_div, n_rem, n_lt, n_le, n_eq, n_cl, n_and, n_or, n_xor, m1_lt, lt_m1, m1_eq, eq_m1, le_m1, m1_le, m2_eq, up_eq, up_ne, n_shl, n_shr, b2_some, let_e, ob_some, bI_0, bI_a, bI_t, bI_f, if_true, if_false, ite_true, ite_false, true_and, and_true, false_and, and_false, true_or, or_true, false_or, or_false, not_true_eq_false, not_false_eq_true, ite_not, ne_eq, Bool.true_eq_false, Bool.false_eq_true, reduceCtorEq, decide_true, decide_false, Bool.and_true, Bool.and_false, Bool.true_and, Bool.false_and, Bool.or_true, Bool.or_false, Bool.not_true, Bool.not_false, Nat.add_zero, Nat.zero_add, eq_self, Nat.not_lt_zero, Nat.reduceAdd, Nat.reduceMul, Nat.reduceSub, Nat.reduceDiv, Nat.reduceMod, Nat.reduceAnd, Nat.reduceXor, Nat.reduceEqDiff, Nat.reducePow, lt_T, lt_F, le_T, le_F, eq_F, iv]
    exact p1
theorem c_ty3 {W H top left w hh : Nat} {T : Nat → Nat} {h1 : qm_H} (hW : 2 ≤ W) (hW8 : W ≤ 8) (hH8 : H ≤ 8) (hl : left + w ≤ W) (ht : top + hh ≤ H) : ∀ d r h2 fuel, r + d = hh → d < fuel → qFr (fun a _ => a = 61) h1 h2 → (∀ i, i < 64 → h2.1 61 i = nI (T i + tyI W top left w r 0 i)) → ∃ h3, qX5_tally_3 fuel 60 (nI W) (nI (W * top + left)) (nI w) (nI hh) (nI r) h2 = some h3 ∧ qFr (fun a _ => a = 61) h1 h3 ∧ ∀ i, i < 64 → h3.1 61 i = nI (T i + tyI W top left w hh 0 i) := by
  intro d
  induction d with
  | zero =>
    intro r h2 fuel hr hf F I
    obtain ⟨g, rfl⟩ : ∃ g, fuel = g + 1 := ⟨fuel - 1, by omega⟩
    have : r = hh := by omega
    subst this
    refine ⟨h2, ?_, F, I⟩
    unfold qX5_tally_3
    simp (disch := omega) only [↓reduceIte, ↓q_m1, ↓q_m2, k_o, k_0, k_1, k_2, k_3, k_4, k_5, k_6, k_7, k_8, k_9, k_10, k_11, k_16, k_17, k_19, k_20, k_24, k_26, k_27, k_30, k_32, k_33, k_35, k_40, k_43, k_48, k_50, k_57, k_60, k_64, k_81, k_86, k_34, k_66, k_322, k_97, k_99, k_100, k_122, k_128, k_160, k_161, k_255, k_256, k_512, k_580, k_600, k_1000, k_4096, k_far, k_o, nI_add, n_mul, n_sub, n_div, n_rem, n_lt, n_le, n_eq, n_cl, n_and, n_or, n_xor, m1_lt, lt_m1, m1_eq, eq_m1, le_m1, m1_le, m2_eq, up_eq, up_ne, n_shl, n_shr, b2_some, let_e, ob_some, bI_0, bI_a, bI_t, bI_f, if_true, if_false, ite_true, ite_false, true_and, and_true, false_and, and_false, true_or, or_true, false_or, or_false, not_true_eq_false, not_false_eq_true, ite_not, ne_eq, Bool.true_eq_false, Bool.false_eq_true, reduceCtorEq, decide_true, decide_false, Bool.and_true, Bool.and_false, Bool.true_and, Bool.false_and, Bool.or_true, Bool.or_false, Bool.not_true, Bool.not_false, Nat.add_zero, Nat.zero_add, eq_self, Nat.not_lt_zero, Nat.reduceAdd, Nat.reduceMul, Nat.reduceSub, Nat.reduceDiv, Nat.reduceMod, Nat.reduceAnd, Nat.reduceXor, Nat.reduceEqDiff, Nat.reducePow, lt_T, lt_F, le_T, le_F, eq_F]
  | succ d ih =>
    intro r h2 fuel hr hf F I
    obtain ⟨g, rfl⟩ : ∃ g, fuel = g + 1 := ⟨fuel - 1, by omega⟩
    obtain ⟨h3, p1, p2, p3⟩ := c_ty13 hW hW8 hH8 hl ht (r := r) (T := T) (h1 := h1) (by omega) (qX5_tally_3 g) w 0 h2 qm_N (by omega) (by unfold qm_N; omega) F I
    obtain ⟨h4, q1, q2, q3⟩ := ih (r + 1) h3 g (by omega) (by omega) p2 p3
    refine ⟨h4, ?_, q2, q3⟩
    unfold qX5_tally_3
    simp (disch := omega) only [↓reduceIte, ↓q_m1, ↓q_m2, k_o, k_0, k_1, k_2, k_3, k_4, k_5, k_6, k_7, k_8, k_9, k_10, k_11, k_16, k_17, k_19, k_20, k_24, k_26, k_27, k_30, k_32, k_33, k_35, k_40, k_43, k_48, k_50, k_57, k_60, k_64, k_81, k_86, k_34, k_66, k_322, k_97, k_99, k_100, k_122, k_128, k_160, k_161, k_255, k_256, k_512, k_580, k_600, k_1000, k_4096, k_far, k_o, nI_add, n_mul, n_sub, n_div, n_rem, n_lt, n_le, n_eq, n_cl, n_and, n_or, n_xor, m1_lt, lt_m1, m1_eq, eq_m1, le_m1, m1_le, m2_eq, up_eq, up_ne, n_shl, n_shr, b2_some, let_e, ob_some, bI_0, bI_a, bI_t, bI_f, if_true, if_false, ite_true, ite_false, true_and, and_true, false_and, and_false, true_or, or_true, false_or, or_false, not_true_eq_false, not_false_eq_true, ite_not, ne_eq, Bool.true_eq_false, Bool.false_eq_true, reduceCtorEq, decide_true, decide_false, Bool.and_true, Bool.and_false, Bool.true_and, Bool.false_and, Bool.or_true, Bool.or_false, Bool.not_true, Bool.not_false, Nat.add_zero, Nat.zero_add, eq_self, Nat.not_lt_zero, Nat.reduceAdd, Nat.reduceMul, Nat.reduceSub, Nat.reduceDiv, Nat.reduceMod, Nat.reduceAnd, Nat.reduceXor, Nat.reduceEqDiff, Nat.reducePow, lt_T, lt_F, le_T, le_F, eq_F]
    rw [p1]
    exact q1
theorem c_tally {W H top left w hh : Nat} {T : Nat → Nat} {h1 : qm_H} (hW : 2 ≤ W) (hW8 : W ≤ 8) (hH8 : H ≤ 8) (hl : left + w ≤ W) (ht : top + hh ≤ H) (I : ∀ i, i < 64 → h1.1 61 i = nI (T i)) : ∃ h3, qX5_tally 60 (nI W) (nI (W * top + left)) (nI w) (nI hh) h1 = some h3 ∧ qFr (fun a _ => a = 61) h1 h3 ∧ ∀ i, i < 64 → h3.1 61 i = nI (T i + if decide (left ≤ i % W ∧ i % W < left + w ∧ top ≤ i / W ∧ i / W < top + hh) then 1 else 0) := by
  obtain ⟨h3, p1, p2, p3⟩ := c_ty3 hW hW8 hH8 hl ht (T := T) (h1 := h1) hh 0 h1 qm_N (by omega) (by unfold qm_N; omega) (qFr.refl _ _) (fun i hi => by
    rw [I i hi]
    congr 1
    unfold tyI
    rw [if_neg (by omega)]
    rfl)
  refine ⟨h3, p1, p2, fun i hi => ?_⟩
  rw [p3 i hi]
  congr 2
  unfold tyI
  refine if_cg ⟨fun y => decide_eq_true (by omega), fun y => ?_⟩
  have := of_decide_eq_true y
  omega
/-! the loops -/
theorem pos_u {w hh c : Nat} (hw : 1 ≤ w) (hw8 : w ≤ 8) (hh1 : 1 ≤ hh) (hh8 : hh ≤ 8) (hc : c < 64) : gWd (512 * (hh - 1) + 64 * (w - 1) + c) = w ∧ gHt (512 * (hh - 1) + 64 * (w - 1) + c) = hh ∧ (512 * (hh - 1) + 64 * (w - 1) + c) % 64 = c ∧ 512 * (hh - 1) + 64 * (w - 1) + c < 4096 := by
  unfold gWd gHt
  omega
section CG
variable {κ : qK} {wt : Int32} {tl : Bool} {h : qm_H} {a : Nat}
theorem c_las17 (k : kOK κ) (C : kC a κ h) (ha : a + 1 < 60) (hwt : h.1 60 2 = wt) (htl : h.1 60 4 = bI tl) {w hh top : Nat} (hw : 1 ≤ w) (hw2 : w ≤ kw κ) (hh1 : 1 ≤ hh) (ht : top + hh ≤ kh κ) (K3 : Nat → Nat → Int32 → Int32 → Int32 → qm_H → Option qm_H) : ∀ d left h1 fuel, left + d = kw κ → d < fuel → gS κ wt tl (512 * (hh - 1) + 64 * (w - 1) + (kw κ * top + left)) h h1 → ∃ h2, qX5_lookAtSize_17 K3 fuel 60 a (nI w) (nI hh) (nI top) (nI left) h1 = K3 60 a (nI w) (nI hh) (nI (top + 1)) h2 ∧ gS κ wt tl (512 * (hh - 1) + 64 * (w - 1) + kw κ * (top + 1)) h h2 := by
  have k' := k
  obtain ⟨k1, k2, k3, k4, k5, k6⟩ := k'
  have hb : kw κ * (top + 1) ≤ 8 * 8 := Nat.mul_le_mul (by omega) (by omega)
  rw [Nat.mul_succ] at hb
  intro d
  induction d with
  | zero =>
    intro left h1 fuel hl hf S
    obtain ⟨g, rfl⟩ : ∃ g, fuel = g + 1 := ⟨fuel - 1, by omega⟩
    have C1 : kC a κ h1 := C.mv (fun q r _ _ => (S.1 q r (by omega)).1)
    refine ⟨h1, ?_, ?_⟩
    · unfold qX5_lookAtSize_17
      simp (disch := omega) only [↓reduceIte, ↓q_m1, ↓q_m2, k_o, k_0, k_1, k_2, k_3, k_4, k_5, k_6, k_7, k_8, k_9, k_10, k_11, k_16, k_17, k_19, k_20, k_24, k_26, k_27, k_30, k_32, k_33, k_35, k_40, k_43, k_48, k_50, k_57, k_60, k_64, k_81, k_86, k_34, k_66, k_322, k_97, k_99, k_100, k_122, k_128, k_160, k_161, k_255, k_256, k_512, k_580, k_600, k_1000, k_4096, k_far, k_o, nI_add, n_mul, n_sub, n_div, n_rem, n_lt, n_le, n_eq, n_cl, n_and, n_or, n_xor, m1_lt, lt_m1, m1_eq, eq_m1, le_m1, m1_le, m2_eq, up_eq, up_ne, n_shl, n_shr, b2_some, let_e, ob_some, bI_0, bI_a, bI_t, bI_f, if_true, if_false, ite_true, ite_false, true_and, and_true, false_and, and_false, true_or, or_true, false_or, or_false, not_true_eq_false, not_false_eq_true, ite_not, ne_eq, Bool.true_eq_false, Bool.false_eq_true, reduceCtorEq, decide_true, decide_false, Bool.and_true, Bool.and_false, Bool.true_and, Bool.false_and, Bool.or_true, Bool.or_false, Bool.not_true, Bool.not_false, Nat.add_zero, Nat.zero_add, eq_self, Nat.not_lt_zero, Nat.reduceAdd, Nat.reduceMul, Nat.reduceSub, Nat.reduceDiv, Nat.reduceMod, Nat.reduceAnd, Nat.reduceXor, Nat.reduceEqDiff, Nat.reducePow, lt_T, lt_F, le_T, le_F, eq_F, C1.1]
    · rw [show kw κ * (top + 1) = kw κ * top + left by rw [Nat.mul_succ]; omega]
      exact S
  | succ d ih =>
    intro left h1 fuel hl hf S
    obtain ⟨g, rfl⟩ : ∃ g, fuel = g + 1 := ⟨fuel - 1, by omega⟩
    have C1 : kC a κ h1 := C.mv (fun q r _ _ => (S.1 q r (by omega)).1)
    by_cases q : kw κ < left + w
    · refine ⟨h1, ?_, S.skip ?_ (fun u hu1 hu2 => ?_)⟩
      · unfold qX5_lookAtSize_17
        simp (disch := omega) only [↓reduceIte, ↓q_m1, ↓q_m2, k_o, k_0, k_1, k_2, k_3, k_4, k_5, k_6, k_7, k_8, k_9, k_10, k_11, k_16, k_17, k_19, k_20, k_24, k_26, k_27, k_30, k_32, k_33, k_35, k_40, k_43, k_48, k_50, k_57, k_60, k_64, k_81, k_86, k_34, k_66, k_322, k_97, k_99, k_100, k_122, k_128, k_160, k_161, k_255, k_256, k_512, k_580, k_600, k_1000, k_4096, k_far, k_o, nI_add, n_mul, n_sub, n_div, n_rem, n_lt, n_le, n_eq, n_cl, n_and, n_or, n_xor, m1_lt, lt_m1, m1_eq, eq_m1, le_m1, m1_le, m2_eq, up_eq, up_ne, n_shl, n_shr, b2_some, let_e, ob_some, bI_0, bI_a, bI_t, bI_f, if_true, if_false, ite_true, ite_false, true_and, and_true, false_and, and_false, true_or, or_true, false_or, or_false, not_true_eq_false, not_false_eq_true, ite_not, ne_eq, Bool.true_eq_false, Bool.false_eq_true, reduceCtorEq, decide_true, decide_false, Bool.and_true, Bool.and_false, Bool.true_and, Bool.false_and, Bool.or_true, Bool.or_false, Bool.not_true, Bool.not_false, Nat.add_zero, Nat.zero_add, eq_self, Nat.not_lt_zero, Nat.reduceAdd, Nat.reduceMul, Nat.reduceSub, Nat.reduceDiv, Nat.reduceMod, Nat.reduceAnd, Nat.reduceXor, Nat.reduceEqDiff, Nat.reducePow, lt_T, lt_F, le_T, le_F, eq_F, C1.1]
      · rw [Nat.mul_succ]; omega
      · rw [Nat.mul_succ] at hu2
        obtain ⟨p1, p2, p3, p4⟩ := pos_u (w := w) (hh := hh) (c := u - (512 * (hh - 1) + 64 * (w - 1))) hw (by omega) hh1 (by omega) (by omega)
        rw [show 512 * (hh - 1) + 64 * (w - 1) + (u - (512 * (hh - 1) + 64 * (w - 1))) = u by omega] at p1 p2 p3 p4
        obtain ⟨z1, z2⟩ := row_skip (W := kw κ) (r := top) (c := left) (k := u - (512 * (hh - 1) + 64 * (w - 1))) (by omega) (by omega) (by omega)
        unfold vG
        rw [p1, p2, p3, z1, z2]
        exact decide_eq_false (by omega)
    · obtain ⟨p1, p2, p3, p4⟩ := pos_u (w := w) (hh := hh) (c := kw κ * top + left) hw (by omega) hh1 (by omega) (by omega)
      obtain ⟨z1, z2⟩ := wc_dm (W := kw κ) (r := top) (c := left) (by omega)
      have hlt : kw κ * top + left < kw κ * kh κ := by
        have : kw κ * (top + 1) ≤ kw κ * kh κ := Nat.mul_le_mul_left _ (by omega)
        rw [Nat.mul_succ] at this
        omega
      have o := c_allow_l k C1 (top := top) (left := left) (w := w) (hh := hh) (by omega) (by omega) (by omega) (by omega) (kn κ) 0 qm_N (by omega) (by unfold qm_N; omega)
      rw [Nat.mul_zero] at o
      have ev : vG κ (512 * (hh - 1) + 64 * (w - 1) + (kw κ * top + left)) = true := by
        unfold vG
        rw [p1, p2, p3, z1, z2]
        exact decide_eq_true (by omega)
      have es : soG κ (512 * (hh - 1) + 64 * (w - 1) + (kw κ * top + left)) = al (soV κ top left w hh) (kn κ) 0 := by
        unfold soG
        rw [p1, p2, p3, z1, z2]
      have ei : ∀ x y, inG κ (512 * (hh - 1) + 64 * (w - 1) + (kw κ * top + left)) x y = decide (left ≤ x ∧ x < left + w ∧ top ≤ y ∧ y < top + hh) := fun x y => by
        unfold inG
        rw [p1, p2, p3, z1, z2]
      have ef : fG κ (512 * (hh - 1) + 64 * (w - 1) + (kw κ * top + left)) = al (soV κ top left w hh) (kn κ) 0 := by
        unfold fG
        rw [ev, es, Bool.true_and]
      obtain ⟨s1, s2, s3, s4, s5⟩ := S
      generalize hU : 512 * (hh - 1) + 64 * (w - 1) + (kw κ * top + left) = U at *
      have hU1 : 512 * (hh - 1) + 64 * (w - 1) + (kw κ * top + (left + 1)) = U + 1 := by omega
      have hN := fb_ct_le (fG κ) U
      have step : ∀ h2, gS κ wt tl (U + 1) h h2 → ∃ h3, qX5_lookAtSize_17 K3 g 60 a (nI w) (nI hh) (nI top) (nI (left + 1)) h2 = K3 60 a (nI w) (nI hh) (nI (top + 1)) h3 ∧ gS κ wt tl (512 * (hh - 1) + 64 * (w - 1) + kw κ * (top + 1)) h h3 := fun h2 S2 => ih (left + 1) h2 g (by omega) (by omega) (by rw [hU1]; exact S2)
      cases qa : al (soV κ top left w hh) (kn κ) 0
      · rw [qa] at o ef
        obtain ⟨h2, e1, e2⟩ := step h1 ⟨s1, by rw [fb_ct_succ, ef]; exact s2, fun u hu hf => s3 u (by
            by_cases y : u = U
            · subst y
              rw [ef] at hf
              cases hf
            · omega) hf, fun y => s4 (fun u hu => y u (by omega)), fun t i hi => by
            rw [fb_ct_succ, ef]
            exact s5 t i hi⟩
        refine ⟨h2, ?_, e2⟩
        unfold qX5_lookAtSize_17 qX1_allow
        simp (disch := omega) only [↓reduceIte, ↓q_m1, ↓q_m2, k_o, k_0, k_1, k_2, k_3, k_4, k_5, k_6, k_7, k_8, k_9, k_10, k_11, k_16, k_17, k_19, k_20, k_24, k_26, k_27, k_30, k_32, k_33, k_35, k_40, k_43, k_48, k_50, k_57, k_60, k_64, k_81, k_86, k_34, k_66, k_322, k_97, k_99, k_100, k_122, k_128, k_160, k_161, k_255, k_256, k_512, k_580, k_600, k_1000, k_4096, k_far, k_o, nI_add, n_mul, n_sub, n_div, n_rem, n_lt, n_le, n_eq, n_cl, n_and, n_or, n_xor, m1_lt, lt_m1, m1_eq, eq_m1, le_m1, m1_le, m2_eq, up_eq, up_ne, n_shl, n_shr, b2_some, let_e, ob_some, bI_0, bI_a, bI_t, bI_f, if_true, if_false, ite_true, ite_false, true_and, and_true, false_and, and_false, true_or, or_true, false_or, or_false, not_true_eq_false, not_false_eq_true, ite_not, ne_eq, Bool.true_eq_false, Bool.false_eq_true, reduceCtorEq, decide_true, decide_false, Bool.and_true, Bool.and_false, Bool.true_and, Bool.false_and, Bool.or_true, Bool.or_false, Bool.not_true, Bool.not_false, Nat.add_zero, Nat.zero_add, eq_self, Nat.not_lt_zero, Nat.reduceAdd, Nat.reduceMul, Nat.reduceSub, Nat.reduceDiv, Nat.reduceMod, Nat.reduceAnd, Nat.reduceXor, Nat.reduceEqDiff, Nat.reducePow, lt_T, lt_F, le_T, le_F, eq_F, C1.1, o]
        exact e1
      · rw [qa] at o ef
        have g2 : h1.1 60 2 = wt := by rw [(s1 60 2 (by omega)).1]; exact hwt
        have g4 : h1.1 60 4 = bI tl := by rw [(s1 60 4 (by omega)).1]; exact htl
        have hNU : fb_ct (fG κ) U < 2147483648 := by omega
        -- what is found
        have found : ∀ hx : qm_H, qFr (fun a k => (a = 60 ∧ (k = 1 ∨ k = 3)) ∨ a = 61) h hx → hx.1 60 1 = nI (fb_ct (fG κ) U) → (∀ i, hx.1 61 i = h1.1 61 i) → hx.1 60 3 = (if nI (fb_ct (fG κ) U) = wt then nI U else h1.1 60 3) → ∃ h3, qX5_lookAtSize_85 K3 (qX5_lookAtSize_17 K3 g) 60 a (nI w) (nI hh) (nI top) (nI left) (nI (kw κ * top + left)) hx = K3 60 a (nI w) (nI hh) (nI (top + 1)) h3 ∧ gS κ wt tl (512 * (hh - 1) + 64 * (w - 1) + kw κ * (top + 1)) h h3 := by
          intro hx fx n1 tx f3
          have x4 : hx.1 60 4 = bI tl := by rw [(fx 60 4 (by omega)).1]; exact htl
          have xa : hx.1 a 1 = nI (kw κ) := by rw [(fx a 1 (by omega)).1]; exact C.1
          have fy : qFr (fun a k => (a = 60 ∧ (k = 1 ∨ k = 3)) ∨ a = 61) h (qm_seti hx 60 1 (nI (fb_ct (fG κ) U + 1))) := fx.trans (qFr.seti (Or.inl ⟨rfl, Or.inl rfl⟩))
          have mk : ∀ hy : qm_H, qFr (fun a _ => a = 61) (qm_seti hx 60 1 (nI (fb_ct (fG κ) U + 1))) hy → (tl = true → ∀ i, i < 64 → hy.1 61 i = nI (fb_ct (fun u => fG κ u && inG κ u (i % kw κ) (i / kw κ)) (U + 1))) → gS κ wt tl (U + 1) h hy := by
            intro hy fz tz
            have y3 : hy.1 60 3 = (if nI (fb_ct (fG κ) U) = wt then nI U else h1.1 60 3) := by
              rw [(fz 60 3 (by omega)).1, sI_ne (by omega)]
              exact f3
            refine ⟨fy.trans (fz.mono (fun a q z => Or.inr z)), ?_, fun u hu hf hw => ?_, fun y => ?_, tz⟩
            · rw [(fz 60 1 (by omega)).1, sI_eq, fb_ct_succ, ef]
              rfl
            · rw [y3]
              by_cases z : u = U
              · subst z
                rw [if_pos hw]
              · have hu2 : u < U := by omega
                rw [if_neg, s3 u hu2 hf hw]
                intro e
                rw [← hw, n_eq hNU (by have := fb_ct_le (fG κ) u; omega)] at e
                have := fb_ct_kth_one (p := fG κ) ef hf e
                omega
            · rw [y3, if_neg (y U (by omega) ef)]
              exact s4 (fun u hu => y u (by omega))
          unfold qX5_lookAtSize_85
          cases tl with
          | false =>
            obtain ⟨h3, e1, e2⟩ := step _ (mk _ (qFr.refl _ _) (fun t => by cases t))
            refine ⟨h3, ?_, e2⟩
            simp (disch := omega) only [↓reduceIte, ↓q_m1, ↓q_m2, k_o, k_0, k_1, k_2, k_3, k_4, k_5, k_6, k_7, k_8, k_9, k_10, k_11, k_16, k_17, k_19, k_20, k_24, k_26, k_27, k_30, k_32, k_33, k_35, k_40, k_43, k_48, k_50, k_57, k_60, k_64, k_81, k_86, k_34, k_66, k_322, k_97, k_99, k_100, k_122, k_128, k_160, k_161, k_255, k_256, k_512, k_580, k_600, k_1000, k_4096, k_far, k_o, nI_add, n_mul, n_sub, n_div, n_rem, n_lt, n_le, n_eq, n_cl, n_and, n_or, n_xor, m1_lt, lt_m1, m1_eq, eq_m1, le_m1, m1_le, m2_eq, up_eq, up_ne, n_shl, n_shr, b2_some, let_e, ob_some, bI_0, bI_a, bI_t, bI_f, if_true, if_false, ite_true, ite_false, true_and, and_true, false_and, and_false, true_or, or_true, false_or, or_false, not_true_eq_false, not_false_eq_true, ite_not, ne_eq, Bool.true_eq_false, Bool.false_eq_true, reduceCtorEq, decide_true, decide_false, Bool.and_true, Bool.and_false, Bool.true_and, Bool.false_and, Bool.or_true, Bool.or_false, Bool.not_true, Bool.not_false, Nat.add_zero, Nat.zero_add, eq_self, Nat.not_lt_zero, Nat.reduceAdd, Nat.reduceMul, Nat.reduceSub, Nat.reduceDiv, Nat.reduceMod, Nat.reduceAnd, Nat.reduceXor, Nat.reduceEqDiff, Nat.reducePow, lt_T, lt_F, le_T, le_F, eq_F, n1, x4]
            exact e1
          | true =>
            obtain ⟨hy, t1, t2, t3⟩ := c_tally (W := kw κ) (H := kh κ) (top := top) (left := left) (w := w) (hh := hh) (T := fun i => fb_ct (fun u => fG κ u && inG κ u (i % kw κ) (i / kw κ)) U) (h1 := qm_seti hx 60 1 (nI (fb_ct (fG κ) U + 1))) k1 k2 k4 (by omega) ht (fun i hi => by
              rw [sI_ne (by omega), tx i]
              exact s5 rfl i hi)
            obtain ⟨h3, e1, e2⟩ := step hy (mk _ t2 (fun t i hi => by
              rw [t3 i hi, fb_ct_succ, ef, ei, Bool.true_and]))
            refine ⟨h3, ?_, e2⟩
            simp (disch := omega) only [↓reduceIte, ↓q_m1, ↓q_m2, k_o, k_0, k_1, k_2, k_3, k_4, k_5, k_6, k_7, k_8, k_9, k_10, k_11, k_16, k_17, k_19, k_20, k_24, k_26, k_27, k_30, k_32, k_33, k_35, k_40, k_43, k_48, k_50, k_57, k_60, k_64, k_81, k_86, k_34, k_66, k_322, k_97, k_99, k_100, k_122, k_128, k_160, k_161, k_255, k_256, k_512, k_580, k_600, k_1000, k_4096, k_far, k_o, nI_add, n_mul, n_sub, n_div, n_rem, n_lt, n_le, n_eq, n_cl, n_and, n_or, n_xor, m1_lt, lt_m1, m1_eq, eq_m1, le_m1, m1_le, m2_eq, up_eq, up_ne, n_shl, n_shr, b2_some, let_e, ob_some, bI_0, bI_a, bI_t, bI_f, if_true, if_false, ite_true, ite_false, true_and, and_true, false_and, and_false, true_or, or_true, false_or, or_false, not_true_eq_false, not_false_eq_true, ite_not, ne_eq, Bool.true_eq_false, Bool.false_eq_true, reduceCtorEq, decide_true, decide_false, Bool.and_true, Bool.and_false, Bool.true_and, Bool.false_and, Bool.or_true, Bool.or_false, Bool.not_true, Bool.not_false, Nat.add_zero, Nat.zero_add, eq_self, Nat.not_lt_zero, Nat.reduceAdd, Nat.reduceMul, Nat.reduceSub, Nat.reduceDiv, Nat.reduceMod, Nat.reduceAnd, Nat.reduceXor, Nat.reduceEqDiff, Nat.reducePow, lt_T, lt_F, le_T, le_F, eq_F, n1, x4, xa, t1]
            exact e1
        unfold qX5_lookAtSize_17 qX1_allow
        by_cases z : nI (fb_ct (fG κ) U) = wt
        · obtain ⟨h3, e1, e2⟩ := found (qm_seti h1 60 3 (nI U)) (s1.trans (qFr.seti (Or.inl ⟨rfl, Or.inr rfl⟩))) (by rw [sI_ne (by omega)]; exact s2) (fun i => sI_ne (by omega)) (by rw [sI_eq, if_pos z])
          refine ⟨h3, ?_, e2⟩
          simp (disch := omega) only [↓reduceIte, ↓q_m1, ↓q_m2, k_o, k_0, k_1, k_2, k_3, k_4, k_5, k_6, k_7, k_8, k_9, k_10, k_11, k_16, k_17, k_19, k_20, k_24, k_26, k_27, k_30, k_32, k_33, k_35, k_40, k_43, k_48, k_50, k_57, k_60, k_64, k_81, k_86, k_34, k_66, k_322, k_97, k_99, k_100, k_122, k_128, k_160, k_161, k_255, k_256, k_512, k_580, k_600, k_1000, k_4096, k_far, k_o, nI_add, n_mul, n_sub, n_div, n_rem, n_lt, n_le, n_eq, n_cl, n_and, n_or, n_xor, m1_lt, lt_m1, m1_eq, eq_m1, le_m1, m1_le, m2_eq, up_eq, up_ne, n_shl, n_shr, b2_some, let_e, ob_some, bI_0, bI_a, bI_t, bI_f, if_true, if_false, ite_true, ite_false, true_and, and_true, false_and, and_false, true_or, or_true, false_or, or_false, not_true_eq_false, not_false_eq_true, ite_not, ne_eq, Bool.true_eq_false, Bool.false_eq_true, reduceCtorEq, decide_true, decide_false, Bool.and_true, Bool.and_false, Bool.true_and, Bool.false_and, Bool.or_true, Bool.or_false, Bool.not_true, Bool.not_false, Nat.add_zero, Nat.zero_add, eq_self, Nat.not_lt_zero, Nat.reduceAdd, Nat.reduceMul, Nat.reduceSub, Nat.reduceDiv, Nat.reduceMod, Nat.reduceAnd, Nat.reduceXor, Nat.reduceEqDiff, Nat.reducePow, lt_T, lt_F, le_T, le_F, eq_F, C1.1, o, s2, g2, eq_true z, hU]
          exact e1
        · obtain ⟨h3, e1, e2⟩ := found h1 s1 s2 (fun i => rfl) (by rw [if_neg z])
          refine ⟨h3, ?_, e2⟩
          simp (disch := omega) only [↓reduceIte, ↓q_m1, ↓q_m2, k_o, k_0, k_1, k_2, k_3, k_4, k_5, k_6, k_7, k_8, k_9, k_10, k_11, k_16, k_17, k_19, k_20, k_24, k_26, k_27, k_30, k_32, k_33, k_35, k_40, k_43, k_48, k_50, k_57, k_60, k_64, k_81, k_86, k_34, k_66, k_322, k_97, k_99, k_100, k_122, k_128, k_160, k_161, k_255, k_256, k_512, k_580, k_600, k_1000, k_4096, k_far, k_o, nI_add, n_mul, n_sub, n_div, n_rem, n_lt, n_le, n_eq, n_cl, n_and, n_or, n_xor, m1_lt, lt_m1, m1_eq, eq_m1, le_m1, m1_le, m2_eq, up_eq, up_ne, n_shl, n_shr, b2_some, let_e, ob_some, bI_0, bI_a, bI_t, bI_f, if_true, if_false, ite_true, ite_false, true_and, and_true, false_and, and_false, true_or, or_true, false_or, or_false, not_true_eq_false, not_false_eq_true, ite_not, ne_eq, Bool.true_eq_false, Bool.false_eq_true, reduceCtorEq, decide_true, decide_false, Bool.and_true, Bool.and_false, Bool.true_and, Bool.false_and, Bool.or_true, Bool.or_false, Bool.not_true, Bool.not_false, Nat.add_zero, Nat.zero_add, eq_self, Nat.not_lt_zero, Nat.reduceAdd, Nat.reduceMul, Nat.reduceSub, Nat.reduceDiv, Nat.reduceMod, Nat.reduceAnd, Nat.reduceXor, Nat.reduceEqDiff, Nat.reducePow, lt_T, lt_F, le_T, le_F, eq_F, C1.1, o, s2, g2, z]
          exact e1
theorem c_las3 (k : kOK κ) (C : kC a κ h) (ha : a + 1 < 60) (hwt : h.1 60 2 = wt) (htl : h.1 60 4 = bI tl) {w hh : Nat} (hw : 1 ≤ w) (hw2 : w ≤ kw κ) (hh1 : 1 ≤ hh) (hh2 : hh ≤ kh κ) : ∀ d top h1 fuel, top + d = kh κ → d < fuel → gS κ wt tl (512 * (hh - 1) + 64 * (w - 1) + kw κ * top) h h1 → ∃ h2, qX5_lookAtSize_3 fuel 60 a (nI w) (nI hh) (nI top) h1 = some h2 ∧ gS κ wt tl (512 * (hh - 1) + 64 * w) h h2 := by
  have k' := k
  obtain ⟨k1, k2, k3, k4, k5, k6⟩ := k'
  have done : ∀ top h1 fuel, top ≤ kh κ → 0 < fuel → kh κ < top + hh → gS κ wt tl (512 * (hh - 1) + 64 * (w - 1) + kw κ * top) h h1 → ∃ h2, qX5_lookAtSize_3 fuel 60 a (nI w) (nI hh) (nI top) h1 = some h2 ∧ gS κ wt tl (512 * (hh - 1) + 64 * w) h h2 := by
    intro top h1 fuel ht hf q S
    obtain ⟨g, rfl⟩ : ∃ g, fuel = g + 1 := ⟨fuel - 1, by omega⟩
    have C1 : kC a κ h1 := C.mv (fun q r _ _ => (S.1 q r (by omega)).1)
    have hb : kw κ * top ≤ 8 * 8 := Nat.mul_le_mul (by omega) (by omega)
    refine ⟨h1, ?_, S.skip (by omega) (fun u hu1 hu2 => ?_)⟩
    · unfold qX5_lookAtSize_3
      simp (disch := omega) only [↓reduceIte, ↓q_m1, ↓q_m2, k_o, k_0, k_1, k_2, k_3, k_4, k_5, k_6, k_7, k_8, k_9, k_10, k_11, k_16, k_17, k_19, k_20, k_24, k_26, k_27, k_30, k_32, k_33, k_35, k_40, k_43, k_48, k_50, k_57, k_60, k_64, k_81, k_86, k_34, k_66, k_322, k_97, k_99, k_100, k_122, k_128, k_160, k_161, k_255, k_256, k_512, k_580, k_600, k_1000, k_4096, k_far, k_o, nI_add, n_mul, n_sub, n_div, n_rem, n_lt, n_le, n_eq, n_cl, n_and, n_or, n_xor, m1_lt, lt_m1, m1_eq, eq_m1, le_m1, m1_le, m2_eq, up_eq, up_ne, n_shl, n_shr, b2_some, let_e, ob_some, bI_0, bI_a, bI_t, bI_f, if_true, if_false, ite_true, ite_false, true_and, and_true, false_and, and_false, true_or, or_true, false_or, or_false, not_true_eq_false, not_false_eq_true, ite_not, ne_eq, Bool.true_eq_false, Bool.false_eq_true, reduceCtorEq, decide_true, decide_false, Bool.and_true, Bool.and_false, Bool.true_and, Bool.false_and, Bool.or_true, Bool.or_false, Bool.not_true, Bool.not_false, Nat.add_zero, Nat.zero_add, eq_self, Nat.not_lt_zero, Nat.reduceAdd, Nat.reduceMul, Nat.reduceSub, Nat.reduceDiv, Nat.reduceMod, Nat.reduceAnd, Nat.reduceXor, Nat.reduceEqDiff, Nat.reducePow, lt_T, lt_F, le_T, le_F, eq_F, C1.2.1]
    · obtain ⟨p1, p2, p3, p4⟩ := pos_u (w := w) (hh := hh) (c := u - (512 * (hh - 1) + 64 * (w - 1))) hw (by omega) hh1 (by omega) (by omega)
      rw [show 512 * (hh - 1) + 64 * (w - 1) + (u - (512 * (hh - 1) + 64 * (w - 1))) = u by omega] at p1 p2 p3 p4
      have hd : top ≤ (u - (512 * (hh - 1) + 64 * (w - 1))) / kw κ := (Nat.le_div_iff_mul_le (by omega)).mpr (by rw [Nat.mul_comm]; omega)
      unfold vG
      rw [p1, p2, p3]
      exact decide_eq_false (by omega)
  intro d
  induction d with
  | zero =>
    intro top h1 fuel ht hf S
    exact done top h1 fuel (by omega) (by omega) (by omega) S
  | succ d ih =>
    intro top h1 fuel ht hf S
    by_cases q : kh κ < top + hh
    · exact done top h1 fuel (by omega) (by omega) q S
    · obtain ⟨g, rfl⟩ : ∃ g, fuel = g + 1 := ⟨fuel - 1, by omega⟩
      have C1 : kC a κ h1 := C.mv (fun q r _ _ => (S.1 q r (by omega)).1)
      obtain ⟨h2, e1, e2⟩ := c_las17 k C ha hwt htl hw hw2 hh1 (top := top) (by omega) (qX5_lookAtSize_3 g) (kw κ) 0 h1 qm_N (by omega) (by unfold qm_N; omega) (by rw [Nat.add_zero]; exact S)
      obtain ⟨h3, e3, e4⟩ := ih (top + 1) h2 g (by omega) (by omega) e2
      refine ⟨h3, ?_, e4⟩
      unfold qX5_lookAtSize_3
      simp (disch := omega) only [↓reduceIte, ↓q_m1, ↓q_m2, k_o, k_0, k_1, k_2, k_3, k_4, k_5, k_6, k_7, k_8, k_9, k_10, k_11, k_16, k_17, k_19, k_20, k_24, k_26, k_27, k_30, k_32, k_33, k_35, k_40, k_43, k_48, k_50, k_57, k_60, k_64, k_81, k_86, k_34, k_66, k_322, k_97, k_99, k_100, k_122, k_128, k_160, k_161, k_255, k_256, k_512, k_580, k_600, k_1000, k_4096, k_far, k_o, nI_add, n_mul, n_sub, n_div, n_rem, n_lt, n_le, n_eq, n_cl, n_and, n_or, n_xor, m1_lt, lt_m1, m1_eq, eq_m1, le_m1, m1_le, m2_eq, up_eq, up_ne, n_shl, n_shr, b2_some, let_e, ob_some, bI_0, bI_a, bI_t, bI_f, if_true, if_false, ite_true, ite_false, true_and, and_true, false_and, and_false, true_or, or_true, false_or, or_false, not_true_eq_false, not_false_eq_true, ite_not, ne_eq, Bool.true_eq_false, Bool.false_eq_true, reduceCtorEq, decide_true, decide_false, Bool.and_true, Bool.and_false, Bool.true_and, Bool.false_and, Bool.or_true, Bool.or_false, Bool.not_true, Bool.not_false, Nat.add_zero, Nat.zero_add, eq_self, Nat.not_lt_zero, Nat.reduceAdd, Nat.reduceMul, Nat.reduceSub, Nat.reduceDiv, Nat.reduceMod, Nat.reduceAnd, Nat.reduceXor, Nat.reduceEqDiff, Nat.reducePow, lt_T, lt_F, le_T, le_F, eq_F, C1.2.1]
      rw [e1]
      exact e3
theorem c_look59 (k : kOK κ) (C : kC a κ h) (ha : a + 1 < 60) (hwt : h.1 60 2 = wt) (htl : h.1 60 4 = bI tl) {hh : Nat} (hh1 : 1 ≤ hh) (hh2 : hh ≤ kh κ) (K : Nat → Nat → Int32 → qm_H → Option qm_H) : ∀ d w h1 fuel, w + d = kw κ → d < fuel → gS κ wt tl (512 * (hh - 1) + 64 * w) h h1 → ∃ h2, qX5_look_59 K fuel 60 a (nI hh) (nI (w + 1)) h1 = K 60 a (nI (hh + 1)) h2 ∧ gS κ wt tl (512 * hh) h h2 := by
  have k' := k
  obtain ⟨k1, k2, k3, k4, k5, k6⟩ := k'
  intro d
  induction d with
  | zero =>
    intro w h1 fuel hw hf S
    obtain ⟨g, rfl⟩ : ∃ g, fuel = g + 1 := ⟨fuel - 1, by omega⟩
    have C1 : kC a κ h1 := C.mv (fun q r _ _ => (S.1 q r (by omega)).1)
    refine ⟨h1, ?_, S.skip (by omega) (fun u hu1 hu2 => ?_)⟩
    · unfold qX5_look_59
      simp (disch := omega) only [↓reduceIte, ↓q_m1, ↓q_m2, k_o, k_0, k_1, k_2, k_3, k_4, k_5, k_6, k_7, k_8, k_9, k_10, k_11, k_16, k_17, k_19, k_20, k_24, k_26, k_27, k_30, k_32, k_33, k_35, k_40, k_43, k_48, k_50, k_57, k_60, k_64, k_81, k_86, k_34, k_66, k_322, k_97, k_99, k_100, k_122, k_128, k_160, k_161, k_255, k_256, k_512, k_580, k_600, k_1000, k_4096, k_far, k_o, nI_add, n_mul, n_sub, n_div, n_rem, n_lt, n_le, n_eq, n_cl, n_and, n_or, n_xor, m1_lt, lt_m1, m1_eq, eq_m1, le_m1, m1_le, m2_eq, up_eq, up_ne, n_shl, n_shr, b2_some, let_e, ob_some, bI_0, bI_a, bI_t, bI_f, if_true, if_false, ite_true, ite_false, true_and, and_true, false_and, and_false, true_or, or_true, false_or, or_false, not_true_eq_false, not_false_eq_true, ite_not, ne_eq, Bool.true_eq_false, Bool.false_eq_true, reduceCtorEq, decide_true, decide_false, Bool.and_true, Bool.and_false, Bool.true_and, Bool.false_and, Bool.or_true, Bool.or_false, Bool.not_true, Bool.not_false, Nat.add_zero, Nat.zero_add, eq_self, Nat.not_lt_zero, Nat.reduceAdd, Nat.reduceMul, Nat.reduceSub, Nat.reduceDiv, Nat.reduceMod, Nat.reduceAnd, Nat.reduceXor, Nat.reduceEqDiff, Nat.reducePow, lt_T, lt_F, le_T, le_F, eq_F, C1.1]
    · unfold vG gWd
      exact decide_eq_false (by omega)
  | succ d ih =>
    intro w h1 fuel hw hf S
    obtain ⟨g, rfl⟩ : ∃ g, fuel = g + 1 := ⟨fuel - 1, by omega⟩
    have C1 : kC a κ h1 := C.mv (fun q r _ _ => (S.1 q r (by omega)).1)
    obtain ⟨h2, e1, e2⟩ := c_las3 k C ha hwt htl (w := w + 1) (hh := hh) (by omega) (by omega) hh1 hh2 (kh κ) 0 h1 qm_N (by omega) (by unfold qm_N; omega) (by rw [Nat.mul_zero, Nat.add_zero, Nat.add_sub_cancel]; exact S)
    obtain ⟨h3, e3, e4⟩ := ih (w + 1) h2 g (by omega) (by omega) e2
    refine ⟨h3, ?_, e4⟩
    unfold qX5_look_59 qX5_lookAtSize
    simp (disch := omega) only [↓reduceIte, ↓q_m1, ↓q_m2, k_o, k_0, k_1, k_2, k_3, k_4, k_5, k_6, k_7, k_8, k_9, k_10, k_11, k_16, k_17, k_19, k_20, k_24, k_26, k_27, k_30, k_32, k_33, k_35, k_40, k_43, k_48, k_50, k_57, k_60, k_64, k_81, k_86, k_34, k_66, k_322, k_97, k_99, k_100, k_122, k_128, k_160, k_161, k_255, k_256, k_512, k_580, k_600, k_1000, k_4096, k_far, k_o, nI_add, n_mul, n_sub, n_div, n_rem, n_lt, n_le, n_eq, n_cl, n_and, n_or, n_xor, m1_lt, lt_m1, m1_eq, eq_m1, le_m1, m1_le, m2_eq, up_eq, up_ne, n_shl, n_shr, b2_some, let_e, ob_some, bI_0, bI_a, bI_t, bI_f, if_true, if_false, ite_true, ite_false, true_and, and_true, false_and, and_false, true_or, or_true, false_or, or_false, not_true_eq_false, not_false_eq_true, ite_not, ne_eq, Bool.true_eq_false, Bool.false_eq_true, reduceCtorEq, decide_true, decide_false, Bool.and_true, Bool.and_false, Bool.true_and, Bool.false_and, Bool.or_true, Bool.or_false, Bool.not_true, Bool.not_false, Nat.add_zero, Nat.zero_add, eq_self, Nat.not_lt_zero, Nat.reduceAdd, Nat.reduceMul, Nat.reduceSub, Nat.reduceDiv, Nat.reduceMod, Nat.reduceAnd, Nat.reduceXor, Nat.reduceEqDiff, Nat.reducePow, lt_T, lt_F, le_T, le_F, eq_F, C1.1]
    rw [e1]
    exact e3
theorem c_look47 (k : kOK κ) (C : kC a κ h) (ha : a + 1 < 60) (hwt : h.1 60 2 = wt) (htl : h.1 60 4 = bI tl) : ∀ d hh h1 fuel, hh + d = kh κ → d < fuel → gS κ wt tl (512 * hh) h h1 → ∃ h2, qX5_look_47 fuel 60 a (nI (hh + 1)) h1 = some h2 ∧ gS κ wt tl 4096 h h2 := by
  have k' := k
  obtain ⟨k1, k2, k3, k4, k5, k6⟩ := k'
  intro d
  induction d with
  | zero =>
    intro hh h1 fuel hw hf S
    obtain ⟨g, rfl⟩ : ∃ g, fuel = g + 1 := ⟨fuel - 1, by omega⟩
    have C1 : kC a κ h1 := C.mv (fun q r _ _ => (S.1 q r (by omega)).1)
    refine ⟨h1, ?_, S.skip (by omega) (fun u hu1 hu2 => ?_)⟩
    · unfold qX5_look_47
      simp (disch := omega) only [↓reduceIte, ↓q_m1, ↓q_m2, k_o, k_0, k_1, k_2, k_3, k_4, k_5, k_6, k_7, k_8, k_9, k_10, k_11, k_16, k_17, k_19, k_20, k_24, k_26, k_27, k_30, k_32, k_33, k_35, k_40, k_43, k_48, k_50, k_57, k_60, k_64, k_81, k_86, k_34, k_66, k_322, k_97, k_99, k_100, k_122, k_128, k_160, k_161, k_255, k_256, k_512, k_580, k_600, k_1000, k_4096, k_far, k_o, nI_add, n_mul, n_sub, n_div, n_rem, n_lt, n_le, n_eq, n_cl, n_and, n_or, n_xor, m1_lt, lt_m1, m1_eq, eq_m1, le_m1, m1_le, m2_eq, up_eq, up_ne, n_shl, n_shr, b2_some, let_e, ob_some, bI_0, bI_a, bI_t, bI_f, if_true, if_false, ite_true, ite_false, true_and, and_true, false_and, and_false, true_or, or_true, false_or, or_false, not_true_eq_false, not_false_eq_true, ite_not, ne_eq, Bool.true_eq_false, Bool.false_eq_true, reduceCtorEq, decide_true, decide_false, Bool.and_true, Bool.and_false, Bool.true_and, Bool.false_and, Bool.or_true, Bool.or_false, Bool.not_true, Bool.not_false, Nat.add_zero, Nat.zero_add, eq_self, Nat.not_lt_zero, Nat.reduceAdd, Nat.reduceMul, Nat.reduceSub, Nat.reduceDiv, Nat.reduceMod, Nat.reduceAnd, Nat.reduceXor, Nat.reduceEqDiff, Nat.reducePow, lt_T, lt_F, le_T, le_F, eq_F, C1.2.1]
    · unfold vG gHt
      exact decide_eq_false (by omega)
  | succ d ih =>
    intro hh h1 fuel hw hf S
    obtain ⟨g, rfl⟩ : ∃ g, fuel = g + 1 := ⟨fuel - 1, by omega⟩
    have C1 : kC a κ h1 := C.mv (fun q r _ _ => (S.1 q r (by omega)).1)
    obtain ⟨h2, e1, e2⟩ := c_look59 k C ha hwt htl (hh := hh + 1) (by omega) (by omega) (qX5_look_47 g) (kw κ) 0 h1 qm_N (by omega) (by unfold qm_N; omega) (by rw [Nat.mul_zero, Nat.add_zero, Nat.add_sub_cancel]; exact S)
    obtain ⟨h3, e3, e4⟩ := ih (hh + 1) h2 g (by omega) (by omega) e2
    refine ⟨h3, ?_, e4⟩
    rw [Nat.zero_add] at e1
    unfold qX5_look_47
    simp (disch := omega) only [↓reduceIte, ↓q_m1, ↓q_m2, k_o, k_0, k_1, k_2, k_3, k_4, k_5, k_6, k_7, k_8, k_9, k_10, k_11, k_16, k_17, k_19, k_20, k_24, k_26, k_27, k_30, k_32, k_33, k_35, k_40, k_43, k_48, k_50, k_57, k_60, k_64, k_81, k_86, k_34, k_66, k_322, k_97, k_99, k_100, k_122, k_128, k_160, k_161, k_255, k_256, k_512, k_580, k_600, k_1000, k_4096, k_far, k_o, nI_add, n_mul, n_sub, n_div, n_rem, n_lt, n_le, n_eq, n_cl, n_and, n_or, n_xor, m1_lt, lt_m1, m1_eq, eq_m1, le_m1, m1_le, m2_eq, up_eq, up_ne, n_shl, n_shr, b2_some, let_e, ob_some, bI_0, bI_a, bI_t, bI_f, if_true, if_false, ite_true, ite_false, true_and, and_true, false_and, and_false, true_or, or_true, false_or, or_false, not_true_eq_false, not_false_eq_true, ite_not, ne_eq, Bool.true_eq_false, Bool.false_eq_true, reduceCtorEq, decide_true, decide_false, Bool.and_true, Bool.and_false, Bool.true_and, Bool.false_and, Bool.or_true, Bool.or_false, Bool.not_true, Bool.not_false, Nat.add_zero, Nat.zero_add, eq_self, Nat.not_lt_zero, Nat.reduceAdd, Nat.reduceMul, Nat.reduceSub, Nat.reduceDiv, Nat.reduceMod, Nat.reduceAnd, Nat.reduceXor, Nat.reduceEqDiff, Nat.reducePow, lt_T, lt_F, le_T, le_F, eq_F, C1.2.1]
    rw [e1]
    exact e3
theorem c_look23 : ∀ d i h1 fuel, i + d = 64 → d < fuel → qFr (fun q _ => q = 61) h h1 → (∀ j, j < i → h1.1 61 j = nI 0) → ∃ h2, qX5_look_23 fuel 60 a (nI i) h1 = qX5_look_47 qm_N 60 a (nI 1) h2 ∧ qFr (fun q _ => q = 61) h h2 ∧ ∀ j, j < 64 → h2.1 61 j = nI 0 := by
  intro d
  induction d with
  | zero =>
    intro i h1 fuel hi hf F I
    obtain ⟨g, rfl⟩ : ∃ g, fuel = g + 1 := ⟨fuel - 1, by omega⟩
    refine ⟨h1, ?_, F, fun j hj => I j (by omega)⟩
    unfold qX5_look_23
    simp (disch := omega) only [↓reduceIte, ↓q_m1, ↓q_m2, k_o, k_0, k_1, k_2, k_3, k_4, k_5, k_6, k_7, k_8, k_9, k_10, k_11, k_16, k_17, k_19, k_20, k_24, k_26, k_27, k_30, k_32, k_33, k_35, k_40, k_43, k_48, k_50, k_57, k_60, k_64, k_81, k_86, k_34, k_66, k_322, k_97, k_99, k_100, k_122, k_128, k_160, k_161, k_255, k_256, k_512, k_580, k_600, k_1000, k_4096, k_far, k_o, nI_add, n_mul, n_sub, n_div, n_rem, n_lt, n_le, n_eq, n_cl, n_and, n_or, n_xor, m1_lt, lt_m1, m1_eq, eq_m1, le_m1, m1_le, m2_eq, up_eq, up_ne, n_shl, n_shr, b2_some, let_e, ob_some, bI_0, bI_a, bI_t, bI_f, if_true, if_false, ite_true, ite_false, true_and, and_true, false_and, and_false, true_or, or_true, false_or, or_false, not_true_eq_false, not_false_eq_true, ite_not, ne_eq, Bool.true_eq_false, Bool.false_eq_true, reduceCtorEq, decide_true, decide_false, Bool.and_true, Bool.and_false, Bool.true_and, Bool.false_and, Bool.or_true, Bool.or_false, Bool.not_true, Bool.not_false, Nat.add_zero, Nat.zero_add, eq_self, Nat.not_lt_zero, Nat.reduceAdd, Nat.reduceMul, Nat.reduceSub, Nat.reduceDiv, Nat.reduceMod, Nat.reduceAnd, Nat.reduceXor, Nat.reduceEqDiff, Nat.reducePow, lt_T, lt_F, le_T, le_F, eq_F]
  | succ d ih =>
    intro i h1 fuel hi hf F I
    obtain ⟨g, rfl⟩ : ∃ g, fuel = g + 1 := ⟨fuel - 1, by omega⟩
    obtain ⟨h2, e1, e2, e3⟩ := ih (i + 1) (qm_seti h1 61 i (nI 0)) g (by omega) (by omega) (F.trans (qFr.seti rfl)) (fun j hj => by
      by_cases z : j = i
      · subst z
        exact sI_eq _ _ _ _
      · rw [sI_ne (by omega)]
        exact I j (by omega))
    refine ⟨h2, ?_, e2, e3⟩
    unfold qX5_look_23
    simp (disch := omega) only [↓reduceIte, ↓q_m1, ↓q_m2, k_o, k_0, k_1, k_2, k_3, k_4, k_5, k_6, k_7, k_8, k_9, k_10, k_11, k_16, k_17, k_19, k_20, k_24, k_26, k_27, k_30, k_32, k_33, k_35, k_40, k_43, k_48, k_50, k_57, k_60, k_64, k_81, k_86, k_34, k_66, k_322, k_97, k_99, k_100, k_122, k_128, k_160, k_161, k_255, k_256, k_512, k_580, k_600, k_1000, k_4096, k_far, k_o, nI_add, n_mul, n_sub, n_div, n_rem, n_lt, n_le, n_eq, n_cl, n_and, n_or, n_xor, m1_lt, lt_m1, m1_eq, eq_m1, le_m1, m1_le, m2_eq, up_eq, up_ne, n_shl, n_shr, b2_some, let_e, ob_some, bI_0, bI_a, bI_t, bI_f, if_true, if_false, ite_true, ite_false, true_and, and_true, false_and, and_false, true_or, or_true, false_or, or_false, not_true_eq_false, not_false_eq_true, ite_not, ne_eq, Bool.true_eq_false, Bool.false_eq_true, reduceCtorEq, decide_true, decide_false, Bool.and_true, Bool.and_false, Bool.true_and, Bool.false_and, Bool.or_true, Bool.or_false, Bool.not_true, Bool.not_false, Nat.add_zero, Nat.zero_add, eq_self, Nat.not_lt_zero, Nat.reduceAdd, Nat.reduceMul, Nat.reduceSub, Nat.reduceDiv, Nat.reduceMod, Nat.reduceAnd, Nat.reduceXor, Nat.reduceEqDiff, Nat.reducePow, lt_T, lt_F, le_T, le_F, eq_F]
    exact e1
end CG
theorem c_look {κ : qK} {h : qm_H} {a : Nat} (k : kOK κ) (C : kC a κ h) (ha : a + 1 < 60) (wt : Int32) (tl : Bool) : ∃ h2, qX5_look 60 a wt (bI tl) h = some h2 ∧ qFr (fun q _ => q = 60 ∨ q = 61) h h2 ∧ h2.1 60 1 = nI (fb_ct (fG κ) 4096) ∧ (∀ u, u < 4096 → fG κ u = true → nI (fb_ct (fG κ) u) = wt → h2.1 60 3 = nI u) ∧ ((∀ u, u < 4096 → fG κ u = true → nI (fb_ct (fG κ) u) ≠ wt) → h2.1 60 3 = m1) ∧ (tl = true → ∀ i, i < 64 → h2.1 61 i = nI (fb_ct (fun u => fG κ u && inG κ u (i % kw κ) (i / kw κ)) 4096)) := by
  obtain ⟨h1, e1, e2, e3⟩ := c_look23 (a := a) (h := qm_seti (qm_seti (qm_seti (qm_seti h 60 1 (nI 0)) 60 2 wt) 60 3 m1) 60 4 (bI tl)) 64 0 (qm_seti (qm_seti (qm_seti (qm_seti h 60 1 (nI 0)) 60 2 wt) 60 3 m1) 60 4 (bI tl)) qm_N (by omega) (by unfold qm_N; omega) (qFr.refl _ _) (fun j hj => absurd hj (Nat.not_lt_zero j))
  have F1 : qFr (fun q _ => q = 60 ∨ q = 61) h h1 := ((((qFr.seti (Or.inl rfl)).trans (qFr.seti (Or.inl rfl))).trans (qFr.seti (Or.inl rfl))).trans (qFr.seti (Or.inl rfl))).trans (e2.mono (fun q r z => Or.inr z))
  have C1 : kC a κ h1 := C.mv (fun q r _ _ => (F1 q r (by omega)).1)
  have g1 : h1.1 60 1 = nI 0 := by
    rw [(e2 60 1 (by omega)).1, sI_ne (by omega), sI_ne (by omega), sI_ne (by omega), sI_eq]
  have g2 : h1.1 60 2 = wt := by
    rw [(e2 60 2 (by omega)).1, sI_ne (by omega), sI_ne (by omega), sI_eq]
  have g3 : h1.1 60 3 = m1 := by
    rw [(e2 60 3 (by omega)).1, sI_ne (by omega), sI_eq]
  have g4 : h1.1 60 4 = bI tl := by
    rw [(e2 60 4 (by omega)).1, sI_eq]
  have hk := k.2.2.2.1
  obtain ⟨h2, p1, p2, p3, p4, p5, p6⟩ := c_look47 (wt := wt) (tl := tl) k C1 ha g2 g4 (kh κ) 0 h1 qm_N (by omega) (by unfold qm_N; omega) ⟨qFr.refl _ _, g1, fun u hu => absurd hu (by omega), fun _ => g3, fun _ i hi => e3 i hi⟩
  refine ⟨h2, ?_, F1.trans (p2.mono (fun q r z => by omega)), p3, p4, p5, p6⟩
  rw [Nat.zero_add] at p1
  unfold qX5_look
  simp (disch := omega) only [↓reduceIte, ↓q_m1, ↓q_m2, k_o, k_0, k_1, k_2, k_3, k_4, k_5, k_6, k_7, k_8, k_9, k_10, k_11, k_16, k_17, k_19, k_20, k_24, k_26, k_27, k_30, k_32, k_33, k_35, k_40, k_43, k_48, k_50, k_57, k_60, k_64, k_81, k_86, k_34, k_66, k_322, k_97, k_99, k_100, k_122, k_128, k_160, k_161, k_255, k_256, k_512, k_580, k_600, k_1000, k_4096, k_far, k_o, nI_add, n_mul, n_sub, n_div, n_rem, n_lt, n_le, n_eq, n_cl, n_and, n_or, n_xor, m1_lt, lt_m1, m1_eq, eq_m1, le_m1, m1_le, m2_eq, up_eq, up_ne, n_shl, n_shr, b2_some, let_e, ob_some, bI_0, bI_a, bI_t, bI_f, if_true, if_false, ite_true, ite_false, true_and, and_true, false_and, and_false, true_or, or_true, false_or, or_false, not_true_eq_false, not_false_eq_true, ite_not, ne_eq, Bool.true_eq_false, Bool.false_eq_true, reduceCtorEq, decide_true, decide_false, Bool.and_true, Bool.and_false, Bool.true_and, Bool.false_and, Bool.or_true, Bool.or_false, Bool.not_true, Bool.not_false, Nat.add_zero, Nat.zero_add, eq_self, Nat.not_lt_zero, Nat.reduceAdd, Nat.reduceMul, Nat.reduceSub, Nat.reduceDiv, Nat.reduceMod, Nat.reduceAnd, Nat.reduceXor, Nat.reduceEqDiff, Nat.reducePow, lt_T, lt_F, le_T, le_F, eq_F, bI_a]
  rw [e1]
  exact p1
