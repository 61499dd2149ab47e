/-! stout, soft. -/
/-- a BASKET with a ROD or a STAKE thicker by one -/
def bup (β : qB) (t : Nat) : qB := (bw β, bh β, bx β, fun i => if i = t then bT β t + 1 else bT β i, bR β, bO β)
theorem bup_ok {β : qB} (k : bOK β) {t : Nat} (ht : bT β t < 9) : bOK (bup β t) := by
  refine ⟨k.1, k.2.1, k.2.2.1, k.2.2.2.1, k.2.2.2.2.1, fun i hi => ⟨?_, (k.2.2.2.2.2.1 i hi).2⟩, k.2.2.2.2.2.2⟩
  have := (k.2.2.2.2.2.1 i hi).1
  show (if i = t then bT β t + 1 else bT β i) ≤ 9
  split <;> omega
theorem bup_T {β : qB} {t i : Nat} : bT (bup β t) i = if i = t then bT β t + 1 else bT β i := rfl
theorem bC_up {β : qB} {b : Nat} {h : qm_H} (C : bC b β h) {t : Nat} (ht : t < 16) : bC b (bup β t) (qm_seti h (b + 1) t (nI (bT β t + 1))) := by
  obtain ⟨a1, a2, a3, a4, a5⟩ := C
  refine ⟨?_, ?_, ?_, fun i hi => ⟨?_, ?_⟩, a5⟩
  · rw [sI_ne (by omega)]; exact a1
  · rw [sI_ne (by omega)]; exact a2
  · rw [sI_ne (by omega)]; exact a3
  · rw [bup_T]
    by_cases q : i = t
    · subst q
      rw [if_pos rfl, sI_eq]
    · rw [if_neg q, sI_ne (by omega)]
      exact (a4 i hi).1
  · rw [sI_ne (by omega)]
    exact (a4 i hi).2
theorem bM_up {β : qB} {h : qm_H} (M : bM β h) {t : Nat} (ht : t < 16) : bM (bup β t) (qm_seti h 74 t (nI (bT β t + 1))) := by
  obtain ⟨a1, a2, a3, a4, a5, a6⟩ := M
  refine ⟨?_, ?_, ?_, ?_, fun i hi => ⟨?_, ?_⟩, fun r hr => ?_⟩
  · rw [sI_ne (by omega)]; exact a1
  · rw [sI_ne (by omega)]; exact a2
  · rw [sI_ne (by omega)]; exact a3
  · rw [sI_ne (by omega)]; exact a4
  · rw [bup_T]
    by_cases q : i = t
    · subst q
      rw [if_pos rfl, sI_eq]
    · rw [if_neg q, sI_ne (by omega)]
      exact (a5 i hi).1
  · rw [sI_ne (by omega)]
    exact (a5 i hi).2
  · rw [sI_ne (by omega)]
    exact a6 r hr
/-- is there such a ROD, STAKE, and may it grow? -/
def twB (β : qB) (t : Nat) : Bool := (if t < 8 then decide (t < bh β) else decide (t - 8 < bw β)) && decide (bT β t < 9)
def hk (β : qB) (w hh t : Nat) : Option Nat := match twB β t with
  | true => holdV (bup β t) w hh
  | false => none
theorem hk_t {β : qB} {w hh t : Nat} (e : twB β t = true) : hk β w hh t = holdV (bup β t) w hh := by unfold hk; rw [e]
theorem hk_f {β : qB} {w hh t : Nat} (e : twB β t = false) : hk β w hh t = none := by unfold hk; rw [e]
theorem tw_t {β : qB} {t : Nat} (h1 : if t < 8 then t < bh β else t - 8 < bw β) (h2 : bT β t < 9) : twB β t = true := by
  unfold twB
  rw [decide_eq_true h2, Bool.and_true]
  by_cases q : t < 8
  · rw [if_pos q] at h1 ⊢
    exact decide_eq_true h1
  · rw [if_neg q] at h1 ⊢
    exact decide_eq_true h1
theorem tw_f1 {β : qB} {t : Nat} (h1 : ¬ if t < 8 then t < bh β else t - 8 < bw β) : twB β t = false := by
  unfold twB
  by_cases q : t < 8
  · rw [if_pos q] at h1 ⊢
    rw [decide_eq_false h1, Bool.false_and]
  · rw [if_neg q] at h1 ⊢
    rw [decide_eq_false h1, Bool.false_and]
theorem tw_f2 {β : qB} {t : Nat} (h2 : ¬ bT β t < 9) : twB β t = false := by
  unfold twB
  rw [decide_eq_false h2, Bool.and_false]
theorem tw_lt {β : qB} {t : Nat} (h : twB β t = true) : bT β t < 9 := by
  by_cases q : bT β t < 9
  · exact q
  · rw [tw_f2 q] at h
    cases h
theorem c_thicker {β : qB} {b : Nat} {h : qm_H} (k : bOK β) (C : bC b β h) (Z : qZb (b + 3) h) {t w hh : Nat} (ht : t < 16) (hw : 1 ≤ w) (hw2 : w ≤ 8) (hh1 : 1 ≤ hh) (hh2 : hh ≤ 8) : ∃ h2, qX0_holdIfThicker b (nI t) (nI w) (nI hh) h = some (oI (hk β w hh t), h2) ∧ qFr (fun a _ => a = b + 3) h h2 ∧ qZb (b + 3) h2 := by
  have hW := k.W
  have hH := k.H
  have hT := (k.2.2.2.2.2.1 t ht).1
  have o1 := c_hasTwig k C (s := t / 8) (c := t % 8) (by omega) (by omega)
  have eT := (C.2.2.2.1 t ht).1
  have eP : (t % 8 < if t / 8 = 0 then bh β else bw β) ↔ (if t < 8 then t < bh β else t - 8 < bw β) := by
    by_cases z : t < 8
    · rw [if_pos (show t / 8 = 0 by omega), if_pos z, show t % 8 = t by omega]
    · rw [if_neg (show ¬ t / 8 = 0 by omega), if_neg z, show t % 8 = t - 8 by omega]
  unfold qX0_holdIfThicker
  by_cases q1 : t % 8 < if t / 8 = 0 then bh β else bw β
  · rw [decide_eq_true q1] at o1
    by_cases q2 : bT β t < 9
    · rw [hk_t (tw_t (eP.mp q1) q2)]
      have C2 := bC_up C ht
      have Z2 : qZb (b + 3) (qm_seti h (b + 1) t (nI (bT β t + 1))) := fun c hc => by
        rw [sI_ne (by omega), sI_ne (by omega)]
        exact Z c hc
      obtain ⟨h2, p1, p2, p3⟩ := c_holdOf (bup_ok k q2) C2 Z2 hw hw2 hh1 hh2
      have g1 : h2.1 (b + 1) t = nI (bT β t + 1) := by
        rw [(p2 (b + 1) t (by omega)).1, sI_eq]
      refine ⟨qm_seti h2 (b + 1) t (nI (bT β t)), ?_, fun a q hq => ?_, fun c hc => ?_⟩
      · simp (disch := omega) only [↓q_m1, ↓q_m2, k_o, k_0, k_1, k_2, k_3, k_4, k_5, k_6, k_7, k_8, k_9, k_10, k_11, k_16, k_17, k_19, k_20, k_24, k_26, k_27, k_30, k_32, k_33, k_35, k_40, k_43, k_48, k_50, k_57, k_60, k_64, k_81, k_86, k_34, k_66, k_322, k_97, k_99, k_100, k_122, k_128, k_160, k_161, k_255, k_256, k_512, k_580, k_600, k_1000, k_4096, k_far, k_o, nI_add, n_mul, n_sub, n_div, n_rem, n_lt, n_le, n_eq, n_cl, n_and, n_or, n_xor, m1_lt, lt_m1, m1_eq, eq_m1, le_m1, m1_le, m2_eq, up_eq, up_ne, n_shl, n_shr, b2_some, let_e, ob_some, bI_0, bI_a, bI_t, bI_f, if_true, if_false, ite_true, ite_false, true_and, and_true, false_and, and_false, true_or, or_true, false_or, or_false, not_true_eq_false, not_false_eq_true, ite_not, ne_eq, Bool.true_eq_false, Bool.false_eq_true, reduceCtorEq, decide_true, decide_false, Bool.and_true, Bool.and_false, Bool.true_and, Bool.false_and, Bool.or_true, Bool.or_false, Bool.not_true, Bool.not_false, Nat.add_zero, Nat.zero_add, eq_self, Nat.not_lt_zero, Nat.reduceAdd, Nat.reduceMul, Nat.reduceSub, Nat.reduceDiv, Nat.reduceMod, Nat.reduceAnd, Nat.reduceXor, Nat.reduceEqDiff, Nat.reducePow, lt_T, lt_F, le_T, le_F, eq_F, o1, eT, p1, g1, Nat.add_sub_cancel]
      · have := p2 a q hq
        refine ⟨?_, this.2⟩
        by_cases z : a = b + 1 ∧ q = t
        · rw [z.1, z.2, sI_eq]
          exact eT.symm
        · rw [sI_ne z, this.1, sI_ne z]
      · rw [sI_ne (by omega), sI_ne (by omega)]
        exact p3 c hc
    · rw [hk_f (tw_f2 q2)]
      refine ⟨h, ?_, qFr.refl _ _, Z⟩
      simp (disch := omega) only [↓q_m1, ↓q_m2, k_o, k_0, k_1, k_2, k_3, k_4, k_5, k_6, k_7, k_8, k_9, k_10, k_11, k_16, k_17, k_19, k_20, k_24, k_26, k_27, k_30, k_32, k_33, k_35, k_40, k_43, k_48, k_50, k_57, k_60, k_64, k_81, k_86, k_34, k_66, k_322, k_97, k_99, k_100, k_122, k_128, k_160, k_161, k_255, k_256, k_512, k_580, k_600, k_1000, k_4096, k_far, k_o, nI_add, n_mul, n_sub, n_div, n_rem, n_lt, n_le, n_eq, n_cl, n_and, n_or, n_xor, m1_lt, lt_m1, m1_eq, eq_m1, le_m1, m1_le, m2_eq, up_eq, up_ne, n_shl, n_shr, b2_some, let_e, ob_some, bI_0, bI_a, bI_t, bI_f, if_true, if_false, ite_true, ite_false, true_and, and_true, false_and, and_false, true_or, or_true, false_or, or_false, not_true_eq_false, not_false_eq_true, ite_not, ne_eq, Bool.true_eq_false, Bool.false_eq_true, reduceCtorEq, decide_true, decide_false, Bool.and_true, Bool.and_false, Bool.true_and, Bool.false_and, Bool.or_true, Bool.or_false, Bool.not_true, Bool.not_false, Nat.add_zero, Nat.zero_add, eq_self, Nat.not_lt_zero, Nat.reduceAdd, Nat.reduceMul, Nat.reduceSub, Nat.reduceDiv, Nat.reduceMod, Nat.reduceAnd, Nat.reduceXor, Nat.reduceEqDiff, Nat.reducePow, lt_T, lt_F, le_T, le_F, eq_F, o1, eT, oI_n]
  · rw [hk_f (tw_f1 (fun z => q1 (eP.mpr z)))]
    rw [decide_eq_false q1] at o1
    refine ⟨h, ?_, qFr.refl _ _, Z⟩
    simp (disch := omega) only [↓q_m1, ↓q_m2, k_o, k_0, k_1, k_2, k_3, k_4, k_5, k_6, k_7, k_8, k_9, k_10, k_11, k_16, k_17, k_19, k_20, k_24, k_26, k_27, k_30, k_32, k_33, k_35, k_40, k_43, k_48, k_50, k_57, k_60, k_64, k_81, k_86, k_34, k_66, k_322, k_97, k_99, k_100, k_122, k_128, k_160, k_161, k_255, k_256, k_512, k_580, k_600, k_1000, k_4096, k_far, k_o, nI_add, n_mul, n_sub, n_div, n_rem, n_lt, n_le, n_eq, n_cl, n_and, n_or, n_xor, m1_lt, lt_m1, m1_eq, eq_m1, le_m1, m1_le, m2_eq, up_eq, up_ne, n_shl, n_shr, b2_some, let_e, ob_some, bI_0, bI_a, bI_t, bI_f, if_true, if_false, ite_true, ite_false, true_and, and_true, false_and, and_false, true_or, or_true, false_or, or_false, not_true_eq_false, not_false_eq_true, ite_not, ne_eq, Bool.true_eq_false, Bool.false_eq_true, reduceCtorEq, decide_true, decide_false, Bool.and_true, Bool.and_false, Bool.true_and, Bool.false_and, Bool.or_true, Bool.or_false, Bool.not_true, Bool.not_false, Nat.add_zero, Nat.zero_add, eq_self, Nat.not_lt_zero, Nat.reduceAdd, Nat.reduceMul, Nat.reduceSub, Nat.reduceDiv, Nat.reduceMod, Nat.reduceAnd, Nat.reduceXor, Nat.reduceEqDiff, Nat.reducePow, lt_T, lt_F, le_T, le_F, eq_F, o1, oI_n]
/-- the first greatest -/
def bst (f : Nat → Option Nat) : Nat → Nat → Option (Nat × Nat) → Option (Nat × Nat)
  | 0, _, s => s
  | d + 1, i, s => bst f d (i + 1) (match f i with
    | none => s
    | some v => match s with
      | none => some (i, v)
      | some p => if p.2 < v then some (i, v) else some p)
def s1 (s : Option (Nat × Nat)) : Int32 := oI (s.map Prod.fst)
def s2 (s : Option (Nat × Nat)) : Int32 := oI (s.map Prod.snd)
theorem hk_le {β : qB} (k : bOK β) {w hh t v : Nat} (e : hk β w hh t = some v) : v ≤ 1152 := by
  cases q : twB β t with
  | true =>
    rw [hk_t q] at e
    exact holdV_le (bup_ok k (tw_lt q)) e
  | false =>
    rw [hk_f q] at e
    cases e
theorem c_stout_l {β : qB} {b : Nat} {h : qm_H} (k : bOK β) (C : bC b β h) {w hh f : Nat} (hw : 1 ≤ w) (hw2 : w ≤ 8) (hh1 : 1 ≤ hh) (hh2 : hh ≤ 8) (hf : f ≤ 1) : ∀ d i s fuel h1, i + d = 16 → d < fuel → qFr (fun a _ => a = b + 3) h h1 → qZb (b + 3) h1 → (∀ p, s = some p → p.1 < 100 ∧ p.2 ≤ 1152) → ∃ h2, qX11_stout_34 fuel (nI w) (nI hh) (nI f) b (s1 s) (s2 s) (nI i) h1 = some (if f = 0 then s1 (bst (hk β w hh) d i s) else s2 (bst (hk β w hh) d i s), h2) ∧ qFr (fun a _ => a = b + 3) h h2 ∧ qZb (b + 3) h2 := by
  intro d
  induction d with
  | zero =>
    intro i s fuel h1 hi hfu F Z hs
    obtain ⟨g, rfl⟩ : ∃ g, fuel = g + 1 := ⟨fuel - 1, by omega⟩
    refine ⟨h1, ?_, F, Z⟩
    unfold qX11_stout_34
    simp (disch := omega) only [↓q_m1, ↓q_m2, k_o, k_0, k_1, k_2, k_3, k_4, k_5, k_6, k_7, k_8, k_9, k_10, k_11, k_16, k_17, k_19, k_20, k_24, k_26, k_27, k_30, k_32, k_33, k_35, k_40, k_43, k_48, k_50, k_57, k_60, k_64, k_81, k_86, k_34, k_66, k_322, k_97, k_99, k_100, k_122, k_128, k_160, k_161, k_255, k_256, k_512, k_580, k_600, k_1000, k_4096, k_far, k_o, nI_add, n_mul, n_sub, n_div, n_rem, n_lt, n_le, n_eq, n_cl, n_and, n_or, n_xor, m1_lt, lt_m1, m1_eq, eq_m1, le_m1, m1_le, m2_eq, up_eq, up_ne, n_shl, n_shr, b2_some, let_e, ob_some, bI_0, bI_a, bI_t, bI_f, if_true, if_false, ite_true, ite_false, true_and, and_true, false_and, and_false, true_or, or_true, false_or, or_false, not_true_eq_false, not_false_eq_true, ite_not, ne_eq, Bool.true_eq_false, Bool.false_eq_true, reduceCtorEq, decide_true, decide_false, Bool.and_true, Bool.and_false, Bool.true_and, Bool.false_and, Bool.or_true, Bool.or_false, Bool.not_true, Bool.not_false, Nat.add_zero, Nat.zero_add, eq_self, Nat.not_lt_zero, Nat.reduceAdd, Nat.reduceMul, Nat.reduceSub, Nat.reduceDiv, Nat.reduceMod, Nat.reduceAnd, Nat.reduceXor, Nat.reduceEqDiff, Nat.reducePow, lt_T, lt_F, le_T, le_F, eq_F]
    show _ = some (if f = 0 then s1 s else s2 s, h1)
    split <;> rfl
  | succ d ih =>
    intro i s fuel h1 hi hfu F Z hs
    obtain ⟨g, rfl⟩ : ∃ g, fuel = g + 1 := ⟨fuel - 1, by omega⟩
    obtain ⟨h2, o1, o2, o3⟩ := c_thicker k (C.fr F) Z (t := i) (by omega) hw hw2 hh1 hh2
    unfold qX11_stout_34
    simp (disch := omega) only [↓q_m1, ↓q_m2, k_o, k_0, k_1, k_2, k_3, k_4, k_5, k_6, k_7, k_8, k_9, k_10, k_11, k_16, k_17, k_19, k_20, k_24, k_26, k_27, k_30, k_32, k_33, k_35, k_40, k_43, k_48, k_50, k_57, k_60, k_64, k_81, k_86, k_34, k_66, k_322, k_97, k_99, k_100, k_122, k_128, k_160, k_161, k_255, k_256, k_512, k_580, k_600, k_1000, k_4096, k_far, k_o, nI_add, n_mul, n_sub, n_div, n_rem, n_lt, n_le, n_eq, n_cl, n_and, n_or, n_xor, m1_lt, lt_m1, m1_eq, eq_m1, le_m1, m1_le, m2_eq, up_eq, up_ne, n_shl, n_shr, b2_some, let_e, ob_some, bI_0, bI_a, bI_t, bI_f, if_true, if_false, ite_true, ite_false, true_and, and_true, false_and, and_false, true_or, or_true, false_or, or_false, not_true_eq_false, not_false_eq_true, ite_not, ne_eq, Bool.true_eq_false, Bool.false_eq_true, reduceCtorEq, decide_true, decide_false, Bool.and_true, Bool.and_false, Bool.true_and, Bool.false_and, Bool.or_true, Bool.or_false, Bool.not_true, Bool.not_false, Nat.add_zero, Nat.zero_add, eq_self, Nat.not_lt_zero, Nat.reduceAdd, Nat.reduceMul, Nat.reduceSub, Nat.reduceDiv, Nat.reduceMod, Nat.reduceAnd, Nat.reduceXor, Nat.reduceEqDiff, Nat.reducePow, lt_T, lt_F, le_T, le_F, eq_F, o1]
    show ∃ h2, _ = some (if f = 0 then s1 (bst (hk β w hh) d (i + 1) _) else s2 (bst (hk β w hh) d (i + 1) _), h2) ∧ _
    cases q : hk β w hh i with
    | none =>
      have : ¬ s2 s < oI none := by
        cases s with
        | none => exact fun z => absurd z (by decide)
        | some p =>
          show ¬ nI p.2 < m1
          have := (hs p rfl).2
          rw [m1_lt (by omega)]
          exact fun z => z
      rw [if_neg this]
      exact ih (i + 1) s g h2 (by omega) (by omega) (F.trans o2) o3 hs
    | some v =>
      have hv := hk_le k q
      cases s with
      | none =>
        have : s2 none < oI (some v) := by
          show m1 < nI v
          rw [lt_m1 (by omega)]
          trivial
        rw [if_pos this]
        have z := ih (i + 1) (some (i, v)) g h2 (by omega) (by omega) (F.trans o2) o3 (fun p hp => by cases hp; exact ⟨by show i < 100; omega, hv⟩)
        exact z
      | some p =>
        have hp := hs p rfl
        have : (s2 (some p) < oI (some v)) = (p.2 < v) := by
          show (nI p.2 < nI v) = _
          rw [n_lt (by omega) (by omega)]
        simp only [this]
        by_cases z : p.2 < v
        · simp only [z, if_true]
          exact ih (i + 1) (some (i, v)) g h2 (by omega) (by omega) (F.trans o2) o3 (fun p hp => by cases hp; exact ⟨by show i < 100; omega, hv⟩)
        · simp only [z, if_false]
          exact ih (i + 1) (some p) g h2 (by omega) (by omega) (F.trans o2) o3 hs
theorem m_holdOf {β : qB} {h : qm_H} (k : bOK β) (M : bM β h) {w hh : Nat} (hw : 1 ≤ w) (hw2 : w ≤ bw β) (hh1 : 1 ≤ hh) (hh2 : hh ≤ bh β) (hgp : gap (bw β) (bh β) (bO β) w hh = none) : ∃ v, holdV β w hh = some v ∧ v ≤ 1152 ∧ qX12_holdOf 62 (nI w) (nI hh) h = some (nI v, h) := by
  have hW := k.W
  have hH := k.H
  obtain ⟨c, q3⟩ := weak_in k (f := 0) hw2 hh2
  have q4 := weak_some q3
  refine ⟨rs (hg β 0) (c / bw β) (c % bw β) w hh, ?_, rs_le18 k q4.2, ?_⟩
  · unfold holdV
    rw [hgp, q3]
  · unfold qX12_holdOf
    rw [k_0, m_weakest k M (f := 0) (by omega) hw (by omega) (by omega), b2_some, q3, oI_s, m_holdsAt k M q4.1 (f := 0) (by omega) hw q4.2, b2_some]
theorem m_stout_l {β : qB} {h : qm_H} (k : bOK β) {w hh f : Nat} (hw : 1 ≤ w) (hw2 : w ≤ bw β) (hh1 : 1 ≤ hh) (hh2 : hh ≤ bh β) (hf : f ≤ 1) (hgp : gap (bw β) (bh β) (bO β) w hh = none) : ∀ d i s fuel h1, i + d = 16 → d < fuel → qEm h h1 → bM β h1 → (∀ p, s = some p → p.1 < 100 ∧ p.2 ≤ 1152) → ∃ h2, qX12_stout_51 fuel 62 (nI w) (nI hh) (nI f) (s1 s) (s2 s) (nI i) h1 = some (if f = 0 then s1 (bst (hk β w hh) d i s) else s2 (bst (hk β w hh) d i s), h2) ∧ qEm h h2 := by
  have hW := k.W
  have hH := k.H
  intro d
  induction d with
  | zero =>
    intro i s fuel h1 hi hfu F M hs
    obtain ⟨g, rfl⟩ : ∃ g, fuel = g + 1 := ⟨fuel - 1, by omega⟩
    refine ⟨h1, ?_, F⟩
    unfold qX12_stout_51
    simp (disch := omega) only [↓q_m1, ↓q_m2, k_o, k_0, k_1, k_2, k_3, k_4, k_5, k_6, k_7, k_8, k_9, k_10, k_11, k_16, k_17, k_19, k_20, k_24, k_26, k_27, k_30, k_32, k_33, k_35, k_40, k_43, k_48, k_50, k_57, k_60, k_64, k_81, k_86, k_34, k_66, k_322, k_97, k_99, k_100, k_122, k_128, k_160, k_161, k_255, k_256, k_512, k_580, k_600, k_1000, k_4096, k_far, k_o, nI_add, n_mul, n_sub, n_div, n_rem, n_lt, n_le, n_eq, n_cl, n_and, n_or, n_xor, m1_lt, lt_m1, m1_eq, eq_m1, le_m1, m1_le, m2_eq, up_eq, up_ne, n_shl, n_shr, b2_some, let_e, ob_some, bI_0, bI_a, bI_t, bI_f, if_true, if_false, ite_true, ite_false, true_and, and_true, false_and, and_false, true_or, or_true, false_or, or_false, not_true_eq_false, not_false_eq_true, ite_not, ne_eq, Bool.true_eq_false, Bool.false_eq_true, reduceCtorEq, decide_true, decide_false, Bool.and_true, Bool.and_false, Bool.true_and, Bool.false_and, Bool.or_true, Bool.or_false, Bool.not_true, Bool.not_false, Nat.add_zero, Nat.zero_add, eq_self, Nat.not_lt_zero, Nat.reduceAdd, Nat.reduceMul, Nat.reduceSub, Nat.reduceDiv, Nat.reduceMod, Nat.reduceAnd, Nat.reduceXor, Nat.reduceEqDiff, Nat.reducePow, lt_T, lt_F, le_T, le_F, eq_F]
    show _ = some (if f = 0 then s1 s else s2 s, h1)
    split <;> rfl
  | succ d ih =>
    intro i s fuel h1 hi hfu F M hs
    obtain ⟨g, rfl⟩ : ∃ g, fuel = g + 1 := ⟨fuel - 1, by omega⟩
    have eT := (M.2.2.2.2.1 i (by omega)).1
    have hT := (k.2.2.2.2.2.1 i (by omega)).1
    show ∃ h2, _ = some (if f = 0 then s1 (bst (hk β w hh) d (i + 1) _) else s2 (bst (hk β w hh) d (i + 1) _), h2) ∧ _
    have skip : hk β w hh i = none → (∃ h2, qX12_stout_51 g 62 (nI w) (nI hh) (nI f) (s1 s) (s2 s) (nI (i + 1)) h1 = some (if f = 0 then s1 (bst (hk β w hh) d (i + 1) (match hk β w hh i with
    | none => s
    | some v => match s with
      | none => some (i, v)
      | some p => if p.2 < v then some (i, v) else some p)) else s2 (bst (hk β w hh) d (i + 1) (match hk β w hh i with
    | none => s
    | some v => match s with
      | none => some (i, v)
      | some p => if p.2 < v then some (i, v) else some p)), h2) ∧ qEm h h2) := by
      intro e
      rw [e]
      exact ih (i + 1) s g h1 (by omega) (by omega) F M hs
    have go : (if i < 8 then i < bh β else i - 8 < bw β) → ∃ h2, qX12_stout_99 (qX12_stout_51 g) 62 (nI w) (nI hh) (nI f) (s1 s) (s2 s) (nI i) (nI 1) h1 = some (if f = 0 then s1 (bst (hk β w hh) d (i + 1) (match hk β w hh i with
    | none => s
    | some v => match s with
      | none => some (i, v)
      | some p => if p.2 < v then some (i, v) else some p)) else s2 (bst (hk β w hh) d (i + 1) (match hk β w hh i with
    | none => s
    | some v => match s with
      | none => some (i, v)
      | some p => if p.2 < v then some (i, v) else some p)), h2) ∧ qEm h h2 := by
      intro q
      unfold qX12_stout_99
      by_cases q2 : bT β i < 9
      · obtain ⟨v, v1, v2, v3⟩ := m_holdOf (bup_ok k q2) (bM_up M (t := i) (by omega)) hw hw2 hh1 hh2 hgp
        have ek : hk β w hh i = some v := (hk_t (tw_t q q2)).trans v1
        have M2 : bM β (qm_seti (qm_seti h1 74 i (nI (bT β i + 1))) 74 i (nI (bT β i))) := by
          refine M.mv (fun q _ _ => ?_) (fun a q _ _ => ?_)
          · rw [sI_ne (by omega), sI_ne (by omega)]
          · by_cases z : a = 74 ∧ q = i
            · rw [z.1, z.2, sI_eq, eT]
            · rw [sI_ne z, sI_ne z]
        have F2 : qEm h (qm_seti (qm_seti h1 74 i (nI (bT β i + 1))) 74 i (nI (bT β i))) := (F.trans (qEm.s (by omega))).trans (qEm.s (by omega))
        rw [ek]
        unfold qX12_stout_162
        cases s with
        | none =>
          have e1 : qX12_greater m1 (nI v) (qm_seti (qm_seti h1 74 i (nI (bT β i + 1))) 74 i (nI (bT β i))) = some (nI v, (qm_seti (qm_seti h1 74 i (nI (bT β i + 1))) 74 i (nI (bT β i)))) := by
            unfold qX12_greater
            simp (disch := omega) only [↓q_m1, ↓q_m2, k_o, k_0, k_1, k_2, k_3, k_4, k_5, k_6, k_7, k_8, k_9, k_10, k_11, k_16, k_17, k_19, k_20, k_24, k_26, k_27, k_30, k_32, k_33, k_35, k_40, k_43, k_48, k_50, k_57, k_60, k_64, k_81, k_86, k_34, k_66, k_322, k_97, k_99, k_100, k_122, k_128, k_160, k_161, k_255, k_256, k_512, k_580, k_600, k_1000, k_4096, k_far, k_o, nI_add, n_mul, n_sub, n_div, n_rem, n_lt, n_le, n_eq, n_cl, n_and, n_or, n_xor, m1_lt, lt_m1, m1_eq, eq_m1, le_m1, m1_le, m2_eq, up_eq, up_ne, n_shl, n_shr, b2_some, let_e, ob_some, bI_0, bI_a, bI_t, bI_f, if_true, if_false, ite_true, ite_false, true_and, and_true, false_and, and_false, true_or, or_true, false_or, or_false, not_true_eq_false, not_false_eq_true, ite_not, ne_eq, Bool.true_eq_false, Bool.false_eq_true, reduceCtorEq, decide_true, decide_false, Bool.and_true, Bool.and_false, Bool.true_and, Bool.false_and, Bool.or_true, Bool.or_false, Bool.not_true, Bool.not_false, Nat.add_zero, Nat.zero_add, eq_self, Nat.not_lt_zero, Nat.reduceAdd, Nat.reduceMul, Nat.reduceSub, Nat.reduceDiv, Nat.reduceMod, Nat.reduceAnd, Nat.reduceXor, Nat.reduceEqDiff, Nat.reducePow, lt_T, lt_F, le_T, le_F, eq_F]
          simp only [show s2 none = m1 from rfl, show s1 none = m1 from rfl]
          simp (disch := omega) only [↓q_m1, ↓q_m2, k_o, k_0, k_1, k_2, k_3, k_4, k_5, k_6, k_7, k_8, k_9, k_10, k_11, k_16, k_17, k_19, k_20, k_24, k_26, k_27, k_30, k_32, k_33, k_35, k_40, k_43, k_48, k_50, k_57, k_60, k_64, k_81, k_86, k_34, k_66, k_322, k_97, k_99, k_100, k_122, k_128, k_160, k_161, k_255, k_256, k_512, k_580, k_600, k_1000, k_4096, k_far, k_o, nI_add, n_mul, n_sub, n_div, n_rem, n_lt, n_le, n_eq, n_cl, n_and, n_or, n_xor, m1_lt, lt_m1, m1_eq, eq_m1, le_m1, m1_le, m2_eq, up_eq, up_ne, n_shl, n_shr, b2_some, let_e, ob_some, bI_0, bI_a, bI_t, bI_f, if_true, if_false, ite_true, ite_false, true_and, and_true, false_and, and_false, true_or, or_true, false_or, or_false, not_true_eq_false, not_false_eq_true, ite_not, ne_eq, Bool.true_eq_false, Bool.false_eq_true, reduceCtorEq, decide_true, decide_false, Bool.and_true, Bool.and_false, Bool.true_and, Bool.false_and, Bool.or_true, Bool.or_false, Bool.not_true, Bool.not_false, Nat.add_zero, Nat.zero_add, eq_self, Nat.not_lt_zero, Nat.reduceAdd, Nat.reduceMul, Nat.reduceSub, Nat.reduceDiv, Nat.reduceMod, Nat.reduceAnd, Nat.reduceXor, Nat.reduceEqDiff, Nat.reducePow, lt_T, lt_F, le_T, le_F, eq_F, eT, v3, Nat.add_sub_cancel, e1]
          exact ih (i + 1) (some (i, v)) g _ (by omega) (by omega) F2 M2 (fun p hp => by cases hp; exact ⟨by show i < 100; omega, v2⟩)
        | some p =>
          have hp := hs p rfl
          simp only [show s2 (some p) = nI p.2 from rfl, show s1 (some p) = nI p.1 from rfl]
          by_cases z : p.2 < v
          · simp (disch := omega) only [↓q_m1, ↓q_m2, k_o, k_0, k_1, k_2, k_3, k_4, k_5, k_6, k_7, k_8, k_9, k_10, k_11, k_16, k_17, k_19, k_20, k_24, k_26, k_27, k_30, k_32, k_33, k_35, k_40, k_43, k_48, k_50, k_57, k_60, k_64, k_81, k_86, k_34, k_66, k_322, k_97, k_99, k_100, k_122, k_128, k_160, k_161, k_255, k_256, k_512, k_580, k_600, k_1000, k_4096, k_far, k_o, nI_add, n_mul, n_sub, n_div, n_rem, n_lt, n_le, n_eq, n_cl, n_and, n_or, n_xor, m1_lt, lt_m1, m1_eq, eq_m1, le_m1, m1_le, m2_eq, up_eq, up_ne, n_shl, n_shr, b2_some, let_e, ob_some, bI_0, bI_a, bI_t, bI_f, if_true, if_false, ite_true, ite_false, true_and, and_true, false_and, and_false, true_or, or_true, false_or, or_false, not_true_eq_false, not_false_eq_true, ite_not, ne_eq, Bool.true_eq_false, Bool.false_eq_true, reduceCtorEq, decide_true, decide_false, Bool.and_true, Bool.and_false, Bool.true_and, Bool.false_and, Bool.or_true, Bool.or_false, Bool.not_true, Bool.not_false, Nat.add_zero, Nat.zero_add, eq_self, Nat.not_lt_zero, Nat.reduceAdd, Nat.reduceMul, Nat.reduceSub, Nat.reduceDiv, Nat.reduceMod, Nat.reduceAnd, Nat.reduceXor, Nat.reduceEqDiff, Nat.reducePow, lt_T, lt_F, le_T, le_F, eq_F, eT, v3, Nat.add_sub_cancel, m_gr]
            rw [show max p.2 v = v by omega]
            exact ih (i + 1) (some (i, v)) g _ (by omega) (by omega) F2 M2 (fun p hp => by cases hp; exact ⟨by show i < 100; omega, v2⟩)
          · simp (disch := omega) only [↓q_m1, ↓q_m2, k_o, k_0, k_1, k_2, k_3, k_4, k_5, k_6, k_7, k_8, k_9, k_10, k_11, k_16, k_17, k_19, k_20, k_24, k_26, k_27, k_30, k_32, k_33, k_35, k_40, k_43, k_48, k_50, k_57, k_60, k_64, k_81, k_86, k_34, k_66, k_322, k_97, k_99, k_100, k_122, k_128, k_160, k_161, k_255, k_256, k_512, k_580, k_600, k_1000, k_4096, k_far, k_o, nI_add, n_mul, n_sub, n_div, n_rem, n_lt, n_le, n_eq, n_cl, n_and, n_or, n_xor, m1_lt, lt_m1, m1_eq, eq_m1, le_m1, m1_le, m2_eq, up_eq, up_ne, n_shl, n_shr, b2_some, let_e, ob_some, bI_0, bI_a, bI_t, bI_f, if_true, if_false, ite_true, ite_false, true_and, and_true, false_and, and_false, true_or, or_true, false_or, or_false, not_true_eq_false, not_false_eq_true, ite_not, ne_eq, Bool.true_eq_false, Bool.false_eq_true, reduceCtorEq, decide_true, decide_false, Bool.and_true, Bool.and_false, Bool.true_and, Bool.false_and, Bool.or_true, Bool.or_false, Bool.not_true, Bool.not_false, Nat.add_zero, Nat.zero_add, eq_self, Nat.not_lt_zero, Nat.reduceAdd, Nat.reduceMul, Nat.reduceSub, Nat.reduceDiv, Nat.reduceMod, Nat.reduceAnd, Nat.reduceXor, Nat.reduceEqDiff, Nat.reducePow, lt_T, lt_F, le_T, le_F, eq_F, eT, v3, Nat.add_sub_cancel, m_gr]
            rw [show max p.2 v = p.2 by omega]
            exact ih (i + 1) (some p) g _ (by omega) (by omega) F2 M2 hs
      · have ek : hk β w hh i = none := hk_f (tw_f2 q2)
        simp (disch := omega) only [↓q_m1, ↓q_m2, k_o, k_0, k_1, k_2, k_3, k_4, k_5, k_6, k_7, k_8, k_9, k_10, k_11, k_16, k_17, k_19, k_20, k_24, k_26, k_27, k_30, k_32, k_33, k_35, k_40, k_43, k_48, k_50, k_57, k_60, k_64, k_81, k_86, k_34, k_66, k_322, k_97, k_99, k_100, k_122, k_128, k_160, k_161, k_255, k_256, k_512, k_580, k_600, k_1000, k_4096, k_far, k_o, nI_add, n_mul, n_sub, n_div, n_rem, n_lt, n_le, n_eq, n_cl, n_and, n_or, n_xor, m1_lt, lt_m1, m1_eq, eq_m1, le_m1, m1_le, m2_eq, up_eq, up_ne, n_shl, n_shr, b2_some, let_e, ob_some, bI_0, bI_a, bI_t, bI_f, if_true, if_false, ite_true, ite_false, true_and, and_true, false_and, and_false, true_or, or_true, false_or, or_false, not_true_eq_false, not_false_eq_true, ite_not, ne_eq, Bool.true_eq_false, Bool.false_eq_true, reduceCtorEq, decide_true, decide_false, Bool.and_true, Bool.and_false, Bool.true_and, Bool.false_and, Bool.or_true, Bool.or_false, Bool.not_true, Bool.not_false, Nat.add_zero, Nat.zero_add, eq_self, Nat.not_lt_zero, Nat.reduceAdd, Nat.reduceMul, Nat.reduceSub, Nat.reduceDiv, Nat.reduceMod, Nat.reduceAnd, Nat.reduceXor, Nat.reduceEqDiff, Nat.reducePow, lt_T, lt_F, le_T, le_F, eq_F, eT]
        exact skip ek
    unfold qX12_stout_51
    by_cases q8 : i < 8
    · by_cases q : i < bh β
      · simp (disch := omega) only [↓q_m1, ↓q_m2, k_o, k_0, k_1, k_2, k_3, k_4, k_5, k_6, k_7, k_8, k_9, k_10, k_11, k_16, k_17, k_19, k_20, k_24, k_26, k_27, k_30, k_32, k_33, k_35, k_40, k_43, k_48, k_50, k_57, k_60, k_64, k_81, k_86, k_34, k_66, k_322, k_97, k_99, k_100, k_122, k_128, k_160, k_161, k_255, k_256, k_512, k_580, k_600, k_1000, k_4096, k_far, k_o, nI_add, n_mul, n_sub, n_div, n_rem, n_lt, n_le, n_eq, n_cl, n_and, n_or, n_xor, m1_lt, lt_m1, m1_eq, eq_m1, le_m1, m1_le, m2_eq, up_eq, up_ne, n_shl, n_shr, b2_some, let_e, ob_some, bI_0, bI_a, bI_t, bI_f, if_true, if_false, ite_true, ite_false, true_and, and_true, false_and, and_false, true_or, or_true, false_or, or_false, not_true_eq_false, not_false_eq_true, ite_not, ne_eq, Bool.true_eq_false, Bool.false_eq_true, reduceCtorEq, decide_true, decide_false, Bool.and_true, Bool.and_false, Bool.true_and, Bool.false_and, Bool.or_true, Bool.or_false, Bool.not_true, Bool.not_false, Nat.add_zero, Nat.zero_add, eq_self, Nat.not_lt_zero, Nat.reduceAdd, Nat.reduceMul, Nat.reduceSub, Nat.reduceDiv, Nat.reduceMod, Nat.reduceAnd, Nat.reduceXor, Nat.reduceEqDiff, Nat.reducePow, lt_T, lt_F, le_T, le_F, eq_F, M.2.1]
        exact go (by rw [if_pos q8]; exact q)
      · unfold qX12_stout_99
        simp (disch := omega) only [↓q_m1, ↓q_m2, k_o, k_0, k_1, k_2, k_3, k_4, k_5, k_6, k_7, k_8, k_9, k_10, k_11, k_16, k_17, k_19, k_20, k_24, k_26, k_27, k_30, k_32, k_33, k_35, k_40, k_43, k_48, k_50, k_57, k_60, k_64, k_81, k_86, k_34, k_66, k_322, k_97, k_99, k_100, k_122, k_128, k_160, k_161, k_255, k_256, k_512, k_580, k_600, k_1000, k_4096, k_far, k_o, nI_add, n_mul, n_sub, n_div, n_rem, n_lt, n_le, n_eq, n_cl, n_and, n_or, n_xor, m1_lt, lt_m1, m1_eq, eq_m1, le_m1, m1_le, m2_eq, up_eq, up_ne, n_shl, n_shr, b2_some, let_e, ob_some, bI_0, bI_a, bI_t, bI_f, if_true, if_false, ite_true, ite_false, true_and, and_true, false_and, and_false, true_or, or_true, false_or, or_false, not_true_eq_false, not_false_eq_true, ite_not, ne_eq, Bool.true_eq_false, Bool.false_eq_true, reduceCtorEq, decide_true, decide_false, Bool.and_true, Bool.and_false, Bool.true_and, Bool.false_and, Bool.or_true, Bool.or_false, Bool.not_true, Bool.not_false, Nat.add_zero, Nat.zero_add, eq_self, Nat.not_lt_zero, Nat.reduceAdd, Nat.reduceMul, Nat.reduceSub, Nat.reduceDiv, Nat.reduceMod, Nat.reduceAnd, Nat.reduceXor, Nat.reduceEqDiff, Nat.reducePow, lt_T, lt_F, le_T, le_F, eq_F, M.2.1]
        exact skip (hk_f (tw_f1 (by rw [if_pos q8]; exact q)))
    · by_cases q : i - 8 < bw β
      · simp (disch := omega) only [↓q_m1, ↓q_m2, k_o, k_0, k_1, k_2, k_3, k_4, k_5, k_6, k_7, k_8, k_9, k_10, k_11, k_16, k_17, k_19, k_20, k_24, k_26, k_27, k_30, k_32, k_33, k_35, k_40, k_43, k_48, k_50, k_57, k_60, k_64, k_81, k_86, k_34, k_66, k_322, k_97, k_99, k_100, k_122, k_128, k_160, k_161, k_255, k_256, k_512, k_580, k_600, k_1000, k_4096, k_far, k_o, nI_add, n_mul, n_sub, n_div, n_rem, n_lt, n_le, n_eq, n_cl, n_and, n_or, n_xor, m1_lt, lt_m1, m1_eq, eq_m1, le_m1, m1_le, m2_eq, up_eq, up_ne, n_shl, n_shr, b2_some, let_e, ob_some, bI_0, bI_a, bI_t, bI_f, if_true, if_false, ite_true, ite_false, true_and, and_true, false_and, and_false, true_or, or_true, false_or, or_false, not_true_eq_false, not_false_eq_true, ite_not, ne_eq, Bool.true_eq_false, Bool.false_eq_true, reduceCtorEq, decide_true, decide_false, Bool.and_true, Bool.and_false, Bool.true_and, Bool.false_and, Bool.or_true, Bool.or_false, Bool.not_true, Bool.not_false, Nat.add_zero, Nat.zero_add, eq_self, Nat.not_lt_zero, Nat.reduceAdd, Nat.reduceMul, Nat.reduceSub, Nat.reduceDiv, Nat.reduceMod, Nat.reduceAnd, Nat.reduceXor, Nat.reduceEqDiff, Nat.reducePow, lt_T, lt_F, le_T, le_F, eq_F, M.1]
        exact go (by rw [if_neg q8]; exact q)
      · unfold qX12_stout_99
        simp (disch := omega) only [↓q_m1, ↓q_m2, k_o, k_0, k_1, k_2, k_3, k_4, k_5, k_6, k_7, k_8, k_9, k_10, k_11, k_16, k_17, k_19, k_20, k_24, k_26, k_27, k_30, k_32, k_33, k_35, k_40, k_43, k_48, k_50, k_57, k_60, k_64, k_81, k_86, k_34, k_66, k_322, k_97, k_99, k_100, k_122, k_128, k_160, k_161, k_255, k_256, k_512, k_580, k_600, k_1000, k_4096, k_far, k_o, nI_add, n_mul, n_sub, n_div, n_rem, n_lt, n_le, n_eq, n_cl, n_and, n_or, n_xor, m1_lt, lt_m1, m1_eq, eq_m1, le_m1, m1_le, m2_eq, up_eq, up_ne, n_shl, n_shr, b2_some, let_e, ob_some, bI_0, bI_a, bI_t, bI_f, if_true, if_false, ite_true, ite_false, true_and, and_true, false_and, and_false, true_or, or_true, false_or, or_false, not_true_eq_false, not_false_eq_true, ite_not, ne_eq, Bool.true_eq_false, Bool.false_eq_true, reduceCtorEq, decide_true, decide_false, Bool.and_true, Bool.and_false, Bool.true_and, Bool.false_and, Bool.or_true, Bool.or_false, Bool.not_true, Bool.not_false, Nat.add_zero, Nat.zero_add, eq_self, Nat.not_lt_zero, Nat.reduceAdd, Nat.reduceMul, Nat.reduceSub, Nat.reduceDiv, Nat.reduceMod, Nat.reduceAnd, Nat.reduceXor, Nat.reduceEqDiff, Nat.reducePow, lt_T, lt_F, le_T, le_F, eq_F, M.1]
        exact skip (hk_f (tw_f1 (by rw [if_neg q8]; exact q)))
theorem bst_none {f : Nat → Option Nat} : ∀ {d i : Nat} {s : Option (Nat × Nat)}, (∀ k, i ≤ k → k < i + d → f k = none) → bst f d i s = s := by
  intro d
  induction d with
  | zero => intro i s _; rfl
  | succ d ih =>
    intro i s H
    show bst f d (i + 1) _ = s
    rw [H i (by omega) (by omega)]
    exact ih (fun k h1 h2 => H k (by omega) (by omega))
theorem holdV_out {β : qB} {w hh : Nat} (q : ¬ (w ≤ bw β ∧ hh ≤ bh β)) : holdV β w hh = none := by
  unfold holdV
  rw [weak_out q]
  split <;> rfl
theorem holdV_gap {β : qB} {w hh c : Nat} (q : gap (bw β) (bh β) (bO β) w hh = some c) : holdV β w hh = none := by
  unfold holdV
  rw [q]
theorem hk_no {β : qB} {w hh : Nat} (H : ∀ t, holdV (bup β t) w hh = none) : ∀ t, hk β w hh t = none := by
  intro t
  cases q : twB β t with
  | true => rw [hk_t q]; exact H t
  | false => exact hk_f q
theorem P_23 : ∀ h, qR h → ∀ x1 x2 x3 x4 : Int32, ∃ (r : Int32) (h1 h2 : qm_H), qX11_stout 0 x1 x2 x3 (qL_b x4) h = some (r, h1) ∧ qX12_stout 62 x1 x2 x3 (qL_b x4) h1 = some (r, h2) ∧ qR h2 := by
  intro h R x1 x2 x3 x4
  have hE := e0 (qFr.refl qScr h)
  rcases c_bask R x1 with ⟨y1, y2, _⟩ | ⟨i, β, hi, rfl, k, C, Z, y1, y2, _⟩
  · refine ⟨m1, h, qm_seti h 62 0 (nI 0), ?_, ?_, R.mvm (em0 h)⟩
    · unfold qX11_stout
      simp (disch := omega) only [↓q_m1, ↓q_m2, k_o, k_0, k_1, k_2, k_3, k_4, k_5, k_6, k_7, k_8, k_9, k_10, k_11, k_16, k_17, k_19, k_20, k_24, k_26, k_27, k_30, k_32, k_33, k_35, k_40, k_43, k_48, k_50, k_57, k_60, k_64, k_81, k_86, k_34, k_66, k_322, k_97, k_99, k_100, k_122, k_128, k_160, k_161, k_255, k_256, k_512, k_580, k_600, k_1000, k_4096, k_far, k_o, nI_add, n_mul, n_sub, n_div, n_rem, n_lt, n_le, n_eq, n_cl, n_and, n_or, n_xor, m1_lt, lt_m1, m1_eq, eq_m1, le_m1, m1_le, m2_eq, up_eq, up_ne, n_shl, n_shr, b2_some, let_e, ob_some, bI_0, bI_a, bI_t, bI_f, if_true, if_false, ite_true, ite_false, true_and, and_true, false_and, and_false, true_or, or_true, false_or, or_false, not_true_eq_false, not_false_eq_true, ite_not, ne_eq, Bool.true_eq_false, Bool.false_eq_true, reduceCtorEq, decide_true, decide_false, Bool.and_true, Bool.and_false, Bool.true_and, Bool.false_and, Bool.or_true, Bool.or_false, Bool.not_true, Bool.not_false, Nat.add_zero, Nat.zero_add, eq_self, Nat.not_lt_zero, Nat.reduceAdd, Nat.reduceMul, Nat.reduceSub, Nat.reduceDiv, Nat.reduceMod, Nat.reduceAnd, Nat.reduceXor, Nat.reduceEqDiff, Nat.reducePow, y1, om_n]
    · unfold qX12_stout
      rcases s_size x2 x3 with ⟨_, z⟩ | ⟨w, hh, _, _, _, _, _, _, _, z⟩
      · simp (disch := omega) only [↓q_m1, ↓q_m2, k_o, k_0, k_1, k_2, k_3, k_4, k_5, k_6, k_7, k_8, k_9, k_10, k_11, k_16, k_17, k_19, k_20, k_24, k_26, k_27, k_30, k_32, k_33, k_35, k_40, k_43, k_48, k_50, k_57, k_60, k_64, k_81, k_86, k_34, k_66, k_322, k_97, k_99, k_100, k_122, k_128, k_160, k_161, k_255, k_256, k_512, k_580, k_600, k_1000, k_4096, k_far, k_o, nI_add, n_mul, n_sub, n_div, n_rem, n_lt, n_le, n_eq, n_cl, n_and, n_or, n_xor, m1_lt, lt_m1, m1_eq, eq_m1, le_m1, m1_le, m2_eq, up_eq, up_ne, n_shl, n_shr, b2_some, let_e, ob_some, bI_0, bI_a, bI_t, bI_f, if_true, if_false, ite_true, ite_false, true_and, and_true, false_and, and_false, true_or, or_true, false_or, or_false, not_true_eq_false, not_false_eq_true, ite_not, ne_eq, Bool.true_eq_false, Bool.false_eq_true, reduceCtorEq, decide_true, decide_false, Bool.and_true, Bool.and_false, Bool.true_and, Bool.false_and, Bool.or_true, Bool.or_false, Bool.not_true, Bool.not_false, Nat.add_zero, Nat.zero_add, eq_self, Nat.not_lt_zero, Nat.reduceAdd, Nat.reduceMul, Nat.reduceSub, Nat.reduceDiv, Nat.reduceMod, Nat.reduceAnd, Nat.reduceXor, Nat.reduceEqDiff, Nat.reducePow, z]
      · simp (disch := omega) only [↓q_m1, ↓q_m2, k_o, k_0, k_1, k_2, k_3, k_4, k_5, k_6, k_7, k_8, k_9, k_10, k_11, k_16, k_17, k_19, k_20, k_24, k_26, k_27, k_30, k_32, k_33, k_35, k_40, k_43, k_48, k_50, k_57, k_60, k_64, k_81, k_86, k_34, k_66, k_322, k_97, k_99, k_100, k_122, k_128, k_160, k_161, k_255, k_256, k_512, k_580, k_600, k_1000, k_4096, k_far, k_o, nI_add, n_mul, n_sub, n_div, n_rem, n_lt, n_le, n_eq, n_cl, n_and, n_or, n_xor, m1_lt, lt_m1, m1_eq, eq_m1, le_m1, m1_le, m2_eq, up_eq, up_ne, n_shl, n_shr, b2_some, let_e, ob_some, bI_0, bI_a, bI_t, bI_f, if_true, if_false, ite_true, ite_false, true_and, and_true, false_and, and_false, true_or, or_true, false_or, or_false, not_true_eq_false, not_false_eq_true, ite_not, ne_eq, Bool.true_eq_false, Bool.false_eq_true, reduceCtorEq, decide_true, decide_false, Bool.and_true, Bool.and_false, Bool.true_and, Bool.false_and, Bool.or_true, Bool.or_false, Bool.not_true, Bool.not_false, Nat.add_zero, Nat.zero_add, eq_self, Nat.not_lt_zero, Nat.reduceAdd, Nat.reduceMul, Nat.reduceSub, Nat.reduceDiv, Nat.reduceMod, Nat.reduceAnd, Nat.reduceXor, Nat.reduceEqDiff, Nat.reducePow, z, y2 _ hE]
  · rcases s_size x2 x3 with ⟨z1, z2⟩ | ⟨w, hh, rfl, rfl, hw, hw2, hh1, hh2, z1, z2⟩
    · refine ⟨m1, h, qm_seti h 62 0 (nI 0), ?_, ?_, R.mvm (em0 h)⟩
      · unfold qX11_stout
        simp (disch := omega) only [↓q_m1, ↓q_m2, k_o, k_0, k_1, k_2, k_3, k_4, k_5, k_6, k_7, k_8, k_9, k_10, k_11, k_16, k_17, k_19, k_20, k_24, k_26, k_27, k_30, k_32, k_33, k_35, k_40, k_43, k_48, k_50, k_57, k_60, k_64, k_81, k_86, k_34, k_66, k_322, k_97, k_99, k_100, k_122, k_128, k_160, k_161, k_255, k_256, k_512, k_580, k_600, k_1000, k_4096, k_far, k_o, nI_add, n_mul, n_sub, n_div, n_rem, n_lt, n_le, n_eq, n_cl, n_and, n_or, n_xor, m1_lt, lt_m1, m1_eq, eq_m1, le_m1, m1_le, m2_eq, up_eq, up_ne, n_shl, n_shr, b2_some, let_e, ob_some, bI_0, bI_a, bI_t, bI_f, if_true, if_false, ite_true, ite_false, true_and, and_true, false_and, and_false, true_or, or_true, false_or, or_false, not_true_eq_false, not_false_eq_true, ite_not, ne_eq, Bool.true_eq_false, Bool.false_eq_true, reduceCtorEq, decide_true, decide_false, Bool.and_true, Bool.and_false, Bool.true_and, Bool.false_and, Bool.or_true, Bool.or_false, Bool.not_true, Bool.not_false, Nat.add_zero, Nat.zero_add, eq_self, Nat.not_lt_zero, Nat.reduceAdd, Nat.reduceMul, Nat.reduceSub, Nat.reduceDiv, Nat.reduceMod, Nat.reduceAnd, Nat.reduceXor, Nat.reduceEqDiff, Nat.reducePow, y1, om_s, z1]
      · unfold qX12_stout
        simp (disch := omega) only [↓q_m1, ↓q_m2, k_o, k_0, k_1, k_2, k_3, k_4, k_5, k_6, k_7, k_8, k_9, k_10, k_11, k_16, k_17, k_19, k_20, k_24, k_26, k_27, k_30, k_32, k_33, k_35, k_40, k_43, k_48, k_50, k_57, k_60, k_64, k_81, k_86, k_34, k_66, k_322, k_97, k_99, k_100, k_122, k_128, k_160, k_161, k_255, k_256, k_512, k_580, k_600, k_1000, k_4096, k_far, k_o, nI_add, n_mul, n_sub, n_div, n_rem, n_lt, n_le, n_eq, n_cl, n_and, n_or, n_xor, m1_lt, lt_m1, m1_eq, eq_m1, le_m1, m1_le, m2_eq, up_eq, up_ne, n_shl, n_shr, b2_some, let_e, ob_some, bI_0, bI_a, bI_t, bI_f, if_true, if_false, ite_true, ite_false, true_and, and_true, false_and, and_false, true_or, or_true, false_or, or_false, not_true_eq_false, not_false_eq_true, ite_not, ne_eq, Bool.true_eq_false, Bool.false_eq_true, reduceCtorEq, decide_true, decide_false, Bool.and_true, Bool.and_false, Bool.true_and, Bool.false_and, Bool.or_true, Bool.or_false, Bool.not_true, Bool.not_false, Nat.add_zero, Nat.zero_add, eq_self, Nat.not_lt_zero, Nat.reduceAdd, Nat.reduceMul, Nat.reduceSub, Nat.reduceDiv, Nat.reduceMod, Nat.reduceAnd, Nat.reduceXor, Nat.reduceEqDiff, Nat.reducePow, z2]
    · obtain ⟨f, hf, ef⟩ : ∃ f, f ≤ 1 ∧ qL_b x4 = nI f := by
        rcases qb_cases x4 with q | q
        · exact ⟨0, by omega, q⟩
        · exact ⟨1, by omega, q⟩
      rw [ef]
      obtain ⟨h1, o1, o2, o3⟩ := c_stout_l k C hw hw2 hh1 hh2 hf 16 0 none qm_N h (by omega) (by unfold qm_N; omega) (qFr.refl _ _) Z (fun p hp => by cases hp)
      obtain ⟨E1, R1⟩ := R.cl hi o2 o3
      obtain ⟨h2, w1, w2, M, S, w3⟩ := y2 _ (e0 E1)
      have c1 : qX11_stout 0 (nI i) (nI w) (nI hh) (nI f) h = some (if f = 0 then s1 (bst (hk β w hh) 16 0 none) else s2 (bst (hk β w hh) 16 0 none), h1) := by
        unfold qX11_stout
        simp (disch := omega) only [↓q_m1, ↓q_m2, k_o, k_0, k_1, k_2, k_3, k_4, k_5, k_6, k_7, k_8, k_9, k_10, k_11, k_16, k_17, k_19, k_20, k_24, k_26, k_27, k_30, k_32, k_33, k_35, k_40, k_43, k_48, k_50, k_57, k_60, k_64, k_81, k_86, k_34, k_66, k_322, k_97, k_99, k_100, k_122, k_128, k_160, k_161, k_255, k_256, k_512, k_580, k_600, k_1000, k_4096, k_far, k_o, nI_add, n_mul, n_sub, n_div, n_rem, n_lt, n_le, n_eq, n_cl, n_and, n_or, n_xor, m1_lt, lt_m1, m1_eq, eq_m1, le_m1, m1_le, m2_eq, up_eq, up_ne, n_shl, n_shr, b2_some, let_e, ob_some, bI_0, bI_a, bI_t, bI_f, if_true, if_false, ite_true, ite_false, true_and, and_true, false_and, and_false, true_or, or_true, false_or, or_false, not_true_eq_false, not_false_eq_true, ite_not, ne_eq, Bool.true_eq_false, Bool.false_eq_true, reduceCtorEq, decide_true, decide_false, Bool.and_true, Bool.and_false, Bool.true_and, Bool.false_and, Bool.or_true, Bool.or_false, Bool.not_true, Bool.not_false, Nat.add_zero, Nat.zero_add, eq_self, Nat.not_lt_zero, Nat.reduceAdd, Nat.reduceMul, Nat.reduceSub, Nat.reduceDiv, Nat.reduceMod, Nat.reduceAnd, Nat.reduceXor, Nat.reduceEqDiff, Nat.reducePow, y1, om_s, z1]
        exact o1
      have bad : (∀ t, hk β w hh t = none) → (if f = 0 then s1 (bst (hk β w hh) 16 0 none) else s2 (bst (hk β w hh) 16 0 none)) = m1 := by
        intro e
        rw [bst_none (fun t _ _ => e t)]
        split <;> rfl
      by_cases q2 : w ≤ bw β ∧ hh ≤ bh β
      · cases q1 : gap (bw β) (bh β) (bO β) w hh with
        | some c =>
          have hn := k.n
          have := (gap_lt q1).1
          refine ⟨_, h1, h2, c1, ?_, R1.mvm ((em0 h1).trans (qHd.e w2))⟩
          rw [bad (hk_no (fun t => holdV_gap q1))]
          unfold qX12_stout
          simp (disch := omega) only [↓q_m1, ↓q_m2, k_o, k_0, k_1, k_2, k_3, k_4, k_5, k_6, k_7, k_8, k_9, k_10, k_11, k_16, k_17, k_19, k_20, k_24, k_26, k_27, k_30, k_32, k_33, k_35, k_40, k_43, k_48, k_50, k_57, k_60, k_64, k_81, k_86, k_34, k_66, k_322, k_97, k_99, k_100, k_122, k_128, k_160, k_161, k_255, k_256, k_512, k_580, k_600, k_1000, k_4096, k_far, k_o, nI_add, n_mul, n_sub, n_div, n_rem, n_lt, n_le, n_eq, n_cl, n_and, n_or, n_xor, m1_lt, lt_m1, m1_eq, eq_m1, le_m1, m1_le, m2_eq, up_eq, up_ne, n_shl, n_shr, b2_some, let_e, ob_some, bI_0, bI_a, bI_t, bI_f, if_true, if_false, ite_true, ite_false, true_and, and_true, false_and, and_false, true_or, or_true, false_or, or_false, not_true_eq_false, not_false_eq_true, ite_not, ne_eq, Bool.true_eq_false, Bool.false_eq_true, reduceCtorEq, decide_true, decide_false, Bool.and_true, Bool.and_false, Bool.true_and, Bool.false_and, Bool.or_true, Bool.or_false, Bool.not_true, Bool.not_false, Nat.add_zero, Nat.zero_add, eq_self, Nat.not_lt_zero, Nat.reduceAdd, Nat.reduceMul, Nat.reduceSub, Nat.reduceDiv, Nat.reduceMod, Nat.reduceAnd, Nat.reduceXor, Nat.reduceEqDiff, Nat.reducePow, lt_T, lt_F, le_T, le_F, eq_F, z2, w1, m_isWithin M k hw2 hh2, q2.1, q2.2, m_slipsBy k M hw hw2 hh2, q1, oI_s]
        | none =>
          obtain ⟨h3, p1, p2⟩ := m_stout_l k hw q2.1 hh1 q2.2 hf q1 16 0 none qm_N h2 (by omega) (by unfold qm_N; omega) (qFr.refl _ _) M (fun p hp => by cases hp)
          refine ⟨_, h1, h3, c1, ?_, R1.mvm (((em0 h1).trans (qHd.e w2)).trans p2)⟩
          unfold qX12_stout
          simp (disch := omega) only [↓q_m1, ↓q_m2, k_o, k_0, k_1, k_2, k_3, k_4, k_5, k_6, k_7, k_8, k_9, k_10, k_11, k_16, k_17, k_19, k_20, k_24, k_26, k_27, k_30, k_32, k_33, k_35, k_40, k_43, k_48, k_50, k_57, k_60, k_64, k_81, k_86, k_34, k_66, k_322, k_97, k_99, k_100, k_122, k_128, k_160, k_161, k_255, k_256, k_512, k_580, k_600, k_1000, k_4096, k_far, k_o, nI_add, n_mul, n_sub, n_div, n_rem, n_lt, n_le, n_eq, n_cl, n_and, n_or, n_xor, m1_lt, lt_m1, m1_eq, eq_m1, le_m1, m1_le, m2_eq, up_eq, up_ne, n_shl, n_shr, b2_some, let_e, ob_some, bI_0, bI_a, bI_t, bI_f, if_true, if_false, ite_true, ite_false, true_and, and_true, false_and, and_false, true_or, or_true, false_or, or_false, not_true_eq_false, not_false_eq_true, ite_not, ne_eq, Bool.true_eq_false, Bool.false_eq_true, reduceCtorEq, decide_true, decide_false, Bool.and_true, Bool.and_false, Bool.true_and, Bool.false_and, Bool.or_true, Bool.or_false, Bool.not_true, Bool.not_false, Nat.add_zero, Nat.zero_add, eq_self, Nat.not_lt_zero, Nat.reduceAdd, Nat.reduceMul, Nat.reduceSub, Nat.reduceDiv, Nat.reduceMod, Nat.reduceAnd, Nat.reduceXor, Nat.reduceEqDiff, Nat.reducePow, lt_T, lt_F, le_T, le_F, eq_F, z2, w1, m_isWithin M k hw2 hh2, q2.1, q2.2, m_slipsBy k M hw hw2 hh2, q1, oI_n]
          exact p1
      · refine ⟨_, h1, h2, c1, ?_, R1.mvm ((em0 h1).trans (qHd.e w2))⟩
        rw [bad (hk_no (fun t => holdV_out q2))]
        unfold qX12_stout
        simp (disch := omega) only [↓q_m1, ↓q_m2, k_o, k_0, k_1, k_2, k_3, k_4, k_5, k_6, k_7, k_8, k_9, k_10, k_11, k_16, k_17, k_19, k_20, k_24, k_26, k_27, k_30, k_32, k_33, k_35, k_40, k_43, k_48, k_50, k_57, k_60, k_64, k_81, k_86, k_34, k_66, k_322, k_97, k_99, k_100, k_122, k_128, k_160, k_161, k_255, k_256, k_512, k_580, k_600, k_1000, k_4096, k_far, k_o, nI_add, n_mul, n_sub, n_div, n_rem, n_lt, n_le, n_eq, n_cl, n_and, n_or, n_xor, m1_lt, lt_m1, m1_eq, eq_m1, le_m1, m1_le, m2_eq, up_eq, up_ne, n_shl, n_shr, b2_some, let_e, ob_some, bI_0, bI_a, bI_t, bI_f, if_true, if_false, ite_true, ite_false, true_and, and_true, false_and, and_false, true_or, or_true, false_or, or_false, not_true_eq_false, not_false_eq_true, ite_not, ne_eq, Bool.true_eq_false, Bool.false_eq_true, reduceCtorEq, decide_true, decide_false, Bool.and_true, Bool.and_false, Bool.true_and, Bool.false_and, Bool.or_true, Bool.or_false, Bool.not_true, Bool.not_false, Nat.add_zero, Nat.zero_add, eq_self, Nat.not_lt_zero, Nat.reduceAdd, Nat.reduceMul, Nat.reduceSub, Nat.reduceDiv, Nat.reduceMod, Nat.reduceAnd, Nat.reduceXor, Nat.reduceEqDiff, Nat.reducePow, lt_T, lt_F, le_T, le_F, eq_F, z2, w1, m_isWithin M k hw2 hh2, q2]
