/-! closes: the reference. -/
section MC
variable {β : qB} {h : qm_H} {w hh : Nat}
def ofs (W w u q : Nat) : Nat := u + q / w * W + q % w
theorem ofs_in {W H u q : Nat} (hW : 0 < W) (hw : 1 ≤ w) (hp : plP W H w hh u = true) (hq : q < w * hh) : ofs W w u q < W * H ∧ inR W w hh u (ofs W w u q) = true := by
  have hp' : u % W + w ≤ W ∧ u / W + hh ≤ H := of_decide_eq_true hp
  have h1 : q / w < hh := Nat.div_lt_of_lt_mul hq
  have h2 : q % w < w := Nat.mod_lt _ hw
  have h3 := Nat.div_add_mod u W
  have e : ofs W w u q = W * (u / W + q / w) + (u % W + q % w) := by
    unfold ofs
    rw [Nat.mul_add, Nat.mul_comm (q / w) W]
    omega
  have d1 : ofs W w u q / W = u / W + q / w := by
    rw [e, Nat.mul_add_div hW, Nat.div_eq_of_lt (show u % W + q % w < W by omega), Nat.add_zero]
  have d2 : ofs W w u q % W = u % W + q % w := by
    rw [e, Nat.mul_add_mod, Nat.mod_eq_of_lt (by omega)]
  refine ⟨?_, ?_⟩
  · rw [e]
    exact cell_lt (by omega) (by omega)
  · unfold inR
    rw [d1, d2, decide_eq_true_iff]
    exact ⟨Nat.le_add_right _ _, Nat.add_lt_add_left h1 _, Nat.le_add_right _ _, Nat.add_lt_add_left h2 _⟩
theorem ofs_ex {W u x : Nat} (hW : 0 < W) (hw : 1 ≤ w) (hx : inR W w hh u x = true) : ∃ q, q < w * hh ∧ ofs W w u q = x := by
  have hx' := of_decide_eq_true hx
  obtain ⟨x1, x2, x3, x4⟩ := hx'
  have h3 := Nat.div_add_mod u W
  have h4 := Nat.div_add_mod x W
  refine ⟨w * (x / W - u / W) + (x % W - u % W), cell_lt (by omega) (by omega), ?_⟩
  unfold ofs
  rw [Nat.mul_add_div hw, Nat.div_eq_of_lt (show x % W - u % W < w by omega), Nat.add_zero, Nat.mul_add_mod, Nat.mod_eq_of_lt (show x % W - u % W < w by omega), Nat.mul_comm]
  have : W * (x / W - u / W) + W * (u / W) = W * (x / W) := by
    rw [← Nat.mul_add]
    congr 1
    omega
  omega
theorem m_fg42 (k : bOK β) {u n : Nat} (hu : u < bw β * bh β) (hw : 1 ≤ w) (hp : plP (bw β) (bh β) w hh u = true) (e25 : h.1 62 25 = nI (bw β)) (e35 : h.1 62 35 = nI n) (hn : n < 64) (K : Nat → Int32 → Int32 → Int32 → qm_H → Option qm_H) : ∀ d i l fuel, i + d = w * hh → d < fuel → (∀ j, j < 64 → lb l j = decide (∃ q, q < i ∧ ofs (bw β) w u q = j)) → ∃ l', (∀ j, j < 64 → lb l' j = decide (∃ q, q < w * hh ∧ ofs (bw β) w u q = j)) ∧ qX12_findGaps_42 K fuel 62 (nI w) (nI hh) (nI u) l (nI i) h = K 62 (nI w) (nI hh) (nI (u + 1)) (qm_seti (qm_setl h 78 n l') 62 35 (nI (n + 1))) := by
  have hW := k.W
  have hH := k.H
  have hN := k.n
  have hp' : u % bw β + w ≤ bw β ∧ u / bw β + hh ≤ bh β := of_decide_eq_true hp
  have hd := k.dm hu
  have hw8 : w ≤ 8 := by omega
  have hh8 : hh ≤ 8 := Nat.le_trans (Nat.le_trans (Nat.le_add_left _ _) hp'.2) hH.2
  have hwh : w * hh ≤ 64 := Nat.mul_le_mul hw8 hh8
  intro d
  induction d with
  | zero =>
    intro i l fuel hi hf L
    obtain ⟨g, rfl⟩ : ∃ g, fuel = g + 1 := ⟨fuel - 1, by omega⟩
    have hi' : i = w * hh := by omega
    refine ⟨l, by rw [← hi']; exact L, ?_⟩
    unfold qX12_findGaps_42
    simp (disch := omega) only [↓reduceIte, ↓q_m1, ↓q_m2, k_o, k_0, k_1, k_2, k_3, k_4, k_5, k_6, k_7, k_8, k_9, k_10, k_11, k_16, k_17, k_19, k_20, k_24, k_26, k_27, k_30, k_32, k_33, k_35, k_40, k_43, k_48, k_50, k_57, k_60, k_64, k_81, k_86, k_34, k_66, k_322, k_97, k_99, k_100, k_122, k_128, k_160, k_161, k_255, k_256, k_512, k_580, k_600, k_1000, k_4096, k_far, k_o, nI_add, n_mul, n_sub, n_div, n_rem, n_lt, n_le, n_eq, n_cl, n_and, n_or, n_xor, m1_lt, lt_m1, m1_eq, eq_m1, le_m1, m1_le, m2_eq, up_eq, up_ne, n_shl, n_shr, b2_some, let_e, ob_some, bI_0, bI_a, bI_t, bI_f, if_true, if_false, ite_true, ite_false, true_and, and_true, false_and, and_false, true_or, or_true, false_or, or_false, not_true_eq_false, not_false_eq_true, ite_not, ne_eq, Bool.true_eq_false, Bool.false_eq_true, reduceCtorEq, decide_true, decide_false, Bool.and_true, Bool.and_false, Bool.true_and, Bool.false_and, Bool.or_true, Bool.or_false, Bool.not_true, Bool.not_false, Nat.add_zero, Nat.zero_add, eq_self, Nat.not_lt_zero, Nat.reduceAdd, Nat.reduceMul, Nat.reduceSub, Nat.reduceDiv, Nat.reduceMod, Nat.reduceAnd, Nat.reduceXor, Nat.reduceEqDiff, Nat.reducePow, lt_T, lt_F, le_T, le_F, eq_F, hi', e35]
    try rfl
  | succ d ih =>
    intro i l fuel hi hf L
    obtain ⟨g, rfl⟩ : ∃ g, fuel = g + 1 := ⟨fuel - 1, by omega⟩
    have o := ofs_in (show 0 < bw β by omega) hw hp (show i < w * hh by omega)
    have o1 : ofs (bw β) w u i < 64 := by omega
    have o2 : u + i / w * bw β + i % w < 64 := o1
    have b1 : i / w ≤ 64 := Nat.le_trans (Nat.div_le_self _ _) (by omega)
    have b2 : i / w * bw β ≤ 64 := by omega
    obtain ⟨l', p1, p2⟩ := ih (i + 1) (l ||| qm_lshl 1 (nI (ofs (bw β) w u i))) g (by omega) (by omega) (fun j hj => by
      rw [lb_or, L j hj, lb_one o1 hj]
      apply Bool.eq_iff_iff.mpr
      rw [Bool.or_eq_true, decide_eq_true_iff, decide_eq_true_iff, decide_eq_true_iff]
      constructor
      · rintro (⟨q, y1, y2⟩ | y)
        · exact ⟨q, by omega, y2⟩
        · exact ⟨i, by omega, y.symm⟩
      · rintro ⟨q, y1, y2⟩
        by_cases y : q = i
        · subst y
          exact Or.inr y2.symm
        · exact Or.inl ⟨q, by omega, y2⟩)
    refine ⟨l', p1, ?_⟩
    unfold qX12_findGaps_42
    simp (disch := omega) only [↓reduceIte, ↓q_m1, ↓q_m2, k_o, k_0, k_1, k_2, k_3, k_4, k_5, k_6, k_7, k_8, k_9, k_10, k_11, k_16, k_17, k_19, k_20, k_24, k_26, k_27, k_30, k_32, k_33, k_35, k_40, k_43, k_48, k_50, k_57, k_60, k_64, k_81, k_86, k_34, k_66, k_322, k_97, k_99, k_100, k_122, k_128, k_160, k_161, k_255, k_256, k_512, k_580, k_600, k_1000, k_4096, k_far, k_o, nI_add, n_mul, n_sub, n_div, n_rem, n_lt, n_le, n_eq, n_cl, n_and, n_or, n_xor, m1_lt, lt_m1, m1_eq, eq_m1, le_m1, m1_le, m2_eq, up_eq, up_ne, n_shl, n_shr, b2_some, let_e, ob_some, bI_0, bI_a, bI_t, bI_f, if_true, if_false, ite_true, ite_false, true_and, and_true, false_and, and_false, true_or, or_true, false_or, or_false, not_true_eq_false, not_false_eq_true, ite_not, ne_eq, Bool.true_eq_false, Bool.false_eq_true, reduceCtorEq, decide_true, decide_false, Bool.and_true, Bool.and_false, Bool.true_and, Bool.false_and, Bool.or_true, Bool.or_false, Bool.not_true, Bool.not_false, Nat.add_zero, Nat.zero_add, eq_self, Nat.not_lt_zero, Nat.reduceAdd, Nat.reduceMul, Nat.reduceSub, Nat.reduceDiv, Nat.reduceMod, Nat.reduceAnd, Nat.reduceXor, Nat.reduceEqDiff, Nat.reducePow, lt_T, lt_F, le_T, le_F, eq_F, e25]
    exact p2
/-- the reference's gaps below p -/
def gM (β : qB) (w hh p : Nat) (h h1 : qm_H) : Prop := qFr (fun a q => (a = 62 ∧ q = 35) ∨ a = 78) h h1 ∧ h1.1 62 35 = nI (fb_ct (gB β w hh) p) ∧ ∀ u, u < p → gB β w hh u = true → ∀ j, j < 64 → lb (h1.2 78 (fb_ct (gB β w hh) u)) j = (decide (j < bw β * bh β) && inR (bw β) w hh u j)
theorem m_fg7 (k : bOK β) (M : bM β h) (hw : 1 ≤ w) (hw2 : w ≤ 8) (hh2 : hh ≤ 8) : ∀ d i h1 fuel, i + d = bw β * bh β → d < fuel → gM β w hh i h h1 → ∃ h2, qX12_findGaps_7 fuel 62 (nI w) (nI hh) (nI i) h1 = some h2 ∧ gM β w hh (bw β * bh β) h h2 := by
  have hW := k.W
  have hN := k.n
  have hwh : w * hh ≤ 64 := Nat.mul_le_mul hw2 hh2
  intro d
  induction d with
  | zero =>
    intro i h1 fuel hi hf S
    obtain ⟨g, rfl⟩ : ∃ g, fuel = g + 1 := ⟨fuel - 1, by omega⟩
    have M1 : bM β h1 := M.mv (fun q _ _ => (S.1 62 q (by omega)).1) (fun a q _ _ => (S.1 a q (by omega)).1)
    have hi' : i = bw β * bh β := by omega
    refine ⟨h1, ?_, by rw [← hi']; exact S⟩
    unfold qX12_findGaps_7
    simp (disch := omega) only [↓reduceIte, ↓q_m1, ↓q_m2, k_o, k_0, k_1, k_2, k_3, k_4, k_5, k_6, k_7, k_8, k_9, k_10, k_11, k_16, k_17, k_19, k_20, k_24, k_26, k_27, k_30, k_32, k_33, k_35, k_40, k_43, k_48, k_50, k_57, k_60, k_64, k_81, k_86, k_34, k_66, k_322, k_97, k_99, k_100, k_122, k_128, k_160, k_161, k_255, k_256, k_512, k_580, k_600, k_1000, k_4096, k_far, k_o, nI_add, n_mul, n_sub, n_div, n_rem, n_lt, n_le, n_eq, n_cl, n_and, n_or, n_xor, m1_lt, lt_m1, m1_eq, eq_m1, le_m1, m1_le, m2_eq, up_eq, up_ne, n_shl, n_shr, b2_some, let_e, ob_some, bI_0, bI_a, bI_t, bI_f, if_true, if_false, ite_true, ite_false, true_and, and_true, false_and, and_false, true_or, or_true, false_or, or_false, not_true_eq_false, not_false_eq_true, ite_not, ne_eq, Bool.true_eq_false, Bool.false_eq_true, reduceCtorEq, decide_true, decide_false, Bool.and_true, Bool.and_false, Bool.true_and, Bool.false_and, Bool.or_true, Bool.or_false, Bool.not_true, Bool.not_false, Nat.add_zero, Nat.zero_add, eq_self, Nat.not_lt_zero, Nat.reduceAdd, Nat.reduceMul, Nat.reduceSub, Nat.reduceDiv, Nat.reduceMod, Nat.reduceAnd, Nat.reduceXor, Nat.reduceEqDiff, Nat.reducePow, lt_T, lt_F, le_T, le_F, eq_F, hi', M1.2.2.1]
  | succ d ih =>
    intro i h1 fuel hi hf S
    obtain ⟨g, rfl⟩ : ∃ g, fuel = g + 1 := ⟨fuel - 1, by omega⟩
    have M1 : bM β h1 := M.mv (fun q _ _ => (S.1 62 q (by omega)).1) (fun a q _ _ => (S.1 a q (by omega)).1)
    have o1 := m_isPlace k M1 (c := i) (by omega) hw2 hh2
    unfold qX12_findGaps_7
    cases q : plP (bw β) (bh β) w hh i
    · have e : gB β w hh i = false := by
        unfold gB gapP
        rw [q, Bool.false_and]
      obtain ⟨h2, p1, p2⟩ := ih (i + 1) h1 g (by omega) (by omega) ⟨S.1, by rw [fb_ct_succ, e]; exact S.2.1, fun u hu hg => S.2.2 u (by
        by_cases y : u = i
        · rw [y, e] at hg; cases hg
        · omega) hg⟩
      refine ⟨h2, ?_, p2⟩
      simp (disch := omega) only [↓reduceIte, ↓q_m1, ↓q_m2, k_o, k_0, k_1, k_2, k_3, k_4, k_5, k_6, k_7, k_8, k_9, k_10, k_11, k_16, k_17, k_19, k_20, k_24, k_26, k_27, k_30, k_32, k_33, k_35, k_40, k_43, k_48, k_50, k_57, k_60, k_64, k_81, k_86, k_34, k_66, k_322, k_97, k_99, k_100, k_122, k_128, k_160, k_161, k_255, k_256, k_512, k_580, k_600, k_1000, k_4096, k_far, k_o, nI_add, n_mul, n_sub, n_div, n_rem, n_lt, n_le, n_eq, n_cl, n_and, n_or, n_xor, m1_lt, lt_m1, m1_eq, eq_m1, le_m1, m1_le, m2_eq, up_eq, up_ne, n_shl, n_shr, b2_some, let_e, ob_some, bI_0, bI_a, bI_t, bI_f, if_true, if_false, ite_true, ite_false, true_and, and_true, false_and, and_false, true_or, or_true, false_or, or_false, not_true_eq_false, not_false_eq_true, ite_not, ne_eq, Bool.true_eq_false, Bool.false_eq_true, reduceCtorEq, decide_true, decide_false, Bool.and_true, Bool.and_false, Bool.true_and, Bool.false_and, Bool.or_true, Bool.or_false, Bool.not_true, Bool.not_false, Nat.add_zero, Nat.zero_add, eq_self, Nat.not_lt_zero, Nat.reduceAdd, Nat.reduceMul, Nat.reduceSub, Nat.reduceDiv, Nat.reduceMod, Nat.reduceAnd, Nat.reduceXor, Nat.reduceEqDiff, Nat.reducePow, lt_T, lt_F, le_T, le_F, eq_F, M1.2.2.1, o1, q]
      exact p1
    · have o2 := m_holdsAt k M1 (f := 1) (c := i) (by omega) (by omega) hw q
      have o3 := rs_le18 k (f := 1) q
      rw [hg1] at o2 o3
      by_cases q2 : rs (shO (bO β)) (i / bw β) (i % bw β) w hh = 0
      · have e : gB β w hh i = true := by
          unfold gB gapP
          rw [q, decide_eq_true q2]
          rfl
        have hcn := fb_ct_le (gB β w hh) i
        obtain ⟨l', p1, p2⟩ := m_fg42 k (show i < bw β * bh β by omega) hw q M1.1 S.2.1 (by omega) (qX12_findGaps_7 g) (w * hh) 0 0 qm_N (by omega) (by unfold qm_N; omega) (fun j _ => by
          rw [lb_0]
          exact (decide_eq_false (fun ⟨q, y, _⟩ => absurd y (Nat.not_lt_zero q))).symm)
        obtain ⟨h2, p3, p4⟩ := ih (i + 1) (qm_seti (qm_setl h1 78 (fb_ct (gB β w hh) i) l') 62 35 (nI (fb_ct (gB β w hh) i + 1))) g (by omega) (by omega) ⟨(S.1.trans (qFr.setl (Or.inr rfl))).trans (qFr.seti (Or.inl ⟨rfl, rfl⟩)), by
          rw [sI_eq, fb_ct_succ, e]
          rfl, fun u hu hg j hj => by
          show lb (qm_up h1.2 78 (fb_ct (gB β w hh) i) l' 78 (fb_ct (gB β w hh) u)) j = _
          by_cases y : u = i
          · subst y
            rw [up_eq, p1 j hj]
            apply Bool.eq_iff_iff.mpr
            rw [Bool.and_eq_true, decide_eq_true_iff, decide_eq_true_iff]
            constructor
            · rintro ⟨c, c1, c2⟩
              have := ofs_in (show 0 < bw β by omega) hw q c1
              rw [c2] at this
              exact this
            · rintro ⟨c1, c2⟩
              exact ofs_ex (by omega) hw c2
          · have hu' : u < i := by omega
            rw [up_ne (fun t => y (fb_ct_kth_one hg e t.2))]
            exact S.2.2 u hu' hg j hj⟩
        refine ⟨h2, ?_, p4⟩
        simp (disch := omega) only [↓reduceIte, ↓q_m1, ↓q_m2, k_o, k_0, k_1, k_2, k_3, k_4, k_5, k_6, k_7, k_8, k_9, k_10, k_11, k_16, k_17, k_19, k_20, k_24, k_26, k_27, k_30, k_32, k_33, k_35, k_40, k_43, k_48, k_50, k_57, k_60, k_64, k_81, k_86, k_34, k_66, k_322, k_97, k_99, k_100, k_122, k_128, k_160, k_161, k_255, k_256, k_512, k_580, k_600, k_1000, k_4096, k_far, k_o, nI_add, n_mul, n_sub, n_div, n_rem, n_lt, n_le, n_eq, n_cl, n_and, n_or, n_xor, m1_lt, lt_m1, m1_eq, eq_m1, le_m1, m1_le, m2_eq, up_eq, up_ne, n_shl, n_shr, b2_some, let_e, ob_some, bI_0, bI_a, bI_t, bI_f, if_true, if_false, ite_true, ite_false, true_and, and_true, false_and, and_false, true_or, or_true, false_or, or_false, not_true_eq_false, not_false_eq_true, ite_not, ne_eq, Bool.true_eq_false, Bool.false_eq_true, reduceCtorEq, decide_true, decide_false, Bool.and_true, Bool.and_false, Bool.true_and, Bool.false_and, Bool.or_true, Bool.or_false, Bool.not_true, Bool.not_false, Nat.add_zero, Nat.zero_add, eq_self, Nat.not_lt_zero, Nat.reduceAdd, Nat.reduceMul, Nat.reduceSub, Nat.reduceDiv, Nat.reduceMod, Nat.reduceAnd, Nat.reduceXor, Nat.reduceEqDiff, Nat.reducePow, lt_T, lt_F, le_T, le_F, eq_F, M1.2.2.1, o1, q, o2, q2]
        rw [p2]
        exact p3
      · have e : gB β w hh i = false := by
          unfold gB gapP
          rw [decide_eq_false q2, Bool.and_false]
        obtain ⟨h2, p1, p2⟩ := ih (i + 1) h1 g (by omega) (by omega) ⟨S.1, by rw [fb_ct_succ, e]; exact S.2.1, fun u hu hg => S.2.2 u (by
          by_cases y : u = i
          · rw [y, e] at hg; cases hg
          · omega) hg⟩
        refine ⟨h2, ?_, p2⟩
        simp (disch := omega) only [↓reduceIte, ↓q_m1, ↓q_m2, k_o, k_0, k_1, k_2, k_3, k_4, k_5, k_6, k_7, k_8, k_9, k_10, k_11, k_16, k_17, k_19, k_20, k_24, k_26, k_27, k_30, k_32, k_33, k_35, k_40, k_43, k_48, k_50, k_57, k_60, k_64, k_81, k_86, k_34, k_66, k_322, k_97, k_99, k_100, k_122, k_128, k_160, k_161, k_255, k_256, k_512, k_580, k_600, k_1000, k_4096, k_far, k_o, nI_add, n_mul, n_sub, n_div, n_rem, n_lt, n_le, n_eq, n_cl, n_and, n_or, n_xor, m1_lt, lt_m1, m1_eq, eq_m1, le_m1, m1_le, m2_eq, up_eq, up_ne, n_shl, n_shr, b2_some, let_e, ob_some, bI_0, bI_a, bI_t, bI_f, if_true, if_false, ite_true, ite_false, true_and, and_true, false_and, and_false, true_or, or_true, false_or, or_false, not_true_eq_false, not_false_eq_true, ite_not, ne_eq, Bool.true_eq_false, Bool.false_eq_true, reduceCtorEq, decide_true, decide_false, Bool.and_true, Bool.and_false, Bool.true_and, Bool.false_and, Bool.or_true, Bool.or_false, Bool.not_true, Bool.not_false, Nat.add_zero, Nat.zero_add, eq_self, Nat.not_lt_zero, Nat.reduceAdd, Nat.reduceMul, Nat.reduceSub, Nat.reduceDiv, Nat.reduceMod, Nat.reduceAnd, Nat.reduceXor, Nat.reduceEqDiff, Nat.reducePow, lt_T, lt_F, le_T, le_F, eq_F, M1.2.2.1, o1, q, o2, q2]
        exact p1
theorem m_findGaps (k : bOK β) (M : bM β h) (hw : 1 ≤ w) (hw2 : w ≤ 8) (hh2 : hh ≤ 8) : ∃ h2, qX12_findGaps 62 (nI w) (nI hh) h = some h2 ∧ gM β w hh (bw β * bh β) h h2 := by
  have hN := k.n
  obtain ⟨h2, p1, p2⟩ := m_fg7 k M hw hw2 hh2 (bw β * bh β) 0 (qm_seti h 62 35 (nI 0)) qm_N (by omega) (by unfold qm_N; omega) ⟨qFr.seti (Or.inl ⟨rfl, rfl⟩), by rw [sI_eq]; rfl, fun u hu => absurd hu (Nat.not_lt_zero u)⟩
  refine ⟨h2, ?_, p2⟩
  unfold qX12_findGaps
  simp (disch := omega) only [↓reduceIte, ↓q_m1, ↓q_m2, k_o, k_0, k_1, k_2, k_3, k_4, k_5, k_6, k_7, k_8, k_9, k_10, k_11, k_16, k_17, k_19, k_20, k_24, k_26, k_27, k_30, k_32, k_33, k_35, k_40, k_43, k_48, k_50, k_57, k_60, k_64, k_81, k_86, k_34, k_66, k_322, k_97, k_99, k_100, k_122, k_128, k_160, k_161, k_255, k_256, k_512, k_580, k_600, k_1000, k_4096, k_far, k_o, nI_add, n_mul, n_sub, n_div, n_rem, n_lt, n_le, n_eq, n_cl, n_and, n_or, n_xor, m1_lt, lt_m1, m1_eq, eq_m1, le_m1, m1_le, m2_eq, up_eq, up_ne, n_shl, n_shr, b2_some, let_e, ob_some, bI_0, bI_a, bI_t, bI_f, if_true, if_false, ite_true, ite_false, true_and, and_true, false_and, and_false, true_or, or_true, false_or, or_false, not_true_eq_false, not_false_eq_true, ite_not, ne_eq, Bool.true_eq_false, Bool.false_eq_true, reduceCtorEq, decide_true, decide_false, Bool.and_true, Bool.and_false, Bool.true_and, Bool.false_and, Bool.or_true, Bool.or_false, Bool.not_true, Bool.not_false, Nat.add_zero, Nat.zero_add, eq_self, Nat.not_lt_zero, Nat.reduceAdd, Nat.reduceMul, Nat.reduceSub, Nat.reduceDiv, Nat.reduceMod, Nat.reduceAnd, Nat.reduceXor, Nat.reduceEqDiff, Nat.reducePow, lt_T, lt_F, le_T, le_F, eq_F]
  exact p1
end MC
