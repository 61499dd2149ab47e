/-! cutting: both find the same rods. -/
section BO
variable {π : qQ} {K b i : Nat}
theorem cut_both (k : pOK π) (hb : b + 2 < 53) {hc0 hm0 : qm_H} (C : pC b π hc0) (hi : i < 2) (M : pM i π hm0) {tgt : Nat} (ht : tgt < pp π) : ∀ d j mu last hc hm f1 f2, j + d = tgt + 1 → d < f1 → d < f2 → stt π mu j K → qFr frS hc0 hc → qFr (fun a _ => a = 83 ∨ a = 84) hm0 hm → csT π mu hc → muT π mu hm → ∃ R hc' hm', qFr frS hc0 hc' ∧ qFr (fun a _ => a = 83 ∨ a = 84) hm0 hm' ∧ qX4_rodOf_22 f1 53 b (nI tgt) (nI K) last (nI (fb_sm (spm mu) (pn π))) (nI j) hc = some (R, hc') ∧ qX12_cutFrom_21 f2 62 (nI tgt) (nI K) (nI (rsM π j)) last (nI j) hm = some (R, hm') := by
  have hn := k.1
  have hp : pp π ≤ 8 := k.2.1
  intro d
  induction d with
  | zero =>
    intro j mu last hc hm fuel f2 hd hf hf2 S Fc Fm c m
    obtain ⟨g, rfl⟩ : ∃ g, fuel = g + 1 := ⟨fuel - 1, by omega⟩
    obtain ⟨g2, rfl⟩ : ∃ g, f2 = g + 1 := ⟨f2 - 1, by omega⟩
    refine ⟨last, hc, hm, Fc, Fm, ?_, ?_⟩
    · unfold qX4_rodOf_22
      simp (disch := omega) only [↓reduceIte, ↓q_m1, ↓q_m2, k_o, k_0, k_1, k_2, k_3, k_4, k_5, k_6, k_7, k_8, k_9, k_10, k_11, k_16, k_17, k_19, k_20, k_24, k_26, k_27, k_30, k_32, k_33, k_35, k_40, k_43, k_48, k_50, k_57, k_60, k_64, k_81, k_86, k_34, k_66, k_322, k_97, k_99, k_100, k_122, k_128, k_160, k_161, k_255, k_256, k_512, k_580, k_600, k_1000, k_4096, k_far, k_o, nI_add, n_mul, n_sub, n_div, n_rem, n_lt, n_le, n_eq, n_cl, n_and, n_or, n_xor, m1_lt, lt_m1, m1_eq, eq_m1, le_m1, m1_le, m2_eq, up_eq, up_ne, n_shl, n_shr, b2_some, let_e, ob_some, bI_0, bI_a, bI_t, bI_f, if_true, if_false, ite_true, ite_false, true_and, and_true, false_and, and_false, true_or, or_true, false_or, or_false, not_true_eq_false, not_false_eq_true, ite_not, ne_eq, Bool.true_eq_false, Bool.false_eq_true, reduceCtorEq, decide_true, decide_false, Bool.and_true, Bool.and_false, Bool.true_and, Bool.false_and, Bool.or_true, Bool.or_false, Bool.not_true, Bool.not_false, Nat.add_zero, Nat.zero_add, eq_self, Nat.not_lt_zero, Nat.reduceAdd, Nat.reduceMul, Nat.reduceSub, Nat.reduceDiv, Nat.reduceMod, Nat.reduceAnd, Nat.reduceXor, Nat.reduceEqDiff, Nat.reducePow, lt_T, lt_F, le_T, le_F, eq_F]
    · unfold qX12_cutFrom_21
      simp (disch := omega) only [↓reduceIte, ↓q_m1, ↓q_m2, k_o, k_0, k_1, k_2, k_3, k_4, k_5, k_6, k_7, k_8, k_9, k_10, k_11, k_16, k_17, k_19, k_20, k_24, k_26, k_27, k_30, k_32, k_33, k_35, k_40, k_43, k_48, k_50, k_57, k_60, k_64, k_81, k_86, k_34, k_66, k_322, k_97, k_99, k_100, k_122, k_128, k_160, k_161, k_255, k_256, k_512, k_580, k_600, k_1000, k_4096, k_far, k_o, nI_add, n_mul, n_sub, n_div, n_rem, n_lt, n_le, n_eq, n_cl, n_and, n_or, n_xor, m1_lt, lt_m1, m1_eq, eq_m1, le_m1, m1_le, m2_eq, up_eq, up_ne, n_shl, n_shr, b2_some, let_e, ob_some, bI_0, bI_a, bI_t, bI_f, if_true, if_false, ite_true, ite_false, true_and, and_true, false_and, and_false, true_or, or_true, false_or, or_false, not_true_eq_false, not_false_eq_true, ite_not, ne_eq, Bool.true_eq_false, Bool.false_eq_true, reduceCtorEq, decide_true, decide_false, Bool.and_true, Bool.and_false, Bool.true_and, Bool.false_and, Bool.or_true, Bool.or_false, Bool.not_true, Bool.not_false, Nat.add_zero, Nat.zero_add, eq_self, Nat.not_lt_zero, Nat.reduceAdd, Nat.reduceMul, Nat.reduceSub, Nat.reduceDiv, Nat.reduceMod, Nat.reduceAnd, Nat.reduceXor, Nat.reduceEqDiff, Nat.reducePow, lt_T, lt_F, le_T, le_F, eq_F]
  | succ d ih =>
    intro j mu last hc hm fuel f2 hd hf hf2 S Fc Fm c m
    obtain ⟨g, rfl⟩ : ∃ g, fuel = g + 1 := ⟨fuel - 1, by omega⟩
    obtain ⟨g2, rfl⟩ : ∃ g, f2 = g + 1 := ⟨f2 - 1, by omega⟩
    have hj : j < pp π := by omega
    have hK := S.2.1
    have hsp := sp_le S
    have Cc : pC b π hc := C.mv (fun q k _ _ => (Fc q k (by unfold frS; omega)).1)
    obtain ⟨r', hr', gr'⟩ := stt_ex S hj
    -- the class
    obtain ⟨r1, h1, _, a2, a3, a4, a5, a6, a7⟩ := c_first k hb Cc S hj (pn π) 0 hc qm_N (by omega) (by unfold qm_N; omega) ⟨r', Nat.zero_le _, hr', gr'⟩ (qFr.refl _ hc) c
    have wl : pP π j ≤ lfm π mu r1 := by
      have := At_W a3 r1 a2
      rw [W_up k S hj a2] at this
      unfold lfm
      omega
    have C1 : pC b π h1 := Cc.mv (fun q k _ _ => (a5 q k (by unfold frS; omega)).1)
    have pj := C1.2.2.2.2 j hj
    have c55 := (a6 r1 a2).2
    have cc := csT_cut k S hj a2 wl a6
    have co := c_cutOff (show r1 < 6 by omega) (nI (pP π j)) (nI 0) h1
    have bl := lfm_le (mu := mu) k a2
    -- the reference
    have h0n : 0 < pn π := by omega
    have mz := m 0 h0n
    have j256 := p2_256 k hj
    have r256 : rsM π j < 256 := by have := q_256 hp; have := rsM_lt (j := j) k; omega
    have or256 : mu 0 ||| 2 ^ j < 2 ^ 8 := Nat.or_lt_two_pow (S.1 0 h0n).1 (by omega)
    have nd := n_diff (s := rsM π j) (t := 2 ^ j) r256 (spl_prt (rsM_spl hj))
    rw [← spl_x (rsM_spl hj)] at nd
    have mT : muT π (upm mu 0 (2 ^ j)) (qm_seti hm 83 0 (nI (mu 0 ||| 2 ^ j))) := fun x hx => by
      unfold upm
      by_cases y : x = 0
      · subst y
        rw [sI_eq, if_pos rfl]
      · rw [sI_ne (by omega), if_neg y]
        exact m x hx
    have F2 : qFr (fun a _ => a = 83 ∨ a = 84) hm0 (qm_seti hm 83 0 (nI (mu 0 ||| 2 ^ j))) := Fm.trans (qFr.seti (Or.inl rfl))
    have M2 : pM i π (qm_seti hm 83 0 (nI (mu 0 ||| 2 ^ j))) := M.mv (fun q _ _ => (F2 62 q (by omega)).1) (fun q => (F2 70 q (by omega)).1)
    obtain ⟨D, h3, p1, p2, p3⟩ := m_fcosts (mu := upm mu 0 (2 ^ j)) (f := 0) k hi (by omega) M2 (fun x hx => ⟨(upm_b k S hj hx).1, mT x hx⟩)
    obtain ⟨r2, h4, _, b2, b3, b4, b5, b6, b7⟩ := m_57 (tgt := tgt) k hi M S hj (qX12_cutFrom_21 g2) (pn π) 0 h3 D qm_N (by omega) (by unfold qm_N; omega) h0n ⟨r', Nat.zero_le _, hr', gr'⟩ (F2.trans (p1.mono (fun a q z => Or.inr z))) (fun x hx => by rw [(p1 83 x (by omega)).1]; exact mT x hx) p2
    have er : r2 = r1 := by
      rcases Nat.lt_trichotomy r2 r1 with y | y | y
      · exact absurd b3 (a4 r2 (Nat.zero_le _) y)
      · exact y
      · exact absurd a3 (b4 r1 (Nat.zero_le _) y)
    subst er
    have es := sp_up (j := j) (mu := mu) a2
    obtain ⟨R, hc', hm', q1, q2, q3, q4⟩ := ih (j + 1) (upm mu r2 (2 ^ j)) (nI r2) _ h4 g g2 (by omega) (by omega) (by omega) (stt_next k S hj a2 a3) ((Fc.trans a5).trans ((qFr.seti (by unfold frS; omega)).trans (qFr.seti (by unfold frS; omega)))) b5 cc b6
    refine ⟨R, hc', hm', q1, q2, ?_, ?_⟩
    · rw [es] at q3
      unfold qX4_rodOf_22 qX4_firstRodFor
      simp (disch := omega) only [↓reduceIte, ↓q_m1, ↓q_m2, k_o, k_0, k_1, k_2, k_3, k_4, k_5, k_6, k_7, k_8, k_9, k_10, k_11, k_16, k_17, k_19, k_20, k_24, k_26, k_27, k_30, k_32, k_33, k_35, k_40, k_43, k_48, k_50, k_57, k_60, k_64, k_81, k_86, k_34, k_66, k_322, k_97, k_99, k_100, k_122, k_128, k_160, k_161, k_255, k_256, k_512, k_580, k_600, k_1000, k_4096, k_far, k_o, nI_add, n_mul, n_sub, n_div, n_rem, n_lt, n_le, n_eq, n_cl, n_and, n_or, n_xor, m1_lt, lt_m1, m1_eq, eq_m1, le_m1, m1_le, m2_eq, up_eq, up_ne, n_shl, n_shr, b2_some, let_e, ob_some, bI_0, bI_a, bI_t, bI_f, if_true, if_false, ite_true, ite_false, true_and, and_true, false_and, and_false, true_or, or_true, false_or, or_false, not_true_eq_false, not_false_eq_true, ite_not, ne_eq, Bool.true_eq_false, Bool.false_eq_true, reduceCtorEq, decide_true, decide_false, Bool.and_true, Bool.and_false, Bool.true_and, Bool.false_and, Bool.or_true, Bool.or_false, Bool.not_true, Bool.not_false, Nat.add_zero, Nat.zero_add, eq_self, Nat.not_lt_zero, Nat.reduceAdd, Nat.reduceMul, Nat.reduceSub, Nat.reduceDiv, Nat.reduceMod, Nat.reduceAnd, Nat.reduceXor, Nat.reduceEqDiff, Nat.reducePow, lt_T, lt_F, le_T, le_F, eq_F, a7, c55, pj, co]
      exact q3
    · rw [q4] at b7
      unfold qX12_cutFrom_21
      simp (disch := omega) only [↓reduceIte, ↓q_m1, ↓q_m2, k_o, k_0, k_1, k_2, k_3, k_4, k_5, k_6, k_7, k_8, k_9, k_10, k_11, k_16, k_17, k_19, k_20, k_24, k_26, k_27, k_30, k_32, k_33, k_35, k_40, k_43, k_48, k_50, k_57, k_60, k_64, k_81, k_86, k_34, k_66, k_322, k_97, k_99, k_100, k_122, k_128, k_160, k_161, k_255, k_256, k_512, k_580, k_600, k_1000, k_4096, k_far, k_o, nI_add, n_mul, n_sub, n_div, n_rem, n_lt, n_le, n_eq, n_cl, n_and, n_or, n_xor, m1_lt, lt_m1, m1_eq, eq_m1, le_m1, m1_le, m2_eq, up_eq, up_ne, n_shl, n_shr, b2_some, let_e, ob_some, bI_0, bI_a, bI_t, bI_f, if_true, if_false, ite_true, ite_false, true_and, and_true, false_and, and_false, true_or, or_true, false_or, or_false, not_true_eq_false, not_false_eq_true, ite_not, ne_eq, Bool.true_eq_false, Bool.false_eq_true, reduceCtorEq, decide_true, decide_false, Bool.and_true, Bool.and_false, Bool.true_and, Bool.false_and, Bool.or_true, Bool.or_false, Bool.not_true, Bool.not_false, Nat.add_zero, Nat.zero_add, eq_self, Nat.not_lt_zero, Nat.reduceAdd, Nat.reduceMul, Nat.reduceSub, Nat.reduceDiv, Nat.reduceMod, Nat.reduceAnd, Nat.reduceXor, Nat.reduceEqDiff, Nat.reducePow, lt_T, lt_F, le_T, le_F, eq_F, Nat.one_mul, nd, mz, n_or, p3]
      exact b7
end BO
