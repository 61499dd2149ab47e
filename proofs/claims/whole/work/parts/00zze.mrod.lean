/-! cutting: the reference's rod of a piece. -/
section MR
variable {π : qQ} {mu : Nat → Nat} {j K i : Nat}
def muT (π : qQ) (mu : Nat → Nat) (h : qm_H) : Prop := ∀ r, r < pn π → h.1 83 r = nI (mu r)
theorem rsM_lt (k : pOK π) : rsM π j < 2 ^ pp π := Nat.lt_pow_two_of_testBit _ (fun i hi => by
  rw [rsM_b, decide_eq_false (by omega)])
theorem p2_256 (k : pOK π) (hj : j < pp π) : 2 ^ j < 256 := by
  have hp : pp π ≤ 8 := k.2.1
  have : 2 ^ j < 2 ^ 8 := Nat.pow_lt_pow_right (by omega) (by omega)
  omega
theorem m_57 (k : pOK π) (hi : i < 2) {h0 : qm_H} (M : pM i π h0) (S : stt π mu j K) (hj : j < pp π) {tgt : Nat} (K21 : Nat → Int32 → Int32 → Int32 → Int32 → Int32 → qm_H → Option (Int32 × qm_H)) : ∀ d r h D fuel, r + d = pn π → d < fuel → r < pn π → (∃ r', r ≤ r' ∧ r' < pn π ∧ gd π mu j K r') → qFr (fun a _ => a = 83 ∨ a = 84) h0 h → muT π (upm mu r (2 ^ j)) h → tD π (upm mu r (2 ^ j)) 0 0 D h → ∃ r1 h', r ≤ r1 ∧ r1 < pn π ∧ gd π mu j K r1 ∧ (∀ x, r ≤ x → x < r1 → ¬ gd π mu j K x) ∧ qFr (fun a _ => a = 83 ∨ a = 84) h0 h' ∧ muT π (upm mu r1 (2 ^ j)) h' ∧ qX12_cutFrom_57 K21 fuel 62 (nI tgt) (nI K) (nI (rsM π (j + 1))) (nI r) (nI j) h = K21 62 (nI tgt) (nI K) (nI (rsM π (j + 1))) (nI r1) (nI (j + 1)) h' := by
  have hn := k.1
  have hp : pp π ≤ 8 := k.2.1
  have hK := S.2.1
  have rl := rsM_lt (j := j + 1) k
  have r256 : rsM π (j + 1) < 256 := by have := q_256 hp; omega
  have j256 := p2_256 k hj
  intro d
  induction d with
  | zero =>
    intro r h D fuel hr hf hrn
    omega
  | succ d ih =>
    intro r h D fuel hr hf hrn ex F mT T
    obtain ⟨g, rfl⟩ : ∃ g, fuel = g + 1 := ⟨fuel - 1, by omega⟩
    have t := T (rsM π (j + 1)) rl
    rw [Nat.mul_zero, Nat.zero_add, Nat.sub_zero] at t
    have tl := t.2.1
    have G := gd_D S hj hrn t.2
    by_cases q : D (rsM π (j + 1)) = K
    · refine ⟨r, h, Nat.le_refl r, hrn, G.mp q, fun x h1 h2 => by omega, F, mT, ?_⟩
      unfold qX12_cutFrom_57
      simp (disch := omega) only [↓reduceIte, ↓q_m1, ↓q_m2, k_o, k_0, k_1, k_2, k_3, k_4, k_5, k_6, k_7, k_8, k_9, k_10, k_11, k_16, k_17, k_19, k_20, k_24, k_26, k_27, k_30, k_32, k_33, k_35, k_40, k_43, k_48, k_50, k_57, k_60, k_64, k_81, k_86, k_34, k_66, k_322, k_97, k_99, k_100, k_122, k_128, k_160, k_161, k_255, k_256, k_512, k_580, k_600, k_1000, k_4096, k_far, k_o, nI_add, n_mul, n_sub, n_div, n_rem, n_lt, n_le, n_eq, n_cl, n_and, n_or, n_xor, m1_lt, lt_m1, m1_eq, eq_m1, le_m1, m1_le, m2_eq, up_eq, up_ne, n_shl, n_shr, b2_some, let_e, ob_some, bI_0, bI_a, bI_t, bI_f, if_true, if_false, ite_true, ite_false, true_and, and_true, false_and, and_false, true_or, or_true, false_or, or_false, not_true_eq_false, not_false_eq_true, ite_not, ne_eq, Bool.true_eq_false, Bool.false_eq_true, reduceCtorEq, decide_true, decide_false, Bool.and_true, Bool.and_false, Bool.true_and, Bool.false_and, Bool.or_true, Bool.or_false, Bool.not_true, Bool.not_false, Nat.add_zero, Nat.zero_add, eq_self, Nat.not_lt_zero, Nat.reduceAdd, Nat.reduceMul, Nat.reduceSub, Nat.reduceDiv, Nat.reduceMod, Nat.reduceAnd, Nat.reduceXor, Nat.reduceEqDiff, Nat.reducePow, lt_T, lt_F, le_T, le_F, eq_F, t.1, q]
    · have ng : ¬ gd π mu j K r := fun g' => q (G.mpr g')
      obtain ⟨r', x1, x2, x3⟩ := ex
      have hne : r' ≠ r := fun e => ng (e ▸ x3)
      have hr1 : r + 1 < pn π := by omega
      have m1' := mT r hrn
      have m2' := mT (r + 1) hr1
      have u1 : upm mu r (2 ^ j) r = mu r ||| 2 ^ j := by unfold upm; rw [if_pos rfl]
      have u2 : upm mu r (2 ^ j) (r + 1) = mu (r + 1) := by unfold upm; rw [if_neg (by omega)]
      rw [u1] at m1'
      rw [u2] at m2'
      have du := djn_up S hrn
      have or256 : mu r ||| 2 ^ j < 2 ^ 8 := Nat.or_lt_two_pow (S.1 r hrn).1 (by omega)
      have nd := n_diff (s := mu r ||| 2 ^ j) (t := 2 ^ j) (by omega) (spl_prt du)
      rw [← spl_x du] at nd
      have mT2 : muT π (upm mu (r + 1) (2 ^ j)) (qm_seti (qm_seti h 83 r (nI (mu r))) 83 (r + 1) (nI (mu (r + 1) ||| 2 ^ j))) := fun x hx => by
        by_cases y : x = r + 1
        · subst y
          rw [sI_eq]
          unfold upm
          rw [if_pos rfl]
        · rw [sI_ne (by omega)]
          by_cases y2 : x = r
          · subst y2
            rw [sI_eq]
            unfold upm
            rw [if_neg (by omega)]
          · rw [sI_ne (by omega), mT x hx]
            unfold upm
            rw [if_neg y2, if_neg y]
      have F2 : qFr (fun a _ => a = 83 ∨ a = 84) h0 (qm_seti (qm_seti h 83 r (nI (mu r))) 83 (r + 1) (nI (mu (r + 1) ||| 2 ^ j))) := (F.trans (qFr.seti (Or.inl rfl))).trans (qFr.seti (Or.inl rfl))
      generalize e2 : qm_seti (qm_seti h 83 r (nI (mu r))) 83 (r + 1) (nI (mu (r + 1) ||| 2 ^ j)) = h2 at mT2 F2
      have M2 : pM i π h2 := M.mv (fun q _ _ => (F2 62 q (by omega)).1) (fun q => (F2 70 q (by omega)).1)
      obtain ⟨D2, h3, p1, p2, p3⟩ := m_fcosts (mu := upm mu (r + 1) (2 ^ j)) (f := 0) k hi (by omega) M2 (fun x hx => ⟨(upm_b k S hj hx).1, mT2 x hx⟩)
      obtain ⟨r1, h', q1, q2, q3, q4, q5, q6, q7⟩ := ih (r + 1) h3 D2 g (by omega) (by omega) hr1 ⟨r', by omega, x2, x3⟩ (F2.trans (p1.mono (fun a q z => Or.inr z))) (fun x hx => by rw [(p1 83 x (by omega)).1]; exact mT2 x hx) p2
      refine ⟨r1, h', by omega, q2, q3, fun x h1 h2 => by
        by_cases y : x = r
        · rw [y]; exact ng
        · exact q4 x (by omega) h2, q5, q6, ?_⟩
      unfold qX12_cutFrom_57
      simp (disch := omega) only [↓reduceIte, ↓q_m1, ↓q_m2, k_o, k_0, k_1, k_2, k_3, k_4, k_5, k_6, k_7, k_8, k_9, k_10, k_11, k_16, k_17, k_19, k_20, k_24, k_26, k_27, k_30, k_32, k_33, k_35, k_40, k_43, k_48, k_50, k_57, k_60, k_64, k_81, k_86, k_34, k_66, k_322, k_97, k_99, k_100, k_122, k_128, k_160, k_161, k_255, k_256, k_512, k_580, k_600, k_1000, k_4096, k_far, k_o, nI_add, n_mul, n_sub, n_div, n_rem, n_lt, n_le, n_eq, n_cl, n_and, n_or, n_xor, m1_lt, lt_m1, m1_eq, eq_m1, le_m1, m1_le, m2_eq, up_eq, up_ne, n_shl, n_shr, b2_some, let_e, ob_some, bI_0, bI_a, bI_t, bI_f, if_true, if_false, ite_true, ite_false, true_and, and_true, false_and, and_false, true_or, or_true, false_or, or_false, not_true_eq_false, not_false_eq_true, ite_not, ne_eq, Bool.true_eq_false, Bool.false_eq_true, reduceCtorEq, decide_true, decide_false, Bool.and_true, Bool.and_false, Bool.true_and, Bool.false_and, Bool.or_true, Bool.or_false, Bool.not_true, Bool.not_false, Nat.add_zero, Nat.zero_add, eq_self, Nat.not_lt_zero, Nat.reduceAdd, Nat.reduceMul, Nat.reduceSub, Nat.reduceDiv, Nat.reduceMod, Nat.reduceAnd, Nat.reduceXor, Nat.reduceEqDiff, Nat.reducePow, lt_T, lt_F, le_T, le_F, eq_F, t.1, eq_false q, m1', m2', Nat.one_mul, nd, n_or, e2, p3]
      exact q7
end MR
