/-! cutting: the class's rod of a piece. -/
theorem s_neg (a b : Int32) : a - -b = a + b := by rw [Int32.sub_eq_add_neg, Int32.neg_neg]
section RD
variable {π : qQ} {mu : Nat → Nat} {j K b : Nat}
theorem sp_le (S : stt π mu j K) : fb_sm (spm mu) (pn π) ≤ K := by
  obtain ⟨v0, _, e⟩ := (At_mu (fun r hr => (S.1 r hr).2.1) (fun r hr i => by
    rw [rsM_b]
    cases y : (mu r).testBit i
    · rw [Bool.and_false]
    · have := (S.1 r hr).2.2 i y
      rw [decide_eq_false (by omega)]
      rfl)).mp S.2.2.1
  omega
theorem gd_le (k : pOK π) (S : stt π mu j K) (hj : j < pp π) {r : Nat} (hr : r < pn π) (g : gd π mu j K r) : fb_sm (spm mu) (pn π) + pcm mu r ≤ K := by
  have := sp_le (stt_next k S hj hr g)
  rw [sp_up hr] at this
  exact this
def csT (π : qQ) (mu : Nat → Nat) (h : qm_H) : Prop := ∀ r, r < pn π → h.1 54 r = nI (lfm π mu r) ∧ h.1 55 r = nI (pcm mu r)
theorem lfm_le (k : pOK π) {r : Nat} (hr : r < pn π) : lfm π mu r ≤ 60 ∧ pcm mu r ≤ 1 := by
  have := (k.2.2.2.2.1 r hr).2
  unfold lfm pcm
  refine ⟨by omega, ?_⟩
  split <;> omega
theorem up_lf (k : pOK π) (S : stt π mu j K) (hj : j < pp π) {r : Nat} (hr : r < pn π) : lfm π (upm mu r (2 ^ j)) r = lfm π mu r - pP π j ∧ pcm (upm mu r (2 ^ j)) r = 0 := by
  refine ⟨?_, ?_⟩
  · unfold lfm
    rw [W_up k S hj hr]
    omega
  · have e : upm mu r (2 ^ j) r = mu r ||| 2 ^ j := by unfold upm; rw [if_pos rfl]
    unfold pcm
    rw [e, if_neg up_ne0]
theorem up_lf2 {r x J : Nat} (h : x ≠ r) : lfm π (upm mu r J) x = lfm π mu x ∧ pcm (upm mu r J) x = pcm mu x := by
  have e : upm mu r J x = mu x := by unfold upm; rw [if_neg h]
  unfold lfm pcm
  rw [e]
  exact ⟨rfl, rfl⟩
theorem c_cutOff {r : Nat} (hr : r < 6) (x y : Int32) (h : qm_H) : qX4_cutOff 53 (nI r) x y h = some (qm_seti (qm_seti h 54 r (h.1 54 r - x)) 55 r y) := by
  unfold qX4_cutOff
  simp (disch := omega) only [↓reduceIte, ↓q_m1, ↓q_m2, k_o, k_0, k_1, k_2, k_3, k_4, k_5, k_6, k_7, k_8, k_9, k_10, k_11, k_16, k_17, k_19, k_20, k_24, k_26, k_27, k_30, k_32, k_33, k_35, k_40, k_43, k_48, k_50, k_57, k_60, k_64, k_81, k_86, k_34, k_66, k_322, k_97, k_99, k_100, k_122, k_128, k_160, k_161, k_255, k_256, k_512, k_580, k_600, k_1000, k_4096, k_far, k_o, nI_add, n_mul, n_sub, n_div, n_rem, n_lt, n_le, n_eq, n_cl, n_and, n_or, n_xor, m1_lt, lt_m1, m1_eq, eq_m1, le_m1, m1_le, m2_eq, up_eq, up_ne, n_shl, n_shr, b2_some, let_e, ob_some, bI_0, bI_a, bI_t, bI_f, if_true, if_false, ite_true, ite_false, true_and, and_true, false_and, and_false, true_or, or_true, false_or, or_false, not_true_eq_false, not_false_eq_true, ite_not, ne_eq, Bool.true_eq_false, Bool.false_eq_true, reduceCtorEq, decide_true, decide_false, Bool.and_true, Bool.and_false, Bool.true_and, Bool.false_and, Bool.or_true, Bool.or_false, Bool.not_true, Bool.not_false, Nat.add_zero, Nat.zero_add, eq_self, Nat.not_lt_zero, Nat.reduceAdd, Nat.reduceMul, Nat.reduceSub, Nat.reduceDiv, Nat.reduceMod, Nat.reduceAnd, Nat.reduceXor, Nat.reduceEqDiff, Nat.reducePow, lt_T, lt_F, le_T, le_F, eq_F]
theorem csT_cut (k : pOK π) (S : stt π mu j K) (hj : j < pp π) {r : Nat} (hr : r < pn π) (hw : pP π j ≤ lfm π mu r) {h : qm_H} (c : csT π mu h) : csT π (upm mu r (2 ^ j)) (qm_seti (qm_seti h 54 r (h.1 54 r - nI (pP π j))) 55 r (nI 0)) := by
  intro x hx
  have bl := lfm_le (mu := mu) k hr
  by_cases q : x = r
  · subst q
    rw [sI_ne (by omega), sI_eq, sI_eq, (up_lf k S hj hr).1, (up_lf k S hj hr).2, (c x hr).1]
    refine ⟨?_, rfl⟩
    simp (disch := omega) only [↓reduceIte, ↓q_m1, ↓q_m2, k_o, k_0, k_1, k_2, k_3, k_4, k_5, k_6, k_7, k_8, k_9, k_10, k_11, k_16, k_17, k_19, k_20, k_24, k_26, k_27, k_30, k_32, k_33, k_35, k_40, k_43, k_48, k_50, k_57, k_60, k_64, k_81, k_86, k_34, k_66, k_322, k_97, k_99, k_100, k_122, k_128, k_160, k_161, k_255, k_256, k_512, k_580, k_600, k_1000, k_4096, k_far, k_o, nI_add, n_mul, n_sub, n_div, n_rem, n_lt, n_le, n_eq, n_cl, n_and, n_or, n_xor, m1_lt, lt_m1, m1_eq, eq_m1, le_m1, m1_le, m2_eq, up_eq, up_ne, n_shl, n_shr, b2_some, let_e, ob_some, bI_0, bI_a, bI_t, bI_f, if_true, if_false, ite_true, ite_false, true_and, and_true, false_and, and_false, true_or, or_true, false_or, or_false, not_true_eq_false, not_false_eq_true, ite_not, ne_eq, Bool.true_eq_false, Bool.false_eq_true, reduceCtorEq, decide_true, decide_false, Bool.and_true, Bool.and_false, Bool.true_and, Bool.false_and, Bool.or_true, Bool.or_false, Bool.not_true, Bool.not_false, Nat.add_zero, Nat.zero_add, eq_self, Nat.not_lt_zero, Nat.reduceAdd, Nat.reduceMul, Nat.reduceSub, Nat.reduceDiv, Nat.reduceMod, Nat.reduceAnd, Nat.reduceXor, Nat.reduceEqDiff, Nat.reducePow, lt_T, lt_F, le_T, le_F, eq_F]
  · rw [sI_ne (by omega), sI_ne (by omega), sI_ne (by omega), sI_ne (by omega), (up_lf2 (π := π) q).1, (up_lf2 (π := π) q).2]
    exact c x hx
theorem c_first (k : pOK π) (hb : b + 2 < 53) {h0 : qm_H} (C : pC b π h0) (S : stt π mu j K) (hj : j < pp π) : ∀ d r h fuel, r + d = pn π → d < fuel → (∃ r', r ≤ r' ∧ r' < pn π ∧ gd π mu j K r') → qFr frS h0 h → csT π mu h → ∃ r1 h', r ≤ r1 ∧ r1 < pn π ∧ gd π mu j K r1 ∧ (∀ x, r ≤ x → x < r1 → ¬ gd π mu j K x) ∧ qFr frS h0 h' ∧ csT π mu h' ∧ qX4_firstRodFor_3 fuel 53 b (nI j) (nI (K - fb_sm (spm mu) (pn π))) (nI r) h = some (nI r1, h') := by
  have hn := k.1
  have hp : pp π ≤ 8 := k.2.1
  have hK := S.2.1
  have hsp := sp_le S
  intro d
  induction d with
  | zero =>
    rintro r h fuel hr hf ⟨r', h1, h2, _⟩
    omega
  | succ d ih =>
    intro r h fuel hr hf ex F c
    obtain ⟨g, rfl⟩ : ∃ g, fuel = g + 1 := ⟨fuel - 1, by omega⟩
    have hr' : r < pn π := by omega
    have C1 : pC b π h := C.mv (fun q k _ _ => (F q k (by unfold frS; omega)).1)
    have pj := C1.2.2.2.2 j hj
    have pjl := (k.2.2.2.2.2 j hj).2
    have bl := lfm_le (mu := mu) k hr'
    have cr := c r hr'
    have next : ∀ h1, ¬ gd π mu j K r → qFr frS h0 h1 → csT π mu h1 → ∃ r1 h', r ≤ r1 ∧ r1 < pn π ∧ gd π mu j K r1 ∧ (∀ x, r ≤ x → x < r1 → ¬ gd π mu j K x) ∧ qFr frS h0 h' ∧ csT π mu h' ∧ qX4_firstRodFor_3 g 53 b (nI j) (nI (K - fb_sm (spm mu) (pn π))) (nI (r + 1)) h1 = some (nI r1, h') := fun h1 ng F1 c1 => by
      obtain ⟨r', h1', h2', g'⟩ := ex
      have : r' ≠ r := fun e => ng (e ▸ g')
      obtain ⟨r1, h', q1, q2, q3, q4, q5, q6, q7⟩ := ih (r + 1) h1 g (by omega) (by omega) ⟨r', by omega, h2', g'⟩ F1 c1
      exact ⟨r1, h', by omega, q2, q3, fun x hx1 hx2 => by
        by_cases y : x = r
        · rw [y]; exact ng
        · exact q4 x (by omega) hx2, q5, q6, q7⟩
    by_cases qA : lfm π mu r < pP π j
    · have ng : ¬ gd π mu j K r := fun g' => by
        have := At_W g' r hr'
        rw [W_up k S hj hr'] at this
        unfold lfm at qA
        omega
      obtain ⟨r1, h', q1, q2, q3, q4, q5, q6, q7⟩ := next h ng F c
      refine ⟨r1, h', q1, q2, q3, q4, q5, q6, ?_⟩
      unfold qX4_firstRodFor_3
      simp (disch := omega) only [↓reduceIte, ↓q_m1, ↓q_m2, k_o, k_0, k_1, k_2, k_3, k_4, k_5, k_6, k_7, k_8, k_9, k_10, k_11, k_16, k_17, k_19, k_20, k_24, k_26, k_27, k_30, k_32, k_33, k_35, k_40, k_43, k_48, k_50, k_57, k_60, k_64, k_81, k_86, k_34, k_66, k_322, k_97, k_99, k_100, k_122, k_128, k_160, k_161, k_255, k_256, k_512, k_580, k_600, k_1000, k_4096, k_far, k_o, nI_add, n_mul, n_sub, n_div, n_rem, n_lt, n_le, n_eq, n_cl, n_and, n_or, n_xor, m1_lt, lt_m1, m1_eq, eq_m1, le_m1, m1_le, m2_eq, up_eq, up_ne, n_shl, n_shr, b2_some, let_e, ob_some, bI_0, bI_a, bI_t, bI_f, if_true, if_false, ite_true, ite_false, true_and, and_true, false_and, and_false, true_or, or_true, false_or, or_false, not_true_eq_false, not_false_eq_true, ite_not, ne_eq, Bool.true_eq_false, Bool.false_eq_true, reduceCtorEq, decide_true, decide_false, Bool.and_true, Bool.and_false, Bool.true_and, Bool.false_and, Bool.or_true, Bool.or_false, Bool.not_true, Bool.not_false, Nat.add_zero, Nat.zero_add, eq_self, Nat.not_lt_zero, Nat.reduceAdd, Nat.reduceMul, Nat.reduceSub, Nat.reduceDiv, Nat.reduceMod, Nat.reduceAnd, Nat.reduceXor, Nat.reduceEqDiff, Nat.reducePow, lt_T, lt_F, le_T, le_F, eq_F, C1.1, pj, cr.1, cr.2]
      exact q7
    · by_cases qB : K - fb_sm (spm mu) (pn π) < pcm mu r
      · have ng : ¬ gd π mu j K r := fun g' => by
          have := gd_le k S hj hr' g'
          omega
        obtain ⟨r1, h', q1, q2, q3, q4, q5, q6, q7⟩ := next h ng F c
        refine ⟨r1, h', q1, q2, q3, q4, q5, q6, ?_⟩
        unfold qX4_firstRodFor_3
        simp (disch := omega) only [↓reduceIte, ↓q_m1, ↓q_m2, k_o, k_0, k_1, k_2, k_3, k_4, k_5, k_6, k_7, k_8, k_9, k_10, k_11, k_16, k_17, k_19, k_20, k_24, k_26, k_27, k_30, k_32, k_33, k_35, k_40, k_43, k_48, k_50, k_57, k_60, k_64, k_81, k_86, k_34, k_66, k_322, k_97, k_99, k_100, k_122, k_128, k_160, k_161, k_255, k_256, k_512, k_580, k_600, k_1000, k_4096, k_far, k_o, nI_add, n_mul, n_sub, n_div, n_rem, n_lt, n_le, n_eq, n_cl, n_and, n_or, n_xor, m1_lt, lt_m1, m1_eq, eq_m1, le_m1, m1_le, m2_eq, up_eq, up_ne, n_shl, n_shr, b2_some, let_e, ob_some, bI_0, bI_a, bI_t, bI_f, if_true, if_false, ite_true, ite_false, true_and, and_true, false_and, and_false, true_or, or_true, false_or, or_false, not_true_eq_false, not_false_eq_true, ite_not, ne_eq, Bool.true_eq_false, Bool.false_eq_true, reduceCtorEq, decide_true, decide_false, Bool.and_true, Bool.and_false, Bool.true_and, Bool.false_and, Bool.or_true, Bool.or_false, Bool.not_true, Bool.not_false, Nat.add_zero, Nat.zero_add, eq_self, Nat.not_lt_zero, Nat.reduceAdd, Nat.reduceMul, Nat.reduceSub, Nat.reduceDiv, Nat.reduceMod, Nat.reduceAnd, Nat.reduceXor, Nat.reduceEqDiff, Nat.reducePow, lt_T, lt_F, le_T, le_F, eq_F, C1.1, pj, cr.1, cr.2]
        exact q7
      · have cc := csT_cut k S hj hr' (by omega) c
        have co := c_cutOff (show r < 6 by omega) (nI (pP π j)) (nI 0) h
        generalize e3 : qm_seti (qm_seti h 54 r (h.1 54 r - nI (pP π j))) 55 r (nI 0) = h3 at cc co
        have F3 : qFr frS h h3 := by rw [← e3]; exact (qFr.seti (by unfold frS; omega)).trans (qFr.seti (by unfold frS; omega))
        have C3 : pC b π h3 := C1.mv (fun q k _ _ => (F3 q k (by unfold frS; omega)).1)
        obtain ⟨E, h4, p1, p2, _, p4⟩ := c_pack k C3 hb (show j + 1 ≤ pp π by omega) (fun x hx => by have := lfm_le (mu := upm mu r (2 ^ j)) k hx; omega) cc
        have le := (p2 _ (Nat.le_refl _)).2
        generalize E (2 ^ (pp π - (j + 1)) - 1) = E1 at p4 le
        have el := le.1
        have G := gd_E k S hj hr' (by unfold lfm at qA; have := (S.1 r hr').2.1; omega) le
        have v4 : h4.1 54 r = nI (lfm π mu r - pP π j) := by rw [(p1 54 r (by omega)).1, (cc r hr').1, (up_lf k S hj hr').1]
        have co2 := c_cutOff (show r < 6 by omega) (-(nI (pP π j))) (nI (pcm mu r)) h4
        rw [v4, s_neg] at co2
        have ea : nI (lfm π mu r - pP π j) + nI (pP π j) = nI (lfm π mu r) := by
          simp (disch := omega) only [↓reduceIte, ↓q_m1, ↓q_m2, k_o, k_0, k_1, k_2, k_3, k_4, k_5, k_6, k_7, k_8, k_9, k_10, k_11, k_16, k_17, k_19, k_20, k_24, k_26, k_27, k_30, k_32, k_33, k_35, k_40, k_43, k_48, k_50, k_57, k_60, k_64, k_81, k_86, k_34, k_66, k_322, k_97, k_99, k_100, k_122, k_128, k_160, k_161, k_255, k_256, k_512, k_580, k_600, k_1000, k_4096, k_far, k_o, nI_add, n_mul, n_sub, n_div, n_rem, n_lt, n_le, n_eq, n_cl, n_and, n_or, n_xor, m1_lt, lt_m1, m1_eq, eq_m1, le_m1, m1_le, m2_eq, up_eq, up_ne, n_shl, n_shr, b2_some, let_e, ob_some, bI_0, bI_a, bI_t, bI_f, if_true, if_false, ite_true, ite_false, true_and, and_true, false_and, and_false, true_or, or_true, false_or, or_false, not_true_eq_false, not_false_eq_true, ite_not, ne_eq, Bool.true_eq_false, Bool.false_eq_true, reduceCtorEq, decide_true, decide_false, Bool.and_true, Bool.and_false, Bool.true_and, Bool.false_and, Bool.or_true, Bool.or_false, Bool.not_true, Bool.not_false, Nat.add_zero, Nat.zero_add, eq_self, Nat.not_lt_zero, Nat.reduceAdd, Nat.reduceMul, Nat.reduceSub, Nat.reduceDiv, Nat.reduceMod, Nat.reduceAnd, Nat.reduceXor, Nat.reduceEqDiff, Nat.reducePow, lt_T, lt_F, le_T, le_F, eq_F]
          omega
        rw [ea] at co2
        generalize e5 : qm_seti (qm_seti h4 54 r (nI (lfm π mu r))) 55 r (nI (pcm mu r)) = h5 at co2
        have c5 : csT π mu h5 := fun x hx => by
          rw [← e5]
          by_cases q : x = r
          · subst q
            rw [sI_ne (by omega), sI_eq, sI_eq]
            exact ⟨rfl, rfl⟩
          · rw [sI_ne (by omega), sI_ne (by omega), sI_ne (by omega), sI_ne (by omega), (p1 54 x (by omega)).1, (p1 55 x (by omega)).1]
            have := cc x hx
            rw [(up_lf2 (π := π) q).1, (up_lf2 (π := π) q).2] at this
            exact this
        have F5 : qFr frS h0 h5 := by
          rw [← e5]
          exact (((F.trans F3).trans (p1.mono (fun a q z => by unfold frS; omega))).trans (qFr.seti (by unfold frS; omega))).trans (qFr.seti (by unfold frS; omega))
        by_cases qC : K - fb_sm (spm mu) (pn π) < pcm mu r + E1
        · have ng : ¬ gd π mu j K r := fun g' => by
            have := G.mpr g'
            omega
          obtain ⟨r1, h', q1, q2, q3, q4, q5, q6, q7⟩ := next h5 ng F5 c5
          refine ⟨r1, h', q1, q2, q3, q4, q5, q6, ?_⟩
          unfold qX4_firstRodFor_3
          simp (disch := omega) only [↓reduceIte, ↓q_m1, ↓q_m2, k_o, k_0, k_1, k_2, k_3, k_4, k_5, k_6, k_7, k_8, k_9, k_10, k_11, k_16, k_17, k_19, k_20, k_24, k_26, k_27, k_30, k_32, k_33, k_35, k_40, k_43, k_48, k_50, k_57, k_60, k_64, k_81, k_86, k_34, k_66, k_322, k_97, k_99, k_100, k_122, k_128, k_160, k_161, k_255, k_256, k_512, k_580, k_600, k_1000, k_4096, k_far, k_o, nI_add, n_mul, n_sub, n_div, n_rem, n_lt, n_le, n_eq, n_cl, n_and, n_or, n_xor, m1_lt, lt_m1, m1_eq, eq_m1, le_m1, m1_le, m2_eq, up_eq, up_ne, n_shl, n_shr, b2_some, let_e, ob_some, bI_0, bI_a, bI_t, bI_f, if_true, if_false, ite_true, ite_false, true_and, and_true, false_and, and_false, true_or, or_true, false_or, or_false, not_true_eq_false, not_false_eq_true, ite_not, ne_eq, Bool.true_eq_false, Bool.false_eq_true, reduceCtorEq, decide_true, decide_false, Bool.and_true, Bool.and_false, Bool.true_and, Bool.false_and, Bool.or_true, Bool.or_false, Bool.not_true, Bool.not_false, Nat.add_zero, Nat.zero_add, eq_self, Nat.not_lt_zero, Nat.reduceAdd, Nat.reduceMul, Nat.reduceSub, Nat.reduceDiv, Nat.reduceMod, Nat.reduceAnd, Nat.reduceXor, Nat.reduceEqDiff, Nat.reducePow, lt_T, lt_F, le_T, le_F, eq_F, C1.1, pj, cr.1, cr.2, co, p4, co2]
          exact q7
        · refine ⟨r, h5, Nat.le_refl r, hr', G.mp (by omega), fun x h1 h2 => by omega, F5, c5, ?_⟩
          unfold qX4_firstRodFor_3
          simp (disch := omega) only [↓reduceIte, ↓q_m1, ↓q_m2, k_o, k_0, k_1, k_2, k_3, k_4, k_5, k_6, k_7, k_8, k_9, k_10, k_11, k_16, k_17, k_19, k_20, k_24, k_26, k_27, k_30, k_32, k_33, k_35, k_40, k_43, k_48, k_50, k_57, k_60, k_64, k_81, k_86, k_34, k_66, k_322, k_97, k_99, k_100, k_122, k_128, k_160, k_161, k_255, k_256, k_512, k_580, k_600, k_1000, k_4096, k_far, k_o, nI_add, n_mul, n_sub, n_div, n_rem, n_lt, n_le, n_eq, n_cl, n_and, n_or, n_xor, m1_lt, lt_m1, m1_eq, eq_m1, le_m1, m1_le, m2_eq, up_eq, up_ne, n_shl, n_shr, b2_some, let_e, ob_some, bI_0, bI_a, bI_t, bI_f, if_true, if_false, ite_true, ite_false, true_and, and_true, false_and, and_false, true_or, or_true, false_or, or_false, not_true_eq_false, not_false_eq_true, ite_not, ne_eq, Bool.true_eq_false, Bool.false_eq_true, reduceCtorEq, decide_true, decide_false, Bool.and_true, Bool.and_false, Bool.true_and, Bool.false_and, Bool.or_true, Bool.or_false, Bool.not_true, Bool.not_false, Nat.add_zero, Nat.zero_add, eq_self, Nat.not_lt_zero, Nat.reduceAdd, Nat.reduceMul, Nat.reduceSub, Nat.reduceDiv, Nat.reduceMod, Nat.reduceAnd, Nat.reduceXor, Nat.reduceEqDiff, Nat.reducePow, lt_T, lt_F, le_T, le_F, eq_F, C1.1, pj, cr.1, cr.2, co, p4, co2]
end RD
