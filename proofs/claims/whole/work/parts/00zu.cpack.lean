/-! cutting: the class's table of costs. -/
/-- a is a part of s -/
def prt (a s : Nat) : Prop := ∀ i, a.testBit i = true → s.testBit i = true
theorem prt_x {a s : Nat} (p : prt a s) : spl s (s ^^^ a) a := fun i => by
  have := p i
  rw [Nat.testBit_xor]
  revert this
  cases a.testBit i <;> cases s.testBit i <;> decide
theorem spl_prt {s a b : Nat} (S : spl s a b) : prt b s := fun i hi => by rw [(S i).1, hi, Bool.or_true]
theorem spl_x {s a b : Nat} (S : spl s a b) : a = s ^^^ b := Nat.eq_of_testBit_eq (fun i => by
  have := S i
  rw [Nat.testBit_xor]
  revert this
  cases a.testBit i <;> cases s.testBit i <;> cases b.testBit i <;> decide)
theorem prt_and {t s : Nat} : prt (t &&& s) s := fun i hi => by
  rw [Nat.testBit_and, Bool.and_eq_true] at hi
  exact hi.2
theorem prt_le {a s : Nat} (p : prt a s) : a ≤ s := by
  have : a = a &&& s := Nat.eq_of_testBit_eq (fun i => by
    have := p i
    rw [Nat.testBit_and]
    revert this
    cases a.testBit i <;> cases s.testBit i <;> decide)
  rw [this]
  exact Nat.and_le_right
theorem prt_lt {s u : Nat} (p : prt u s) (h : u ≠ 0) : s ^^^ u < s := by
  have S := (prt_x p)
  have q := prt_le (spl_prt S.symm)
  rcases Nat.lt_or_eq_of_le q with y | y
  · exact y
  · exfalso
    apply h
    exact Nat.eq_of_testBit_eq (fun i => by
      have := S i
      rw [y] at this
      rw [Nat.zero_testBit]
      revert this
      cases s.testBit i <;> cases u.testBit i <;> decide)
def Wt (P : Nat → Nat) (m : Nat) : Nat := fb_sm (fun i => if m.testBit i then P i else 0) 8
def cC (P L c : Nat → Nat) (r t v : Nat) : Prop := (t = 0 ∧ v = 0) ∨ (t ≠ 0 ∧ Wt P t ≤ L r ∧ v = c r)
/-- e is the least so far: parts of s above t looked at -/
def inv9 (P : Nat → Nat) (E : Nat → Nat) (l c s e t : Nat) : Prop := e ≤ E s ∧ (∀ u, prt u s → t < u → Wt P u ≤ l → e ≤ E (s ^^^ u) + c) ∧ (e = E s ∨ ∃ u, prt u s ∧ u ≠ 0 ∧ Wt P u ≤ l ∧ e = E (s ^^^ u) + c)
theorem c_pi9 {P E : Nat → Nat} {l c r s : Nat} {K : Nat → Int32 → Int32 → qm_H → Option qm_H} (hr : r < 6) (hs : s < 256) (hs0 : 0 < s) (hl : l ≤ 1000) (hc : c ≤ 1000) (hW : ∀ m, m ≤ s → Wt P m ≤ 1000) (hE : ∀ m, m ≤ s → E m ≤ 1000000) : ∀ t e h fuel, t < fuel → prt t s → h.1 54 r = nI l → h.1 55 r = nI c → (∀ m, m ≤ s → h.1 56 m = nI (Wt P m)) → (∀ m, m < s → h.1 57 m = nI (E m)) → h.1 57 s = nI e → inv9 P E l c s e t → ∃ e' h', qFr (fun a q => a = 57 ∧ q = s) h h' ∧ h'.1 57 s = nI e' ∧ inv9 P E l c s e' 0 ∧ qX4_packInto_9 K fuel 53 (nI r) (nI s) (nI t) h = K 53 (nI r) (nI (s - 1)) h' := by
  intro t
  induction t using Nat.strongRecOn with
  | ind t ih =>
    intro e h fuel hf hp e1 e2 e3 e4 e5 I
    obtain ⟨g, rfl⟩ : ∃ g, fuel = g + 1 := ⟨fuel - 1, by omega⟩
    have hts := prt_le hp
    by_cases t0 : t = 0
    · subst t0
      refine ⟨e, h, qFr.refl _ h, e5, I, ?_⟩
      unfold qX4_packInto_9
      simp (disch := omega) only [↓reduceIte, ↓q_m1, ↓q_m2, k_o, k_0, k_1, k_2, k_3, k_4, k_5, k_6, k_7, k_8, k_9, k_10, k_11, k_16, k_17, k_19, k_20, k_24, k_26, k_27, k_30, k_32, k_33, k_35, k_40, k_43, k_48, k_50, k_57, k_60, k_64, k_81, k_86, k_34, k_66, k_322, k_97, k_99, k_100, k_122, k_128, k_160, k_161, k_255, k_256, k_512, k_580, k_600, k_1000, k_4096, k_far, k_o, nI_add, n_mul, n_sub, n_div, n_rem, n_lt, n_le, n_eq, n_cl, n_and, n_or, n_xor, m1_lt, lt_m1, m1_eq, eq_m1, le_m1, m1_le, m2_eq, up_eq, up_ne, n_shl, n_shr, b2_some, let_e, ob_some, bI_0, bI_a, bI_t, bI_f, if_true, if_false, ite_true, ite_false, true_and, and_true, false_and, and_false, true_or, or_true, false_or, or_false, not_true_eq_false, not_false_eq_true, ite_not, ne_eq, Bool.true_eq_false, Bool.false_eq_true, reduceCtorEq, decide_true, decide_false, Bool.and_true, Bool.and_false, Bool.true_and, Bool.false_and, Bool.or_true, Bool.or_false, Bool.not_true, Bool.not_false, Nat.add_zero, Nat.zero_add, eq_self, Nat.not_lt_zero, Nat.reduceAdd, Nat.reduceMul, Nat.reduceSub, Nat.reduceDiv, Nat.reduceMod, Nat.reduceAnd, Nat.reduceXor, Nat.reduceEqDiff, Nat.reducePow, lt_T, lt_F, le_T, le_F, eq_F, n_m1]
    · have he : e ≤ 1000000 := Nat.le_trans I.1 (hE s (Nat.le_refl s))
      have hx : (t - 1) &&& s < t := Nat.lt_of_le_of_lt Nat.and_le_left (by omega)
      have nx : ∀ u, prt u s → (t - 1) &&& s < u → t < u ∨ u = t := fun u hu h1 => by
        rcases Nat.lt_trichotomy u t with y | y | y
        · have := sub_next s t u hp hu y
          omega
        · exact Or.inr y
        · exact Or.inl y
      have hxl := prt_lt hp t0
      have xw := hW t hts
      by_cases q : l < Wt P t
      · obtain ⟨e', h', p1, p2, p3, p4⟩ := ih _ hx e h g (by omega) prt_and e1 e2 e3 e4 e5 ⟨I.1, fun u hu h1 h2 => by
          rcases nx u hu h1 with y | y
          · exact I.2.1 u hu y h2
          · rw [y] at h2; omega, I.2.2⟩
        refine ⟨e', h', p1, p2, p3, ?_⟩
        unfold qX4_packInto_9
        simp (disch := omega) only [↓reduceIte, ↓q_m1, ↓q_m2, k_o, k_0, k_1, k_2, k_3, k_4, k_5, k_6, k_7, k_8, k_9, k_10, k_11, k_16, k_17, k_19, k_20, k_24, k_26, k_27, k_30, k_32, k_33, k_35, k_40, k_43, k_48, k_50, k_57, k_60, k_64, k_81, k_86, k_34, k_66, k_322, k_97, k_99, k_100, k_122, k_128, k_160, k_161, k_255, k_256, k_512, k_580, k_600, k_1000, k_4096, k_far, k_o, nI_add, n_mul, n_sub, n_div, n_rem, n_lt, n_le, n_eq, n_cl, n_and, n_or, n_xor, m1_lt, lt_m1, m1_eq, eq_m1, le_m1, m1_le, m2_eq, up_eq, up_ne, n_shl, n_shr, b2_some, let_e, ob_some, bI_0, bI_a, bI_t, bI_f, if_true, if_false, ite_true, ite_false, true_and, and_true, false_and, and_false, true_or, or_true, false_or, or_false, not_true_eq_false, not_false_eq_true, ite_not, ne_eq, Bool.true_eq_false, Bool.false_eq_true, reduceCtorEq, decide_true, decide_false, Bool.and_true, Bool.and_false, Bool.true_and, Bool.false_and, Bool.or_true, Bool.or_false, Bool.not_true, Bool.not_false, Nat.add_zero, Nat.zero_add, eq_self, Nat.not_lt_zero, Nat.reduceAdd, Nat.reduceMul, Nat.reduceSub, Nat.reduceDiv, Nat.reduceMod, Nat.reduceAnd, Nat.reduceXor, Nat.reduceEqDiff, Nat.reducePow, lt_T, lt_F, le_T, le_F, eq_F, e1, e3 t hts, n_and]
        exact p4
      · have hEx := hE (s ^^^ t) (by omega)
        obtain ⟨e', h', p1, p2, p3, p4⟩ := ih _ hx (min e (E (s ^^^ t) + c)) (qm_seti h 57 s (nI (min e (E (s ^^^ t) + c)))) g (by omega) prt_and (by rw [sI_ne (by omega)]; exact e1) (by rw [sI_ne (by omega)]; exact e2) (fun m hm => by rw [sI_ne (by omega)]; exact e3 m hm) (fun m hm => by rw [sI_ne (by omega)]; exact e4 m hm) (by rw [sI_eq]) ⟨Nat.le_trans (Nat.min_le_left _ _) I.1, fun u hu h1 h2 => by
          rcases nx u hu h1 with y | y
          · exact Nat.le_trans (Nat.min_le_left _ _) (I.2.1 u hu y h2)
          · rw [y]
            exact Nat.min_le_right _ _, by
          rcases Nat.le_total e (E (s ^^^ t) + c) with y | y
          · rw [Nat.min_eq_left y]
            exact I.2.2
          · rw [Nat.min_eq_right y]
            exact Or.inr ⟨t, hp, t0, by omega, rfl⟩⟩
        refine ⟨e', h', (qFr.seti ⟨rfl, rfl⟩).trans p1, p2, p3, ?_⟩
        have v1 := e4 (s ^^^ t) hxl
        unfold qX4_packInto_9
        simp (disch := omega) only [↓reduceIte, ↓q_m1, ↓q_m2, k_o, k_0, k_1, k_2, k_3, k_4, k_5, k_6, k_7, k_8, k_9, k_10, k_11, k_16, k_17, k_19, k_20, k_24, k_26, k_27, k_30, k_32, k_33, k_35, k_40, k_43, k_48, k_50, k_57, k_60, k_64, k_81, k_86, k_34, k_66, k_322, k_97, k_99, k_100, k_122, k_128, k_160, k_161, k_255, k_256, k_512, k_580, k_600, k_1000, k_4096, k_far, k_o, nI_add, n_mul, n_sub, n_div, n_rem, n_lt, n_le, n_eq, n_cl, n_and, n_or, n_xor, m1_lt, lt_m1, m1_eq, eq_m1, le_m1, m1_le, m2_eq, up_eq, up_ne, n_shl, n_shr, b2_some, let_e, ob_some, bI_0, bI_a, bI_t, bI_f, if_true, if_false, ite_true, ite_false, true_and, and_true, false_and, and_false, true_or, or_true, false_or, or_false, not_true_eq_false, not_false_eq_true, ite_not, ne_eq, Bool.true_eq_false, Bool.false_eq_true, reduceCtorEq, decide_true, decide_false, Bool.and_true, Bool.and_false, Bool.true_and, Bool.false_and, Bool.or_true, Bool.or_false, Bool.not_true, Bool.not_false, Nat.add_zero, Nat.zero_add, eq_self, Nat.not_lt_zero, Nat.reduceAdd, Nat.reduceMul, Nat.reduceSub, Nat.reduceDiv, Nat.reduceMod, Nat.reduceAnd, Nat.reduceXor, Nat.reduceEqDiff, Nat.reducePow, lt_T, lt_F, le_T, le_F, eq_F, e1, e2, e3 t hts, n_and, n_xor, v1, e5, j_minn]
        exact p4
/-- the cost of s with one rod more -/
theorem lea_step {P L c E : Nat → Nat} {r s e : Nat} (hE : ∀ m, m ≤ s → lea (AtP (cC P L c) r m) (E m)) (I : inv9 P E (L r) (c r) s e 0) : lea (AtP (cC P L c) (r + 1) s) e := by
  have l0 := hE s (Nat.le_refl s)
  refine ⟨Nat.le_trans I.1 l0.1, ?_, fun he => ?_⟩
  · rintro v ⟨a, t, v1, v2, S, h1, h2, rfl⟩
    have ha := spl_x S
    have hp := spl_prt S
    rcases h2 with ⟨rfl, rfl⟩ | ⟨t0, w, rfl⟩
    · rw [S.eq0] at I
      rw [S.eq0] at l0
      have := l0.2.1 v1 h1
      have := I.1
      omega
    · have := I.2.1 t hp (by omega) w
      have hl := prt_lt hp t0
      rw [ha] at h1
      have := (hE (s ^^^ t) (by omega)).2.1 v1 h1
      omega
  · rcases I.2.2 with y | ⟨u, hu, u0, w, y⟩
    · exact ⟨s, 0, e, 0, spl_0 s, by rw [y]; exact l0.2.2 (by omega), Or.inl ⟨rfl, rfl⟩, rfl⟩
    · have hl := prt_lt hu u0
      exact ⟨s ^^^ u, u, E (s ^^^ u), c r, prt_x hu, (hE (s ^^^ u) (by omega)).2.2 (by omega), Or.inr ⟨u0, w, rfl⟩, y⟩
def tabE (P L c : Nat → Nat) (r M : Nat) (E : Nat → Nat) (h : qm_H) : Prop := ∀ m, m ≤ M → h.1 57 m = nI (E m) ∧ lea (AtP (cC P L c) r m) (E m)
theorem c_pi2 {P L c E : Nat → Nat} {r M : Nat} {h0 : qm_H} (hr : r < 6) (hM : M < 256) (hl : L r ≤ 1000) (hc : c r ≤ 1000) (hW : ∀ m, m ≤ M → Wt P m ≤ 1000) (T : tabE P L c r M E h0) (e1 : h0.1 54 r = nI (L r)) (e2 : h0.1 55 r = nI (c r)) (e3 : ∀ m, m ≤ M → h0.1 56 m = nI (Wt P m)) : ∀ s h fuel, s ≤ M → s < fuel → qFr (fun a _ => a = 57) h0 h → (∀ m, m ≤ s → h.1 57 m = nI (E m)) → (∀ m, s < m → m ≤ M → ∃ e, h.1 57 m = nI e ∧ lea (AtP (cC P L c) (r + 1) m) e) → ∃ h', qFr (fun a _ => a = 57) h0 h' ∧ (∃ E', tabE P L c (r + 1) M E' h') ∧ qX4_packInto_2 fuel 53 (nI r) (nI s) h = some h' := by
  intro s
  induction s with
  | zero =>
    intro h fuel hs hf F A B
    obtain ⟨g, rfl⟩ : ∃ g, fuel = g + 1 := ⟨fuel - 1, by omega⟩
    have z : ∃ e, h.1 57 0 = nI e ∧ lea (AtP (cC P L c) (r + 1) 0) e := ⟨E 0, A 0 (Nat.le_refl 0), lea_step (E := E) (fun m hm => (T m (by omega)).2) ⟨Nat.le_refl _, fun u hu h1 _ => absurd (prt_le hu) (by omega), Or.inl rfl⟩⟩
    have all : ∀ m, ∃ e, m ≤ M → h.1 57 m = nI e ∧ lea (AtP (cC P L c) (r + 1) m) e := fun m => by
      by_cases y : m ≤ M
      · by_cases y0 : m = 0
        · subst y0
          obtain ⟨e, z'⟩ := z
          exact ⟨e, fun _ => z'⟩
        · obtain ⟨e, z'⟩ := B m (by omega) y
          exact ⟨e, fun _ => z'⟩
      · exact ⟨0, fun t => absurd t y⟩
    obtain ⟨E', hE'⟩ := Classical.axiomOfChoice all
    refine ⟨h, F, ⟨E', fun m hm => hE' m hm⟩, ?_⟩
    unfold qX4_packInto_2
    simp (disch := omega) only [↓reduceIte, ↓q_m1, ↓q_m2, k_o, k_0, k_1, k_2, k_3, k_4, k_5, k_6, k_7, k_8, k_9, k_10, k_11, k_16, k_17, k_19, k_20, k_24, k_26, k_27, k_30, k_32, k_33, k_35, k_40, k_43, k_48, k_50, k_57, k_60, k_64, k_81, k_86, k_34, k_66, k_322, k_97, k_99, k_100, k_122, k_128, k_160, k_161, k_255, k_256, k_512, k_580, k_600, k_1000, k_4096, k_far, k_o, nI_add, n_mul, n_sub, n_div, n_rem, n_lt, n_le, n_eq, n_cl, n_and, n_or, n_xor, m1_lt, lt_m1, m1_eq, eq_m1, le_m1, m1_le, m2_eq, up_eq, up_ne, n_shl, n_shr, b2_some, let_e, ob_some, bI_0, bI_a, bI_t, bI_f, if_true, if_false, ite_true, ite_false, true_and, and_true, false_and, and_false, true_or, or_true, false_or, or_false, not_true_eq_false, not_false_eq_true, ite_not, ne_eq, Bool.true_eq_false, Bool.false_eq_true, reduceCtorEq, decide_true, decide_false, Bool.and_true, Bool.and_false, Bool.true_and, Bool.false_and, Bool.or_true, Bool.or_false, Bool.not_true, Bool.not_false, Nat.add_zero, Nat.zero_add, eq_self, Nat.not_lt_zero, Nat.reduceAdd, Nat.reduceMul, Nat.reduceSub, Nat.reduceDiv, Nat.reduceMod, Nat.reduceAnd, Nat.reduceXor, Nat.reduceEqDiff, Nat.reducePow, lt_T, lt_F, le_T, le_F, eq_F]
  | succ s ih =>
    intro h fuel hs hf F A B
    obtain ⟨g, rfl⟩ : ∃ g, fuel = g + 1 := ⟨fuel - 1, by omega⟩
    obtain ⟨e', h', p1, p2, p3, p4⟩ := c_pi9 (P := P) (E := E) (l := L r) (c := c r) (K := qX4_packInto_2 g) hr (show s + 1 < 256 by omega) (by omega) hl hc (fun m hm => hW m (by omega)) (fun m hm => (T m (by omega)).2.1) (s + 1) (E (s + 1)) h qm_N (by unfold qm_N; omega) (fun i hi => hi) (by rw [(F 54 r (by omega)).1]; exact e1) (by rw [(F 55 r (by omega)).1]; exact e2) (fun m hm => by rw [(F 56 m (by omega)).1]; exact e3 m (by omega)) (fun m hm => A m (by omega)) (A _ (Nat.le_refl _)) ⟨Nat.le_refl _, fun u hu h1 _ => absurd (prt_le hu) (by omega), Or.inl rfl⟩
    obtain ⟨h2, q1, q2, q3⟩ := ih h' g (by omega) (by omega) (F.trans (p1.mono (fun a q z => z.1))) (fun m hm => by rw [(p1 57 m (by omega)).1]; exact A m (by omega)) (fun m h1 h2 => by
      by_cases y : m = s + 1
      · subst y
        exact ⟨e', p2, lea_step (E := E) (fun m hm => (T m (by omega)).2) p3⟩
      · rw [(p1 57 m (by omega)).1]
        exact B m (by omega) h2)
    refine ⟨h2, q1, q2, ?_⟩
    rw [Nat.add_sub_cancel] at p4
    rw [q3] at p4
    unfold qX4_packInto_2
    simp (disch := omega) only [↓reduceIte, ↓q_m1, ↓q_m2, k_o, k_0, k_1, k_2, k_3, k_4, k_5, k_6, k_7, k_8, k_9, k_10, k_11, k_16, k_17, k_19, k_20, k_24, k_26, k_27, k_30, k_32, k_33, k_35, k_40, k_43, k_48, k_50, k_57, k_60, k_64, k_81, k_86, k_34, k_66, k_322, k_97, k_99, k_100, k_122, k_128, k_160, k_161, k_255, k_256, k_512, k_580, k_600, k_1000, k_4096, k_far, k_o, nI_add, n_mul, n_sub, n_div, n_rem, n_lt, n_le, n_eq, n_cl, n_and, n_or, n_xor, m1_lt, lt_m1, m1_eq, eq_m1, le_m1, m1_le, m2_eq, up_eq, up_ne, n_shl, n_shr, b2_some, let_e, ob_some, bI_0, bI_a, bI_t, bI_f, if_true, if_false, ite_true, ite_false, true_and, and_true, false_and, and_false, true_or, or_true, false_or, or_false, not_true_eq_false, not_false_eq_true, ite_not, ne_eq, Bool.true_eq_false, Bool.false_eq_true, reduceCtorEq, decide_true, decide_false, Bool.and_true, Bool.and_false, Bool.true_and, Bool.false_and, Bool.or_true, Bool.or_false, Bool.not_true, Bool.not_false, Nat.add_zero, Nat.zero_add, eq_self, Nat.not_lt_zero, Nat.reduceAdd, Nat.reduceMul, Nat.reduceSub, Nat.reduceDiv, Nat.reduceMod, Nat.reduceAnd, Nat.reduceXor, Nat.reduceEqDiff, Nat.reducePow, lt_T, lt_F, le_T, le_F, eq_F]
    exact p4
theorem c_packInto {P L c E : Nat → Nat} {r M : Nat} {h : qm_H} (hr : r < 6) (hM : M < 256) (hl : L r ≤ 1000) (hc : c r ≤ 1000) (hW : ∀ m, m ≤ M → Wt P m ≤ 1000) (T : tabE P L c r M E h) (e1 : h.1 54 r = nI (L r)) (e2 : h.1 55 r = nI (c r)) (e3 : ∀ m, m ≤ M → h.1 56 m = nI (Wt P m)) : ∃ h', qFr (fun a _ => a = 57) h h' ∧ (∃ E', tabE P L c (r + 1) M E' h') ∧ qX4_packInto 53 (nI r) (nI M) h = some h' := by
  unfold qX4_packInto
  exact c_pi2 hr hM hl hc hW T e1 e2 e3 M h qm_N (Nat.le_refl M) (by unfold qm_N; omega) (qFr.refl _ h) (fun m hm => (T m hm).1) (fun m h1 h2 => absurd h2 (by omega))
