/-! holes: the reference's labels. -/
def opC (β : qB) (c : Nat) : Bool := bO β (c / bw β) (c % bw β)
def cnn (W N : Nat) (op : Nat → Bool) (a c : Nat) : Prop := ∀ P : Nat → Prop, P a → (∀ x y, P x → nb W N x y → op x = true → op y = true → P y) → P c
theorem cnn_r {W N : Nat} {op : Nat → Bool} {a : Nat} : cnn W N op a a := fun _ h _ => h
theorem cnn_s {W N : Nat} {op : Nat → Bool} {a x y : Nat} (h : cnn W N op a x) (hn : nb W N x y) (hx : op x = true) (hy : op y = true) : cnn W N op a y := fun P h1 h2 => h2 x y (h P h1 h2) hn hx hy
theorem nb_sym {W N x y : Nat} (h : nb W N x y) : nb W N y x := by
  obtain ⟨h1, h2, h3⟩ := h
  refine ⟨h2, h1, ?_⟩
  rcases h3 with h3 | h3 | h3 | h3
  · exact Or.inr (Or.inl h3)
  · exact Or.inl h3
  · exact Or.inr (Or.inr (Or.inr h3))
  · exact Or.inr (Or.inr (Or.inl h3))
/-- labels: each is a STROKE of its own hole, and not behind -/
def LI (W N : Nat) (op : Nat → Bool) (X : Nat → Nat) : Prop := ∀ c, c < N → op c = true → X c ≤ c ∧ op (X c) = true ∧ cnn W N op (X c) c
def sO (N : Nat) (op : Nat → Bool) (X : Nat → Nat) : Nat := fb_sm (fun c => if op c then X c else 0) N
theorem sO_up {N : Nat} {op : Nat → Bool} {X : Nat → Nat} {i v : Nat} (hi : i < N) (ho : op i = true) : sO N op (upN X i v) + X i = sO N op X + v := by
  unfold sO
  have := fb_sm_upd (fun c => if op c then X c else 0) v hi
  rw [if_pos ho] at this
  rw [← this]
  congr 1
  apply fb_sm_cong
  intro c hc
  by_cases q : c = i
  · rw [q, upN_eq, if_pos rfl, if_pos ho]
  · rw [upN_ne q, if_neg q]
def HI (W N : Nat) (op : Nat → Bool) (X Y : Nat → Nat) (fl : Bool) : Prop := LI W N op Y ∧ sO N op Y ≤ sO N op X ∧ (fl = true → sO N op Y < sO N op X) ∧ (fl = false → ∀ c, c < N → op c = true → Y c = X c)
def hL (N : Nat) (op : Nat → Bool) (X : Nat → Nat) (h : qm_H) : Prop := ∀ c, c < N → h.1 81 c = (if op c then nI (X c) else m1)
section HM
variable {β : qB} {h : qm_H}
theorem m_hround (k : bOK β) {X : Nat → Nat} (M : bM β h) (K : Nat → Int32 → qm_H → Option qm_H) : ∀ d i Y fl h1 fuel, i + d = 4 * (bw β * bh β) → d < fuel → qFr (fun a _ => a = 81) h h1 → hL (bw β * bh β) (opC β) Y h1 → HI (bw β) (bw β * bh β) (opC β) X Y fl → (fl = false → ∀ a way c, way < 4 → 4 * a + way < i → nxt (bw β) (bw β * bh β) a way = some c → opC β a = true → opC β c = true → Y c ≤ Y a) → ∃ Y' fl' h2, qX12_findHoles_45 K fuel 62 (bI fl) (nI i) h1 = K 62 (bI fl') h2 ∧ qFr (fun a _ => a = 81) h h2 ∧ hL (bw β * bh β) (opC β) Y' h2 ∧ HI (bw β) (bw β * bh β) (opC β) X Y' fl' ∧ (fl' = false → ∀ p c, nb (bw β) (bw β * bh β) p c → opC β p = true → opC β c = true → Y' c ≤ Y' p) := by
  have hW := k.W
  have hH := k.H
  have hn := k.n
  intro d
  induction d with
  | zero =>
    intro i Y fl h1 fuel hi hfu F T I J
    obtain ⟨g, rfl⟩ : ∃ g, fuel = g + 1 := ⟨fuel - 1, by omega⟩
    have M1 : bM β h1 := M.mv (fun q _ _ => (F 62 q (by omega)).1) (fun a q _ _ => (F a q (by omega)).1)
    refine ⟨Y, fl, h1, ?_, F, T, I, fun z p c hnb hp hc => ?_⟩
    · unfold qX12_findHoles_45
      simp (disch := omega) only [↓reduceIte, ↓q_m1, ↓q_m2, k_o, k_0, k_1, k_2, k_3, k_4, k_5, k_6, k_7, k_8, k_9, k_10, k_11, k_16, k_17, k_19, k_20, k_24, k_26, k_27, k_30, k_32, k_33, k_35, k_40, k_43, k_48, k_50, k_57, k_60, k_64, k_81, k_86, k_34, k_66, k_322, k_97, k_99, k_100, k_122, k_128, k_160, k_161, k_255, k_256, k_512, k_580, k_600, k_1000, k_4096, k_far, k_o, nI_add, n_mul, n_sub, n_div, n_rem, n_lt, n_le, n_eq, n_cl, n_and, n_or, n_xor, m1_lt, lt_m1, m1_eq, eq_m1, le_m1, m1_le, m2_eq, up_eq, up_ne, n_shl, n_shr, b2_some, let_e, ob_some, bI_0, bI_a, bI_t, bI_f, if_true, if_false, ite_true, ite_false, true_and, and_true, false_and, and_false, true_or, or_true, false_or, or_false, not_true_eq_false, not_false_eq_true, ite_not, ne_eq, Bool.true_eq_false, Bool.false_eq_true, reduceCtorEq, decide_true, decide_false, Bool.and_true, Bool.and_false, Bool.true_and, Bool.false_and, Bool.or_true, Bool.or_false, Bool.not_true, Bool.not_false, Nat.add_zero, Nat.zero_add, eq_self, Nat.not_lt_zero, Nat.reduceAdd, Nat.reduceMul, Nat.reduceSub, Nat.reduceDiv, Nat.reduceMod, Nat.reduceAnd, Nat.reduceXor, Nat.reduceEqDiff, Nat.reducePow, lt_T, lt_F, le_T, le_F, eq_F, M1.2.2.1]
    · obtain ⟨way, w1, w2⟩ := nb_nxt hW.1 hW.2 hH.2 hnb
      exact J z p way c w1 (by have := hnb.1; omega) w2 hp hc
  | succ d ih =>
    intro i Y fl h1 fuel hi hfu F T I J
    obtain ⟨g, rfl⟩ : ∃ g, fuel = g + 1 := ⟨fuel - 1, by omega⟩
    have M1 : bM β h1 := M.mv (fun q _ _ => (F 62 q (by omega)).1) (fun a q _ _ => (F a q (by omega)).1)
    have ha : i / 4 < bw β * bh β := by omega
    have o := m_next k M1 (a := i / 4) (way := i % 4) ha (by omega)
    have keep : (∀ c, nxt (bw β) (bw β * bh β) (i / 4) (i % 4) = some c → opC β (i / 4) = true → opC β c = true → Y c ≤ Y (i / 4)) → ∃ Y' fl' h2, qX12_findHoles_45 K g 62 (bI fl) (nI (i + 1)) h1 = K 62 (bI fl') h2 ∧ qFr (fun a _ => a = 81) h h2 ∧ hL (bw β * bh β) (opC β) Y' h2 ∧ HI (bw β) (bw β * bh β) (opC β) X Y' fl' ∧ (fl' = false → ∀ p c, nb (bw β) (bw β * bh β) p c → opC β p = true → opC β c = true → Y' c ≤ Y' p) := by
      intro hc
      refine ih (i + 1) Y fl h1 g (by omega) (by omega) F T I (fun z a way c w1 w2 w3 w4 w5 => ?_)
      by_cases y : 4 * a + way = i
      · have e1 : a = i / 4 := by omega
        have e2 : way = i % 4 := by omega
        rw [e1, e2] at w3
        rw [e1] at w4
        rw [e1]
        exact hc c w3 w4 w5
      · exact J z a way c w1 (by omega) w3 w4 w5
    cases q : nxt (bw β) (bw β * bh β) (i / 4) (i % 4) with
    | none =>
      rw [q] at o
      obtain ⟨Y', fl', h2, e1, e2⟩ := keep (fun c hc => by rw [q] at hc; cases hc)
      refine ⟨Y', fl', h2, ?_, e2⟩
      unfold qX12_findHoles_45
      simp (disch := omega) only [↓reduceIte, ↓q_m1, ↓q_m2, k_o, k_0, k_1, k_2, k_3, k_4, k_5, k_6, k_7, k_8, k_9, k_10, k_11, k_16, k_17, k_19, k_20, k_24, k_26, k_27, k_30, k_32, k_33, k_35, k_40, k_43, k_48, k_50, k_57, k_60, k_64, k_81, k_86, k_34, k_66, k_322, k_97, k_99, k_100, k_122, k_128, k_160, k_161, k_255, k_256, k_512, k_580, k_600, k_1000, k_4096, k_far, k_o, nI_add, n_mul, n_sub, n_div, n_rem, n_lt, n_le, n_eq, n_cl, n_and, n_or, n_xor, m1_lt, lt_m1, m1_eq, eq_m1, le_m1, m1_le, m2_eq, up_eq, up_ne, n_shl, n_shr, b2_some, let_e, ob_some, bI_0, bI_a, bI_t, bI_f, if_true, if_false, ite_true, ite_false, true_and, and_true, false_and, and_false, true_or, or_true, false_or, or_false, not_true_eq_false, not_false_eq_true, ite_not, ne_eq, Bool.true_eq_false, Bool.false_eq_true, reduceCtorEq, decide_true, decide_false, Bool.and_true, Bool.and_false, Bool.true_and, Bool.false_and, Bool.or_true, Bool.or_false, Bool.not_true, Bool.not_false, Nat.add_zero, Nat.zero_add, eq_self, Nat.not_lt_zero, Nat.reduceAdd, Nat.reduceMul, Nat.reduceSub, Nat.reduceDiv, Nat.reduceMod, Nat.reduceAnd, Nat.reduceXor, Nat.reduceEqDiff, Nat.reducePow, lt_T, lt_F, le_T, le_F, eq_F, M1.2.2.1, o, oI_n]
      exact e1
    | some c =>
      rw [q] at o
      have hnb := nxt_nb hW.1 hW.2 hH.2 ha q
      have hc := hnb.2.1
      have ta := T (i / 4) ha
      have tc := T c hc
      cases oc : opC β c
      · rw [oc] at tc
        have tc' : h1.1 81 c = m1 := tc
        obtain ⟨Y', fl', h2, e1, e2⟩ := keep (fun c' hc' _ y => by
          rw [q] at hc'
          rw [← Option.some.inj hc', oc] at y
          cases y)
        refine ⟨Y', fl', h2, ?_, e2⟩
        unfold qX12_findHoles_45
        simp (disch := omega) only [↓reduceIte, ↓q_m1, ↓q_m2, k_o, k_0, k_1, k_2, k_3, k_4, k_5, k_6, k_7, k_8, k_9, k_10, k_11, k_16, k_17, k_19, k_20, k_24, k_26, k_27, k_30, k_32, k_33, k_35, k_40, k_43, k_48, k_50, k_57, k_60, k_64, k_81, k_86, k_34, k_66, k_322, k_97, k_99, k_100, k_122, k_128, k_160, k_161, k_255, k_256, k_512, k_580, k_600, k_1000, k_4096, k_far, k_o, nI_add, n_mul, n_sub, n_div, n_rem, n_lt, n_le, n_eq, n_cl, n_and, n_or, n_xor, m1_lt, lt_m1, m1_eq, eq_m1, le_m1, m1_le, m2_eq, up_eq, up_ne, n_shl, n_shr, b2_some, let_e, ob_some, bI_0, bI_a, bI_t, bI_f, if_true, if_false, ite_true, ite_false, true_and, and_true, false_and, and_false, true_or, or_true, false_or, or_false, not_true_eq_false, not_false_eq_true, ite_not, ne_eq, Bool.true_eq_false, Bool.false_eq_true, reduceCtorEq, decide_true, decide_false, Bool.and_true, Bool.and_false, Bool.true_and, Bool.false_and, Bool.or_true, Bool.or_false, Bool.not_true, Bool.not_false, Nat.add_zero, Nat.zero_add, eq_self, Nat.not_lt_zero, Nat.reduceAdd, Nat.reduceMul, Nat.reduceSub, Nat.reduceDiv, Nat.reduceMod, Nat.reduceAnd, Nat.reduceXor, Nat.reduceEqDiff, Nat.reducePow, lt_T, lt_F, le_T, le_F, eq_F, M1.2.2.1, o, oI_s, tc']
        exact e1
      · rw [oc] at tc
        have tc' : h1.1 81 c = nI (Y c) := tc
        have yc := (I.1 c hc oc).1
        cases oa : opC β (i / 4)
        · rw [oa] at ta
          have ta' : h1.1 81 (i / 4) = m1 := ta
          obtain ⟨Y', fl', h2, e1, e2⟩ := keep (fun c' hc' y => by rw [oa] at y; cases y)
          refine ⟨Y', fl', h2, ?_, e2⟩
          unfold qX12_findHoles_45
          simp (disch := omega) only [↓reduceIte, ↓q_m1, ↓q_m2, k_o, k_0, k_1, k_2, k_3, k_4, k_5, k_6, k_7, k_8, k_9, k_10, k_11, k_16, k_17, k_19, k_20, k_24, k_26, k_27, k_30, k_32, k_33, k_35, k_40, k_43, k_48, k_50, k_57, k_60, k_64, k_81, k_86, k_34, k_66, k_322, k_97, k_99, k_100, k_122, k_128, k_160, k_161, k_255, k_256, k_512, k_580, k_600, k_1000, k_4096, k_far, k_o, nI_add, n_mul, n_sub, n_div, n_rem, n_lt, n_le, n_eq, n_cl, n_and, n_or, n_xor, m1_lt, lt_m1, m1_eq, eq_m1, le_m1, m1_le, m2_eq, up_eq, up_ne, n_shl, n_shr, b2_some, let_e, ob_some, bI_0, bI_a, bI_t, bI_f, if_true, if_false, ite_true, ite_false, true_and, and_true, false_and, and_false, true_or, or_true, false_or, or_false, not_true_eq_false, not_false_eq_true, ite_not, ne_eq, Bool.true_eq_false, Bool.false_eq_true, reduceCtorEq, decide_true, decide_false, Bool.and_true, Bool.and_false, Bool.true_and, Bool.false_and, Bool.or_true, Bool.or_false, Bool.not_true, Bool.not_false, Nat.add_zero, Nat.zero_add, eq_self, Nat.not_lt_zero, Nat.reduceAdd, Nat.reduceMul, Nat.reduceSub, Nat.reduceDiv, Nat.reduceMod, Nat.reduceAnd, Nat.reduceXor, Nat.reduceEqDiff, Nat.reducePow, lt_T, lt_F, le_T, le_F, eq_F, M1.2.2.1, o, oI_s, tc', ta']
          exact e1
        · rw [oa] at ta
          have ta' : h1.1 81 (i / 4) = nI (Y (i / 4)) := ta
          obtain ⟨ya, ya2, ya3⟩ := I.1 (i / 4) ha oa
          by_cases z : Y (i / 4) < Y c
          · have su := sO_up (X := Y) (v := Y (i / 4)) hc oc
            obtain ⟨Y', fl', h2, e1, e2⟩ := ih (i + 1) (upN Y c (Y (i / 4))) true (qm_seti h1 81 c (nI (Y (i / 4)))) g (by omega) (by omega) (F.trans (qFr.seti rfl)) (fun c' hc' => by
              by_cases y : c' = c
              · rw [y, upN_eq, sI_eq, oc]
                rfl
              · rw [upN_ne y, sI_ne (by omega)]
                exact T c' hc') ⟨fun c' hc' oc' => by
              by_cases y : c' = c
              · rw [y, upN_eq]
                exact ⟨by omega, ya2, cnn_s ya3 hnb oa oc⟩
              · rw [upN_ne y]
                exact I.1 c' hc' oc', by have := I.2.1; omega, (fun _ => by have := I.2.1; omega), (fun y => by cases y)⟩ (fun y => by cases y)
            refine ⟨Y', fl', h2, ?_, e2⟩
            unfold qX12_findHoles_45
            rw [bI_t] at e1
            simp (disch := omega) only [↓reduceIte, ↓q_m1, ↓q_m2, k_o, k_0, k_1, k_2, k_3, k_4, k_5, k_6, k_7, k_8, k_9, k_10, k_11, k_16, k_17, k_19, k_20, k_24, k_26, k_27, k_30, k_32, k_33, k_35, k_40, k_43, k_48, k_50, k_57, k_60, k_64, k_81, k_86, k_34, k_66, k_322, k_97, k_99, k_100, k_122, k_128, k_160, k_161, k_255, k_256, k_512, k_580, k_600, k_1000, k_4096, k_far, k_o, nI_add, n_mul, n_sub, n_div, n_rem, n_lt, n_le, n_eq, n_cl, n_and, n_or, n_xor, m1_lt, lt_m1, m1_eq, eq_m1, le_m1, m1_le, m2_eq, up_eq, up_ne, n_shl, n_shr, b2_some, let_e, ob_some, bI_0, bI_a, bI_t, bI_f, if_true, if_false, ite_true, ite_false, true_and, and_true, false_and, and_false, true_or, or_true, false_or, or_false, not_true_eq_false, not_false_eq_true, ite_not, ne_eq, Bool.true_eq_false, Bool.false_eq_true, reduceCtorEq, decide_true, decide_false, Bool.and_true, Bool.and_false, Bool.true_and, Bool.false_and, Bool.or_true, Bool.or_false, Bool.not_true, Bool.not_false, Nat.add_zero, Nat.zero_add, eq_self, Nat.not_lt_zero, Nat.reduceAdd, Nat.reduceMul, Nat.reduceSub, Nat.reduceDiv, Nat.reduceMod, Nat.reduceAnd, Nat.reduceXor, Nat.reduceEqDiff, Nat.reducePow, lt_T, lt_F, le_T, le_F, eq_F, M1.2.2.1, o, oI_s, tc', ta']
            exact e1
          · obtain ⟨Y', fl', h2, e1, e2⟩ := keep (fun c' hc' _ _ => by
              rw [q] at hc'
              rw [← Option.some.inj hc']
              omega)
            refine ⟨Y', fl', h2, ?_, e2⟩
            unfold qX12_findHoles_45
            simp (disch := omega) only [↓reduceIte, ↓q_m1, ↓q_m2, k_o, k_0, k_1, k_2, k_3, k_4, k_5, k_6, k_7, k_8, k_9, k_10, k_11, k_16, k_17, k_19, k_20, k_24, k_26, k_27, k_30, k_32, k_33, k_35, k_40, k_43, k_48, k_50, k_57, k_60, k_64, k_81, k_86, k_34, k_66, k_322, k_97, k_99, k_100, k_122, k_128, k_160, k_161, k_255, k_256, k_512, k_580, k_600, k_1000, k_4096, k_far, k_o, nI_add, n_mul, n_sub, n_div, n_rem, n_lt, n_le, n_eq, n_cl, n_and, n_or, n_xor, m1_lt, lt_m1, m1_eq, eq_m1, le_m1, m1_le, m2_eq, up_eq, up_ne, n_shl, n_shr, b2_some, let_e, ob_some, bI_0, bI_a, bI_t, bI_f, if_true, if_false, ite_true, ite_false, true_and, and_true, false_and, and_false, true_or, or_true, false_or, or_false, not_true_eq_false, not_false_eq_true, ite_not, ne_eq, Bool.true_eq_false, Bool.false_eq_true, reduceCtorEq, decide_true, decide_false, Bool.and_true, Bool.and_false, Bool.true_and, Bool.false_and, Bool.or_true, Bool.or_false, Bool.not_true, Bool.not_false, Nat.add_zero, Nat.zero_add, eq_self, Nat.not_lt_zero, Nat.reduceAdd, Nat.reduceMul, Nat.reduceSub, Nat.reduceDiv, Nat.reduceMod, Nat.reduceAnd, Nat.reduceXor, Nat.reduceEqDiff, Nat.reducePow, lt_T, lt_F, le_T, le_F, eq_F, M1.2.2.1, o, oI_s, tc', ta']
            exact e1
/-- the labels at the end -/
def FH (W N : Nat) (op : Nat → Bool) (X : Nat → Nat) : Prop := LI W N op X ∧ ∀ p c, nb W N p c → op p = true → op c = true → X c = X p
theorem m_hrounds (k : bOK β) (M : bM β h) : ∀ e X fl h1 fuel, e + 1 < fuel → sO (bw β * bh β) (opC β) X ≤ e → qFr (fun a _ => a = 81) h h1 → hL (bw β * bh β) (opC β) X h1 → LI (bw β) (bw β * bh β) (opC β) X → (fl = false → ∀ p c, nb (bw β) (bw β * bh β) p c → opC β p = true → opC β c = true → X c ≤ X p) → ∃ X' h2, qX12_findHoles_37 fuel 62 (bI fl) h1 = some h2 ∧ qFr (fun a _ => a = 81) h h2 ∧ hL (bw β * bh β) (opC β) X' h2 ∧ FH (bw β) (bw β * bh β) (opC β) X' := by
  have hn := k.n
  have done : ∀ X h1 fuel, 0 < fuel → qFr (fun a _ => a = 81) h h1 → hL (bw β * bh β) (opC β) X h1 → LI (bw β) (bw β * bh β) (opC β) X → (∀ p c, nb (bw β) (bw β * bh β) p c → opC β p = true → opC β c = true → X c ≤ X p) → ∃ X' h2, qX12_findHoles_37 fuel 62 (bI false) h1 = some h2 ∧ qFr (fun a _ => a = 81) h h2 ∧ hL (bw β * bh β) (opC β) X' h2 ∧ FH (bw β) (bw β * bh β) (opC β) X' := by
    intro X h1 fuel hfu F T L J
    obtain ⟨g, rfl⟩ : ∃ g, fuel = g + 1 := ⟨fuel - 1, by omega⟩
    refine ⟨X, h1, ?_, F, T, L, fun p c hnb hp hc => Nat.le_antisymm (J p c hnb hp hc) (J c p (nb_sym hnb) hc hp)⟩
    unfold qX12_findHoles_37
    simp (disch := omega) only [↓reduceIte, ↓q_m1, ↓q_m2, k_o, k_0, k_1, k_2, k_3, k_4, k_5, k_6, k_7, k_8, k_9, k_10, k_11, k_16, k_17, k_19, k_20, k_24, k_26, k_27, k_30, k_32, k_33, k_35, k_40, k_43, k_48, k_50, k_57, k_60, k_64, k_81, k_86, k_34, k_66, k_322, k_97, k_99, k_100, k_122, k_128, k_160, k_161, k_255, k_256, k_512, k_580, k_600, k_1000, k_4096, k_far, k_o, nI_add, n_mul, n_sub, n_div, n_rem, n_lt, n_le, n_eq, n_cl, n_and, n_or, n_xor, m1_lt, lt_m1, m1_eq, eq_m1, le_m1, m1_le, m2_eq, up_eq, up_ne, n_shl, n_shr, b2_some, let_e, ob_some, bI_0, bI_a, bI_t, bI_f, if_true, if_false, ite_true, ite_false, true_and, and_true, false_and, and_false, true_or, or_true, false_or, or_false, not_true_eq_false, not_false_eq_true, ite_not, ne_eq, Bool.true_eq_false, Bool.false_eq_true, reduceCtorEq, decide_true, decide_false, Bool.and_true, Bool.and_false, Bool.true_and, Bool.false_and, Bool.or_true, Bool.or_false, Bool.not_true, Bool.not_false, Nat.add_zero, Nat.zero_add, eq_self, Nat.not_lt_zero, Nat.reduceAdd, Nat.reduceMul, Nat.reduceSub, Nat.reduceDiv, Nat.reduceMod, Nat.reduceAnd, Nat.reduceXor, Nat.reduceEqDiff, Nat.reducePow, lt_T, lt_F, le_T, le_F, eq_F]
  intro e
  induction e with
  | zero =>
    intro X fl h1 fuel hfu hs F T L J
    cases fl with
    | false => exact done X h1 fuel (by omega) F T L (J rfl)
    | true =>
      obtain ⟨g, rfl⟩ : ∃ g, fuel = g + 1 := ⟨fuel - 1, by omega⟩
      obtain ⟨Y, fl', h2, e1, e2, e3, e4, e5⟩ := m_hround k (X := X) M (qX12_findHoles_37 g) (4 * (bw β * bh β)) 0 X false h1 qm_N (by omega) (by unfold qm_N; omega) F T ⟨L, Nat.le_refl _, (fun z => by cases z), fun _ _ _ _ => rfl⟩ (fun _ a way c _ hc => absurd hc (Nat.not_lt_zero _))
      cases fl' with
      | true =>
        have := e4.2.2.1 rfl
        omega
      | false =>
        obtain ⟨X', h3, p1, p2⟩ := done Y h2 g (by omega) e2 e3 e4.1 (e5 rfl)
        refine ⟨X', h3, ?_, p2⟩
        unfold qX12_findHoles_37
        rw [bI_f] at e1
        simp (disch := omega) only [↓reduceIte, ↓q_m1, ↓q_m2, k_o, k_0, k_1, k_2, k_3, k_4, k_5, k_6, k_7, k_8, k_9, k_10, k_11, k_16, k_17, k_19, k_20, k_24, k_26, k_27, k_30, k_32, k_33, k_35, k_40, k_43, k_48, k_50, k_57, k_60, k_64, k_81, k_86, k_34, k_66, k_322, k_97, k_99, k_100, k_122, k_128, k_160, k_161, k_255, k_256, k_512, k_580, k_600, k_1000, k_4096, k_far, k_o, nI_add, n_mul, n_sub, n_div, n_rem, n_lt, n_le, n_eq, n_cl, n_and, n_or, n_xor, m1_lt, lt_m1, m1_eq, eq_m1, le_m1, m1_le, m2_eq, up_eq, up_ne, n_shl, n_shr, b2_some, let_e, ob_some, bI_0, bI_a, bI_t, bI_f, if_true, if_false, ite_true, ite_false, true_and, and_true, false_and, and_false, true_or, or_true, false_or, or_false, not_true_eq_false, not_false_eq_true, ite_not, ne_eq, Bool.true_eq_false, Bool.false_eq_true, reduceCtorEq, decide_true, decide_false, Bool.and_true, Bool.and_false, Bool.true_and, Bool.false_and, Bool.or_true, Bool.or_false, Bool.not_true, Bool.not_false, Nat.add_zero, Nat.zero_add, eq_self, Nat.not_lt_zero, Nat.reduceAdd, Nat.reduceMul, Nat.reduceSub, Nat.reduceDiv, Nat.reduceMod, Nat.reduceAnd, Nat.reduceXor, Nat.reduceEqDiff, Nat.reducePow, lt_T, lt_F, le_T, le_F, eq_F]
        rw [e1]
        exact p1
  | succ e ih =>
    intro X fl h1 fuel hfu hs F T L J
    cases fl with
    | false => exact done X h1 fuel (by omega) F T L (J rfl)
    | true =>
      obtain ⟨g, rfl⟩ : ∃ g, fuel = g + 1 := ⟨fuel - 1, by omega⟩
      obtain ⟨Y, fl', h2, e1, e2, e3, e4, e5⟩ := m_hround k (X := X) M (qX12_findHoles_37 g) (4 * (bw β * bh β)) 0 X false h1 qm_N (by omega) (by unfold qm_N; omega) F T ⟨L, Nat.le_refl _, (fun z => by cases z), fun _ _ _ _ => rfl⟩ (fun _ a way c _ hc => absurd hc (Nat.not_lt_zero _))
      have fin : ∃ X' h3, qX12_findHoles_37 g 62 (bI fl') h2 = some h3 ∧ qFr (fun a _ => a = 81) h h3 ∧ hL (bw β * bh β) (opC β) X' h3 ∧ FH (bw β) (bw β * bh β) (opC β) X' := by
        cases fl' with
        | true =>
          have := e4.2.2.1 rfl
          exact ih Y true h2 g (by omega) (by omega) e2 e3 e4.1 (fun z => by cases z)
        | false => exact done Y h2 g (by omega) e2 e3 e4.1 (e5 rfl)
      obtain ⟨X', h3, p1, p2⟩ := fin
      refine ⟨X', h3, ?_, p2⟩
      unfold qX12_findHoles_37
      rw [bI_f] at e1
      simp (disch := omega) only [↓reduceIte, ↓q_m1, ↓q_m2, k_o, k_0, k_1, k_2, k_3, k_4, k_5, k_6, k_7, k_8, k_9, k_10, k_11, k_16, k_17, k_19, k_20, k_24, k_26, k_27, k_30, k_32, k_33, k_35, k_40, k_43, k_48, k_50, k_57, k_60, k_64, k_81, k_86, k_34, k_66, k_322, k_97, k_99, k_100, k_122, k_128, k_160, k_161, k_255, k_256, k_512, k_580, k_600, k_1000, k_4096, k_far, k_o, nI_add, n_mul, n_sub, n_div, n_rem, n_lt, n_le, n_eq, n_cl, n_and, n_or, n_xor, m1_lt, lt_m1, m1_eq, eq_m1, le_m1, m1_le, m2_eq, up_eq, up_ne, n_shl, n_shr, b2_some, let_e, ob_some, bI_0, bI_a, bI_t, bI_f, if_true, if_false, ite_true, ite_false, true_and, and_true, false_and, and_false, true_or, or_true, false_or, or_false, not_true_eq_false, not_false_eq_true, ite_not, ne_eq, Bool.true_eq_false, Bool.false_eq_true, reduceCtorEq, decide_true, decide_false, Bool.and_true, Bool.and_false, Bool.true_and, Bool.false_and, Bool.or_true, Bool.or_false, Bool.not_true, Bool.not_false, Nat.add_zero, Nat.zero_add, eq_self, Nat.not_lt_zero, Nat.reduceAdd, Nat.reduceMul, Nat.reduceSub, Nat.reduceDiv, Nat.reduceMod, Nat.reduceAnd, Nat.reduceXor, Nat.reduceEqDiff, Nat.reducePow, lt_T, lt_F, le_T, le_F, eq_F]
      rw [e1]
      exact p1
theorem m_holes2 (k : bOK β) (M : bM β h) : ∀ d i h1 fuel, i + d = bw β * bh β → d < fuel → qFr (fun a _ => a = 81) h h1 → hL i (opC β) (fun c => c) h1 → ∃ X' h2, qX12_findHoles_2 fuel 62 (nI i) h1 = some h2 ∧ qFr (fun a _ => a = 81) h h2 ∧ hL (bw β * bh β) (opC β) X' h2 ∧ FH (bw β) (bw β * bh β) (opC β) X' := by
  have hn := k.n
  intro d
  induction d with
  | zero =>
    intro i h1 fuel hi hfu F I
    obtain ⟨g, rfl⟩ : ∃ g, fuel = g + 1 := ⟨fuel - 1, by omega⟩
    have M1 : bM β h1 := M.mv (fun q _ _ => (F 62 q (by omega)).1) (fun a q _ _ => (F a q (by omega)).1)
    have : i = bw β * bh β := by omega
    subst this
    have hs : sO (bw β * bh β) (opC β) (fun c => c) ≤ 4096 := by
      have h1 : sO (bw β * bh β) (opC β) (fun c => c) ≤ bw β * bh β * 64 := fb_sm_bound (fun c hc => by show (if opC β c = true then c else 0) ≤ 64; split <;> omega)
      omega
    obtain ⟨X', h2, e1, e2⟩ := m_hrounds k M 4096 (fun c => c) true h1 qm_N (by unfold qm_N; omega) hs F I (fun c _ oc => ⟨Nat.le_refl _, oc, cnn_r⟩) (fun z => by cases z)
    refine ⟨X', h2, ?_, e2⟩
    unfold qX12_findHoles_2
    rw [bI_t] at e1
    simp (disch := omega) only [↓reduceIte, ↓q_m1, ↓q_m2, k_o, k_0, k_1, k_2, k_3, k_4, k_5, k_6, k_7, k_8, k_9, k_10, k_11, k_16, k_17, k_19, k_20, k_24, k_26, k_27, k_30, k_32, k_33, k_35, k_40, k_43, k_48, k_50, k_57, k_60, k_64, k_81, k_86, k_34, k_66, k_322, k_97, k_99, k_100, k_122, k_128, k_160, k_161, k_255, k_256, k_512, k_580, k_600, k_1000, k_4096, k_far, k_o, nI_add, n_mul, n_sub, n_div, n_rem, n_lt, n_le, n_eq, n_cl, n_and, n_or, n_xor, m1_lt, lt_m1, m1_eq, eq_m1, le_m1, m1_le, m2_eq, up_eq, up_ne, n_shl, n_shr, b2_some, let_e, ob_some, bI_0, bI_a, bI_t, bI_f, if_true, if_false, ite_true, ite_false, true_and, and_true, false_and, and_false, true_or, or_true, false_or, or_false, not_true_eq_false, not_false_eq_true, ite_not, ne_eq, Bool.true_eq_false, Bool.false_eq_true, reduceCtorEq, decide_true, decide_false, Bool.and_true, Bool.and_false, Bool.true_and, Bool.false_and, Bool.or_true, Bool.or_false, Bool.not_true, Bool.not_false, Nat.add_zero, Nat.zero_add, eq_self, Nat.not_lt_zero, Nat.reduceAdd, Nat.reduceMul, Nat.reduceSub, Nat.reduceDiv, Nat.reduceMod, Nat.reduceAnd, Nat.reduceXor, Nat.reduceEqDiff, Nat.reducePow, lt_T, lt_F, le_T, le_F, eq_F, M1.2.2.1]
    exact e1
  | succ d ih =>
    intro i h1 fuel hi hfu F I
    obtain ⟨g, rfl⟩ : ∃ g, fuel = g + 1 := ⟨fuel - 1, by omega⟩
    have M1 : bM β h1 := M.mv (fun q _ _ => (F 62 q (by omega)).1) (fun a q _ _ => (F a q (by omega)).1)
    have o := m_isOpen k M1 (c := i) (by omega)
    have o' : qX12_isOpen 62 (nI i) h1 = some (bI (opC β i), h1) := o
    obtain ⟨X', h2, e1, e2⟩ := ih (i + 1) (qm_seti h1 81 i (if opC β i then nI i else m1)) g (by omega) (by omega) (F.trans (qFr.seti rfl)) (fun c hc => by
      by_cases z : c = i
      · rw [z, sI_eq]
      · rw [sI_ne (by omega)]
        exact I c (by omega))
    refine ⟨X', h2, ?_, e2⟩
    unfold qX12_findHoles_2
    cases q : opC β i
    · rw [q] at o' e1
      simp (disch := omega) only [↓reduceIte, ↓q_m1, ↓q_m2, k_o, k_0, k_1, k_2, k_3, k_4, k_5, k_6, k_7, k_8, k_9, k_10, k_11, k_16, k_17, k_19, k_20, k_24, k_26, k_27, k_30, k_32, k_33, k_35, k_40, k_43, k_48, k_50, k_57, k_60, k_64, k_81, k_86, k_34, k_66, k_322, k_97, k_99, k_100, k_122, k_128, k_160, k_161, k_255, k_256, k_512, k_580, k_600, k_1000, k_4096, k_far, k_o, nI_add, n_mul, n_sub, n_div, n_rem, n_lt, n_le, n_eq, n_cl, n_and, n_or, n_xor, m1_lt, lt_m1, m1_eq, eq_m1, le_m1, m1_le, m2_eq, up_eq, up_ne, n_shl, n_shr, b2_some, let_e, ob_some, bI_0, bI_a, bI_t, bI_f, if_true, if_false, ite_true, ite_false, true_and, and_true, false_and, and_false, true_or, or_true, false_or, or_false, not_true_eq_false, not_false_eq_true, ite_not, ne_eq, Bool.true_eq_false, Bool.false_eq_true, reduceCtorEq, decide_true, decide_false, Bool.and_true, Bool.and_false, Bool.true_and, Bool.false_and, Bool.or_true, Bool.or_false, Bool.not_true, Bool.not_false, Nat.add_zero, Nat.zero_add, eq_self, Nat.not_lt_zero, Nat.reduceAdd, Nat.reduceMul, Nat.reduceSub, Nat.reduceDiv, Nat.reduceMod, Nat.reduceAnd, Nat.reduceXor, Nat.reduceEqDiff, Nat.reducePow, lt_T, lt_F, le_T, le_F, eq_F, M1.2.2.1, o']
      exact e1
    · rw [q] at o' e1
      simp (disch := omega) only [↓reduceIte, ↓q_m1, ↓q_m2, k_o, k_0, k_1, k_2, k_3, k_4, k_5, k_6, k_7, k_8, k_9, k_10, k_11, k_16, k_17, k_19, k_20, k_24, k_26, k_27, k_30, k_32, k_33, k_35, k_40, k_43, k_48, k_50, k_57, k_60, k_64, k_81, k_86, k_34, k_66, k_322, k_97, k_99, k_100, k_122, k_128, k_160, k_161, k_255, k_256, k_512, k_580, k_600, k_1000, k_4096, k_far, k_o, nI_add, n_mul, n_sub, n_div, n_rem, n_lt, n_le, n_eq, n_cl, n_and, n_or, n_xor, m1_lt, lt_m1, m1_eq, eq_m1, le_m1, m1_le, m2_eq, up_eq, up_ne, n_shl, n_shr, b2_some, let_e, ob_some, bI_0, bI_a, bI_t, bI_f, if_true, if_false, ite_true, ite_false, true_and, and_true, false_and, and_false, true_or, or_true, false_or, or_false, not_true_eq_false, not_false_eq_true, ite_not, ne_eq, Bool.true_eq_false, Bool.false_eq_true, reduceCtorEq, decide_true, decide_false, Bool.and_true, Bool.and_false, Bool.true_and, Bool.false_and, Bool.or_true, Bool.or_false, Bool.not_true, Bool.not_false, Nat.add_zero, Nat.zero_add, eq_self, Nat.not_lt_zero, Nat.reduceAdd, Nat.reduceMul, Nat.reduceSub, Nat.reduceDiv, Nat.reduceMod, Nat.reduceAnd, Nat.reduceXor, Nat.reduceEqDiff, Nat.reducePow, lt_T, lt_F, le_T, le_F, eq_F, M1.2.2.1, o']
      exact e1
/-- the first STROKE of a hole; how large its hole is -/
def rpB (op : Nat → Bool) (X : Nat → Nat) (c : Nat) : Bool := op c && decide (X c = c)
def szH (N : Nat) (op : Nat → Bool) (X : Nat → Nat) (m : Nat) : Nat := fb_ct (fun c => op c && decide (X c = m)) N
def mxH (N : Nat) (op : Nat → Bool) (X : Nat → Nat) : Nat → Nat → Nat → Nat
  | 0, _, a => a
  | d + 1, c, a => mxH N op X d (c + 1) (if rpB op X c then max a (szH N op X c) else a)
theorem m_size (k : bOK β) (M : bM β h) {X : Nat → Nat} (T : hL (bw β * bh β) (opC β) X h) (L : LI (bw β) (bw β * bh β) (opC β) X) {m : Nat} (hm : m < 64) : ∀ d c n fuel, c + d = bw β * bh β → d < fuel → n = fb_ct (fun c => opC β c && decide (X c = m)) c → qX12_sizeOf_4 fuel 62 (nI m) (nI n) (nI c) h = some (nI (szH (bw β * bh β) (opC β) X m), h) := by
  have hn := k.n
  intro d
  induction d with
  | zero =>
    intro c n fuel hc hf hs
    obtain ⟨g, rfl⟩ : ∃ g, fuel = g + 1 := ⟨fuel - 1, by omega⟩
    unfold qX12_sizeOf_4
    simp (disch := omega) only [↓reduceIte, ↓q_m1, ↓q_m2, k_o, k_0, k_1, k_2, k_3, k_4, k_5, k_6, k_7, k_8, k_9, k_10, k_11, k_16, k_17, k_19, k_20, k_24, k_26, k_27, k_30, k_32, k_33, k_35, k_40, k_43, k_48, k_50, k_57, k_60, k_64, k_81, k_86, k_34, k_66, k_322, k_97, k_99, k_100, k_122, k_128, k_160, k_161, k_255, k_256, k_512, k_580, k_600, k_1000, k_4096, k_far, k_o, nI_add, n_mul, n_sub, n_div, n_rem, n_lt, n_le, n_eq, n_cl, n_and, n_or, n_xor, m1_lt, lt_m1, m1_eq, eq_m1, le_m1, m1_le, m2_eq, up_eq, up_ne, n_shl, n_shr, b2_some, let_e, ob_some, bI_0, bI_a, bI_t, bI_f, if_true, if_false, ite_true, ite_false, true_and, and_true, false_and, and_false, true_or, or_true, false_or, or_false, not_true_eq_false, not_false_eq_true, ite_not, ne_eq, Bool.true_eq_false, Bool.false_eq_true, reduceCtorEq, decide_true, decide_false, Bool.and_true, Bool.and_false, Bool.true_and, Bool.false_and, Bool.or_true, Bool.or_false, Bool.not_true, Bool.not_false, Nat.add_zero, Nat.zero_add, eq_self, Nat.not_lt_zero, Nat.reduceAdd, Nat.reduceMul, Nat.reduceSub, Nat.reduceDiv, Nat.reduceMod, Nat.reduceAnd, Nat.reduceXor, Nat.reduceEqDiff, Nat.reducePow, lt_T, lt_F, le_T, le_F, eq_F, M.2.2.1]
    rw [hs, show c = bw β * bh β by omega]
    rfl
  | succ d ih =>
    intro c n fuel hc hf hs
    obtain ⟨g, rfl⟩ : ∃ g, fuel = g + 1 := ⟨fuel - 1, by omega⟩
    have tc := T c (by omega)
    have hnl : n ≤ c := by rw [hs]; exact fb_ct_le _ c
    unfold qX12_sizeOf_4
    cases q : opC β c
    · rw [q] at tc
      have tc' : h.1 81 c = m1 := tc
      simp (disch := omega) only [↓reduceIte, ↓q_m1, ↓q_m2, k_o, k_0, k_1, k_2, k_3, k_4, k_5, k_6, k_7, k_8, k_9, k_10, k_11, k_16, k_17, k_19, k_20, k_24, k_26, k_27, k_30, k_32, k_33, k_35, k_40, k_43, k_48, k_50, k_57, k_60, k_64, k_81, k_86, k_34, k_66, k_322, k_97, k_99, k_100, k_122, k_128, k_160, k_161, k_255, k_256, k_512, k_580, k_600, k_1000, k_4096, k_far, k_o, nI_add, n_mul, n_sub, n_div, n_rem, n_lt, n_le, n_eq, n_cl, n_and, n_or, n_xor, m1_lt, lt_m1, m1_eq, eq_m1, le_m1, m1_le, m2_eq, up_eq, up_ne, n_shl, n_shr, b2_some, let_e, ob_some, bI_0, bI_a, bI_t, bI_f, if_true, if_false, ite_true, ite_false, true_and, and_true, false_and, and_false, true_or, or_true, false_or, or_false, not_true_eq_false, not_false_eq_true, ite_not, ne_eq, Bool.true_eq_false, Bool.false_eq_true, reduceCtorEq, decide_true, decide_false, Bool.and_true, Bool.and_false, Bool.true_and, Bool.false_and, Bool.or_true, Bool.or_false, Bool.not_true, Bool.not_false, Nat.add_zero, Nat.zero_add, eq_self, Nat.not_lt_zero, Nat.reduceAdd, Nat.reduceMul, Nat.reduceSub, Nat.reduceDiv, Nat.reduceMod, Nat.reduceAnd, Nat.reduceXor, Nat.reduceEqDiff, Nat.reducePow, lt_T, lt_F, le_T, le_F, eq_F, M.2.2.1, tc']
      exact ih (c + 1) n g (by omega) (by omega) (by rw [fb_ct_succ, ← hs, q]; rfl)
    · rw [q] at tc
      have tc' : h.1 81 c = nI (X c) := tc
      have xl := (L c (by omega) q).1
      by_cases z : X c = m
      · simp (disch := omega) only [↓reduceIte, ↓q_m1, ↓q_m2, k_o, k_0, k_1, k_2, k_3, k_4, k_5, k_6, k_7, k_8, k_9, k_10, k_11, k_16, k_17, k_19, k_20, k_24, k_26, k_27, k_30, k_32, k_33, k_35, k_40, k_43, k_48, k_50, k_57, k_60, k_64, k_81, k_86, k_34, k_66, k_322, k_97, k_99, k_100, k_122, k_128, k_160, k_161, k_255, k_256, k_512, k_580, k_600, k_1000, k_4096, k_far, k_o, nI_add, n_mul, n_sub, n_div, n_rem, n_lt, n_le, n_eq, n_cl, n_and, n_or, n_xor, m1_lt, lt_m1, m1_eq, eq_m1, le_m1, m1_le, m2_eq, up_eq, up_ne, n_shl, n_shr, b2_some, let_e, ob_some, bI_0, bI_a, bI_t, bI_f, if_true, if_false, ite_true, ite_false, true_and, and_true, false_and, and_false, true_or, or_true, false_or, or_false, not_true_eq_false, not_false_eq_true, ite_not, ne_eq, Bool.true_eq_false, Bool.false_eq_true, reduceCtorEq, decide_true, decide_false, Bool.and_true, Bool.and_false, Bool.true_and, Bool.false_and, Bool.or_true, Bool.or_false, Bool.not_true, Bool.not_false, Nat.add_zero, Nat.zero_add, eq_self, Nat.not_lt_zero, Nat.reduceAdd, Nat.reduceMul, Nat.reduceSub, Nat.reduceDiv, Nat.reduceMod, Nat.reduceAnd, Nat.reduceXor, Nat.reduceEqDiff, Nat.reducePow, lt_T, lt_F, le_T, le_F, eq_F, M.2.2.1, tc', z]
        exact ih (c + 1) (n + 1) g (by omega) (by omega) (by rw [fb_ct_succ, ← hs, q, decide_eq_true z]; rfl)
      · simp (disch := omega) only [↓reduceIte, ↓q_m1, ↓q_m2, k_o, k_0, k_1, k_2, k_3, k_4, k_5, k_6, k_7, k_8, k_9, k_10, k_11, k_16, k_17, k_19, k_20, k_24, k_26, k_27, k_30, k_32, k_33, k_35, k_40, k_43, k_48, k_50, k_57, k_60, k_64, k_81, k_86, k_34, k_66, k_322, k_97, k_99, k_100, k_122, k_128, k_160, k_161, k_255, k_256, k_512, k_580, k_600, k_1000, k_4096, k_far, k_o, nI_add, n_mul, n_sub, n_div, n_rem, n_lt, n_le, n_eq, n_cl, n_and, n_or, n_xor, m1_lt, lt_m1, m1_eq, eq_m1, le_m1, m1_le, m2_eq, up_eq, up_ne, n_shl, n_shr, b2_some, let_e, ob_some, bI_0, bI_a, bI_t, bI_f, if_true, if_false, ite_true, ite_false, true_and, and_true, false_and, and_false, true_or, or_true, false_or, or_false, not_true_eq_false, not_false_eq_true, ite_not, ne_eq, Bool.true_eq_false, Bool.false_eq_true, reduceCtorEq, decide_true, decide_false, Bool.and_true, Bool.and_false, Bool.true_and, Bool.false_and, Bool.or_true, Bool.or_false, Bool.not_true, Bool.not_false, Nat.add_zero, Nat.zero_add, eq_self, Nat.not_lt_zero, Nat.reduceAdd, Nat.reduceMul, Nat.reduceSub, Nat.reduceDiv, Nat.reduceMod, Nat.reduceAnd, Nat.reduceXor, Nat.reduceEqDiff, Nat.reducePow, lt_T, lt_F, le_T, le_F, eq_F, M.2.2.1, tc']
        exact ih (c + 1) n g (by omega) (by omega) (by rw [fb_ct_succ, ← hs, q, decide_eq_false z]; rfl)
theorem szH_le {N : Nat} {op : Nat → Bool} {X : Nat → Nat} (m : Nat) : szH N op X m ≤ N := fb_ct_le _ N
theorem m_hcount (k : bOK β) (M : bM β h) {X : Nat → Nat} (T : hL (bw β * bh β) (opC β) X h) (L : LI (bw β) (bw β * bh β) (opC β) X) {f : Nat} (hf2 : f ≤ 1) : ∀ d c n a fuel, c + d = bw β * bh β → d < fuel → n = fb_ct (rpB (opC β) X) c → a ≤ 64 → qX12_holes_46 fuel 62 (nI f) (nI n) (nI a) (nI c) h = some (nI (if f = 0 then fb_ct (rpB (opC β) X) (bw β * bh β) else mxH (bw β * bh β) (opC β) X d c a), h) := by
  have hn := k.n
  intro d
  induction d with
  | zero =>
    intro c n a fuel hc hf hs ha
    obtain ⟨g, rfl⟩ : ∃ g, fuel = g + 1 := ⟨fuel - 1, by omega⟩
    unfold qX12_holes_46
    show _ = some (nI (if f = 0 then fb_ct (rpB (opC β) X) (bw β * bh β) else a), h)
    simp (disch := omega) only [↓reduceIte, ↓q_m1, ↓q_m2, k_o, k_0, k_1, k_2, k_3, k_4, k_5, k_6, k_7, k_8, k_9, k_10, k_11, k_16, k_17, k_19, k_20, k_24, k_26, k_27, k_30, k_32, k_33, k_35, k_40, k_43, k_48, k_50, k_57, k_60, k_64, k_81, k_86, k_34, k_66, k_322, k_97, k_99, k_100, k_122, k_128, k_160, k_161, k_255, k_256, k_512, k_580, k_600, k_1000, k_4096, k_far, k_o, nI_add, n_mul, n_sub, n_div, n_rem, n_lt, n_le, n_eq, n_cl, n_and, n_or, n_xor, m1_lt, lt_m1, m1_eq, eq_m1, le_m1, m1_le, m2_eq, up_eq, up_ne, n_shl, n_shr, b2_some, let_e, ob_some, bI_0, bI_a, bI_t, bI_f, if_true, if_false, ite_true, ite_false, true_and, and_true, false_and, and_false, true_or, or_true, false_or, or_false, not_true_eq_false, not_false_eq_true, ite_not, ne_eq, Bool.true_eq_false, Bool.false_eq_true, reduceCtorEq, decide_true, decide_false, Bool.and_true, Bool.and_false, Bool.true_and, Bool.false_and, Bool.or_true, Bool.or_false, Bool.not_true, Bool.not_false, Nat.add_zero, Nat.zero_add, eq_self, Nat.not_lt_zero, Nat.reduceAdd, Nat.reduceMul, Nat.reduceSub, Nat.reduceDiv, Nat.reduceMod, Nat.reduceAnd, Nat.reduceXor, Nat.reduceEqDiff, Nat.reducePow, lt_T, lt_F, le_T, le_F, eq_F, M.2.2.1]
    rw [hs, show c = bw β * bh β by omega]
    by_cases z : f = 0
    · rw [if_pos z, if_pos z]
    · rw [if_neg z, if_neg z]
  | succ d ih =>
    intro c n a fuel hc hf hs ha
    obtain ⟨g, rfl⟩ : ∃ g, fuel = g + 1 := ⟨fuel - 1, by omega⟩
    have tc := T c (by omega)
    have hnl : n ≤ c := by rw [hs]; exact fb_ct_le _ c
    have em : mxH (bw β * bh β) (opC β) X (d + 1) c a = mxH (bw β * bh β) (opC β) X d (c + 1) (if rpB (opC β) X c then max a (szH (bw β * bh β) (opC β) X c) else a) := rfl
    have o := m_size k M T L (m := c) (by omega) (bw β * bh β) 0 0 qm_N (by omega) (by unfold qm_N; omega) rfl
    have o' : qX12_sizeOf 62 (nI c) h = some (nI (szH (bw β * bh β) (opC β) X c), h) := o
    have sl := szH_le (N := bw β * bh β) (op := opC β) (X := X) c
    rw [em]
    unfold qX12_holes_46 qX12_holes_73
    cases q : opC β c
    · have er : rpB (opC β) X c = false := by unfold rpB; rw [q]; rfl
      rw [q] at tc
      have tc' : h.1 81 c = m1 := tc
      rw [er]
      simp (disch := omega) only [↓reduceIte, ↓q_m1, ↓q_m2, k_o, k_0, k_1, k_2, k_3, k_4, k_5, k_6, k_7, k_8, k_9, k_10, k_11, k_16, k_17, k_19, k_20, k_24, k_26, k_27, k_30, k_32, k_33, k_35, k_40, k_43, k_48, k_50, k_57, k_60, k_64, k_81, k_86, k_34, k_66, k_322, k_97, k_99, k_100, k_122, k_128, k_160, k_161, k_255, k_256, k_512, k_580, k_600, k_1000, k_4096, k_far, k_o, nI_add, n_mul, n_sub, n_div, n_rem, n_lt, n_le, n_eq, n_cl, n_and, n_or, n_xor, m1_lt, lt_m1, m1_eq, eq_m1, le_m1, m1_le, m2_eq, up_eq, up_ne, n_shl, n_shr, b2_some, let_e, ob_some, bI_0, bI_a, bI_t, bI_f, if_true, if_false, ite_true, ite_false, true_and, and_true, false_and, and_false, true_or, or_true, false_or, or_false, not_true_eq_false, not_false_eq_true, ite_not, ne_eq, Bool.true_eq_false, Bool.false_eq_true, reduceCtorEq, decide_true, decide_false, Bool.and_true, Bool.and_false, Bool.true_and, Bool.false_and, Bool.or_true, Bool.or_false, Bool.not_true, Bool.not_false, Nat.add_zero, Nat.zero_add, eq_self, Nat.not_lt_zero, Nat.reduceAdd, Nat.reduceMul, Nat.reduceSub, Nat.reduceDiv, Nat.reduceMod, Nat.reduceAnd, Nat.reduceXor, Nat.reduceEqDiff, Nat.reducePow, lt_T, lt_F, le_T, le_F, eq_F, M.2.2.1, tc']
      exact ih (c + 1) n a g (by omega) (by omega) (by rw [fb_ct_succ, ← hs, er]; rfl) ha
    · rw [q] at tc
      have tc' : h.1 81 c = nI (X c) := tc
      have xl := (L c (by omega) q).1
      by_cases z : X c = c
      · have er : rpB (opC β) X c = true := by unfold rpB; rw [q, decide_eq_true z]; rfl
        rw [er]
        simp (disch := omega) only [↓reduceIte, ↓q_m1, ↓q_m2, k_o, k_0, k_1, k_2, k_3, k_4, k_5, k_6, k_7, k_8, k_9, k_10, k_11, k_16, k_17, k_19, k_20, k_24, k_26, k_27, k_30, k_32, k_33, k_35, k_40, k_43, k_48, k_50, k_57, k_60, k_64, k_81, k_86, k_34, k_66, k_322, k_97, k_99, k_100, k_122, k_128, k_160, k_161, k_255, k_256, k_512, k_580, k_600, k_1000, k_4096, k_far, k_o, nI_add, n_mul, n_sub, n_div, n_rem, n_lt, n_le, n_eq, n_cl, n_and, n_or, n_xor, m1_lt, lt_m1, m1_eq, eq_m1, le_m1, m1_le, m2_eq, up_eq, up_ne, n_shl, n_shr, b2_some, let_e, ob_some, bI_0, bI_a, bI_t, bI_f, if_true, if_false, ite_true, ite_false, true_and, and_true, false_and, and_false, true_or, or_true, false_or, or_false, not_true_eq_false, not_false_eq_true, ite_not, ne_eq, Bool.true_eq_false, Bool.false_eq_true, reduceCtorEq, decide_true, decide_false, Bool.and_true, Bool.and_false, Bool.true_and, Bool.false_and, Bool.or_true, Bool.or_false, Bool.not_true, Bool.not_false, Nat.add_zero, Nat.zero_add, eq_self, Nat.not_lt_zero, Nat.reduceAdd, Nat.reduceMul, Nat.reduceSub, Nat.reduceDiv, Nat.reduceMod, Nat.reduceAnd, Nat.reduceXor, Nat.reduceEqDiff, Nat.reducePow, lt_T, lt_F, le_T, le_F, eq_F, M.2.2.1, tc', z, o', m_gr]
        exact ih (c + 1) (n + 1) _ g (by omega) (by omega) (by rw [fb_ct_succ, ← hs, er]; rfl) (by omega)
      · have er : rpB (opC β) X c = false := by unfold rpB; rw [q, decide_eq_false z]; rfl
        rw [er]
        simp (disch := omega) only [↓reduceIte, ↓q_m1, ↓q_m2, k_o, k_0, k_1, k_2, k_3, k_4, k_5, k_6, k_7, k_8, k_9, k_10, k_11, k_16, k_17, k_19, k_20, k_24, k_26, k_27, k_30, k_32, k_33, k_35, k_40, k_43, k_48, k_50, k_57, k_60, k_64, k_81, k_86, k_34, k_66, k_322, k_97, k_99, k_100, k_122, k_128, k_160, k_161, k_255, k_256, k_512, k_580, k_600, k_1000, k_4096, k_far, k_o, nI_add, n_mul, n_sub, n_div, n_rem, n_lt, n_le, n_eq, n_cl, n_and, n_or, n_xor, m1_lt, lt_m1, m1_eq, eq_m1, le_m1, m1_le, m2_eq, up_eq, up_ne, n_shl, n_shr, b2_some, let_e, ob_some, bI_0, bI_a, bI_t, bI_f, if_true, if_false, ite_true, ite_false, true_and, and_true, false_and, and_false, true_or, or_true, false_or, or_false, not_true_eq_false, not_false_eq_true, ite_not, ne_eq, Bool.true_eq_false, Bool.false_eq_true, reduceCtorEq, decide_true, decide_false, Bool.and_true, Bool.and_false, Bool.true_and, Bool.false_and, Bool.or_true, Bool.or_false, Bool.not_true, Bool.not_false, Nat.add_zero, Nat.zero_add, eq_self, Nat.not_lt_zero, Nat.reduceAdd, Nat.reduceMul, Nat.reduceSub, Nat.reduceDiv, Nat.reduceMod, Nat.reduceAnd, Nat.reduceXor, Nat.reduceEqDiff, Nat.reducePow, lt_T, lt_F, le_T, le_F, eq_F, M.2.2.1, tc']
        exact ih (c + 1) n a g (by omega) (by omega) (by rw [fb_ct_succ, ← hs, er]; rfl) ha
end HM
