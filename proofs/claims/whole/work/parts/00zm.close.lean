/-! closes: the class's searches. -/
section CL
variable {β : qB} {h : qm_H} {w hh : Nat} {S : Nat → Bool}
def inI (β : qB) (w hh : Nat) (S : Nat → Bool) (i x : Nat) : Bool := decide (∀ v, v < bw β * bh β → unB β w hh S v = true → fb_ct (gB β w hh) v < i → inR (bw β) w hh v x = true)
def exI (β : qB) (w hh : Nat) (S : Nat → Bool) (i : Nat) : Prop := ∃ v, v < bw β * bh β ∧ unB β w hh S v = true ∧ fb_ct (gB β w hh) v < i
theorem un_g {u : Nat} (e : unB β w hh S u = true) : gB β w hh u = true := by
  unfold unB at e
  rw [Bool.and_eq_true] at e
  exact e.1
theorem g_lt {u : Nat} (hu : u < bw β * bh β) (hg : gB β w hh u = true) : fb_ct (gB β w hh) u < fb_ct (gB β w hh) (bw β * bh β) := by
  have := fb_ct_mono (gB β w hh) (show u + 1 ≤ bw β * bh β by omega)
  rw [fb_ct_succ, hg] at this
  simp only [if_true] at this
  omega
theorem c_lia_l (k : bOK β) {sh : Int64} (hS : ∀ x, x < bw β * bh β → S x = lb sh (sgm (bw β) x)) (e3 : h.1 49 3 = nI (fb_ct (gB β w hh) (bw β * bh β))) (mk : ∀ u, u < bw β * bh β → gB β w hh u = true → rep (bw β) (bh β) (h.2 50 (fb_ct (gB β w hh) u)) (inR (bw β) w hh u)) (ex : ∃ u, u < bw β * bh β ∧ unB β w hh S u = true) : ∀ d i l fuel, i + d = fb_ct (gB β w hh) (bw β * bh β) → d < fuel → (¬ exI β w hh S i → l = -1) → (exI β w hh S i → rep (bw β) (bh β) l (inI β w hh S i)) → qX7_leastInAll_7 fuel 49 sh l (nI i) h = some (match fs (inA β w hh S (bw β * bh β)) (bw β * bh β) 0 with | none => m1 | some x => nI (sgm (bw β) x), h) := by
  have hW := k.W
  have hH := k.H
  have hn := k.n
  have hcn := fb_ct_le (gB β w hh) (bw β * bh β)
  intro d
  induction d with
  | zero =>
    intro i l fuel hi hf L1 L2
    obtain ⟨g, rfl⟩ : ∃ g, fuel = g + 1 := ⟨fuel - 1, by omega⟩
    have hi' : i = fb_ct (gB β w hh) (bw β * bh β) := by omega
    have full : exI β w hh S i := by
      obtain ⟨u, hu, hun⟩ := ex
      exact ⟨u, hu, hun, by rw [hi']; exact g_lt hu (un_g hun)⟩
    have eI : inI β w hh S i = inA β w hh S (bw β * bh β) := by
      funext x
      unfold inI inA
      exact decide_eq_decide.mpr ⟨fun z u hu hun => z u hu hun (by rw [hi']; exact g_lt hu (un_g hun)), fun z v hv hun _ => z v hv hun⟩
    have R := L2 full
    rw [eI] at R
    have o := c_lia_end (h := h) k ex R
    unfold qX7_leastInAll_7
    simp (disch := omega) only [↓reduceIte, ↓q_m1, ↓q_m2, k_o, k_0, k_1, k_2, k_3, k_4, k_5, k_6, k_7, k_8, k_9, k_10, k_11, k_16, k_17, k_19, k_20, k_24, k_26, k_27, k_30, k_32, k_33, k_35, k_40, k_43, k_48, k_50, k_57, k_60, k_64, k_81, k_86, k_34, k_66, k_322, k_97, k_99, k_100, k_122, k_128, k_160, k_161, k_255, k_256, k_512, k_580, k_600, k_1000, k_4096, k_far, k_o, nI_add, n_mul, n_sub, n_div, n_rem, n_lt, n_le, n_eq, n_cl, n_and, n_or, n_xor, m1_lt, lt_m1, m1_eq, eq_m1, le_m1, m1_le, m2_eq, up_eq, up_ne, n_shl, n_shr, b2_some, let_e, ob_some, bI_0, bI_a, bI_t, bI_f, if_true, if_false, ite_true, ite_false, true_and, and_true, false_and, and_false, true_or, or_true, false_or, or_false, not_true_eq_false, not_false_eq_true, ite_not, ne_eq, Bool.true_eq_false, Bool.false_eq_true, reduceCtorEq, decide_true, decide_false, Bool.and_true, Bool.and_false, Bool.true_and, Bool.false_and, Bool.or_true, Bool.or_false, Bool.not_true, Bool.not_false, Nat.add_zero, Nat.zero_add, eq_self, Nat.not_lt_zero, Nat.reduceAdd, Nat.reduceMul, Nat.reduceSub, Nat.reduceDiv, Nat.reduceMod, Nat.reduceAnd, Nat.reduceXor, Nat.reduceEqDiff, Nat.reducePow, lt_T, lt_F, le_T, le_F, eq_F, e3]
    exact o
  | succ d ih =>
    intro i l fuel hi hf L1 L2
    obtain ⟨g, rfl⟩ : ∃ g, fuel = g + 1 := ⟨fuel - 1, by omega⟩
    obtain ⟨u, hu, hg, eu⟩ := fb_ct_kth (show i < fb_ct (gB β w hh) (bw β * bh β) by omega)
    have Rm := mk u hu hg
    rw [eu] at Rm
    unfold qX7_leastInAll_7
    by_cases z : l = 0
    · have e : exI β w hh S i := Classical.byContradiction (fun y => by
        have := L1 y
        rw [z] at this
        exact absurd this (by decide))
      have R := L2 e
      have none' : fs (inA β w hh S (bw β * bh β)) (bw β * bh β) 0 = none := fs_none (fun x _ hx => by
        have hx' : x < bw β * bh β := by omega
        have hd := k.dm hx'
        have hcm := Nat.div_add_mod x (bw β)
        have b1 := rep_bit hW.2 hH.2 R hd.1 hd.2
        rw [hcm, z, lb_0] at b1
        cases q : inA β w hh S (bw β * bh β) x
        · rfl
        · have : inI β w hh S i x = true := decide_eq_true (fun v hv hun _ => of_decide_eq_true q v hv hun)
          rw [this] at b1
          cases b1)
      rw [none']
      unfold qX7_leastInAll_59
      simp (disch := omega) only [↓reduceIte, ↓q_m1, ↓q_m2, k_o, k_0, k_1, k_2, k_3, k_4, k_5, k_6, k_7, k_8, k_9, k_10, k_11, k_16, k_17, k_19, k_20, k_24, k_26, k_27, k_30, k_32, k_33, k_35, k_40, k_43, k_48, k_50, k_57, k_60, k_64, k_81, k_86, k_34, k_66, k_322, k_97, k_99, k_100, k_122, k_128, k_160, k_161, k_255, k_256, k_512, k_580, k_600, k_1000, k_4096, k_far, k_o, nI_add, n_mul, n_sub, n_div, n_rem, n_lt, n_le, n_eq, n_cl, n_and, n_or, n_xor, m1_lt, lt_m1, m1_eq, eq_m1, le_m1, m1_le, m2_eq, up_eq, up_ne, n_shl, n_shr, b2_some, let_e, ob_some, bI_0, bI_a, bI_t, bI_f, if_true, if_false, ite_true, ite_false, true_and, and_true, false_and, and_false, true_or, or_true, false_or, or_false, not_true_eq_false, not_false_eq_true, ite_not, ne_eq, Bool.true_eq_false, Bool.false_eq_true, reduceCtorEq, decide_true, decide_false, Bool.and_true, Bool.and_false, Bool.true_and, Bool.false_and, Bool.or_true, Bool.or_false, Bool.not_true, Bool.not_false, Nat.add_zero, Nat.zero_add, eq_self, Nat.not_lt_zero, Nat.reduceAdd, Nat.reduceMul, Nat.reduceSub, Nat.reduceDiv, Nat.reduceMod, Nat.reduceAnd, Nat.reduceXor, Nat.reduceEqDiff, Nat.reducePow, lt_T, lt_F, le_T, le_F, eq_F, e3, l_cmp0, z]
    · -- is the gap shut?
      have hit : (h.2 50 i &&& sh = 0) ↔ unB β w hh S u = true := by
        unfold unB
        rw [hg, Bool.true_and, decide_eq_true_eq]
        constructor
        · intro y x hx
          have hd := k.dm hx
          have hcm := Nat.div_add_mod x (bw β)
          have b1 := rep_bit hW.2 hH.2 Rm hd.1 hd.2
          rw [hcm] at b1
          have b2 : lb (h.2 50 i &&& sh) (sgm (bw β) x) = false := by rw [y, lb_0]
          rw [lb_and] at b2
          unfold sgm at b2
          rw [b1] at b2
          rw [hS x hx]
          exact b2
        · intro y
          apply lb_ext
          intro j hj
          rw [lb_and, lb_0, Rm j hj]
          by_cases t : j / 8 < bh β ∧ j % 8 < bw β
          · obtain ⟨w1, w2⟩ := wc_dm (W := bw β) (r := j / 8) (c := j % 8) t.2
            have hc := cell_lt (W := bw β) (H := bh β) t.1 t.2
            have := y _ hc
            rw [hS _ hc] at this
            unfold sgm at this
            rw [w1, w2, show 8 * (j / 8) + j % 8 = j by omega] at this
            rw [decide_eq_true t, Bool.true_and]
            exact this
          · rw [decide_eq_false t, Bool.false_and, Bool.false_and]
      have only : ∀ v, v < bw β * bh β → unB β w hh S v = true → fb_ct (gB β w hh) v < i + 1 → fb_ct (gB β w hh) v < i ∨ v = u := fun v hv hun hlt => by
        by_cases y : fb_ct (gB β w hh) v = i
        · exact Or.inr (fb_ct_kth_one (un_g hun) hg (by rw [y, eu]))
        · exact Or.inl (by omega)
      by_cases hu2 : unB β w hh S u = true
      · have K := ih (i + 1) (l &&& h.2 50 i) g (by omega) (by omega) (fun y => absurd ⟨u, hu, hu2, by omega⟩ y) (fun _ => by
          intro j hj
          rw [lb_and, Rm j hj]
          by_cases e : exI β w hh S i
          · rw [L2 e j hj]
            by_cases t : j / 8 < bh β ∧ j % 8 < bw β
            · rw [decide_eq_true t, Bool.true_and, Bool.true_and, Bool.true_and]
              generalize bw β * (j / 8) + j % 8 = x
              by_cases y : inR (bw β) w hh u x = true
              · rw [y, Bool.and_true]
                unfold inI
                exact decide_eq_decide.mpr ⟨fun q v hv hun hlt => by
                  rcases only v hv hun hlt with c | c
                  · exact q v hv hun c
                  · rw [c]; exact y, fun q v hv hun hlt => q v hv hun (by omega)⟩
              · have y' : inR (bw β) w hh u x = false := Bool.not_eq_true _ ▸ y
                rw [y', Bool.and_false]
                exact (decide_eq_false (fun q => y (q u hu hu2 (by omega)))).symm
            · rw [decide_eq_false t, Bool.false_and, Bool.false_and, Bool.false_and]
          · rw [L1 e, lb_m1 j hj, Bool.true_and]
            congr 1
            generalize bw β * (j / 8) + j % 8 = x
            cases y : inR (bw β) w hh u x
            · exact (decide_eq_false (fun q => by rw [q u hu hu2 (by omega)] at y; cases y)).symm
            · refine (decide_eq_true (fun v hv hun hlt => ?_)).symm
              rcases only v hv hun hlt with c | c
              · exact absurd ⟨v, hv, hun, c⟩ e
              · rw [c]; exact y)
        simp (disch := omega) only [↓reduceIte, ↓q_m1, ↓q_m2, k_o, k_0, k_1, k_2, k_3, k_4, k_5, k_6, k_7, k_8, k_9, k_10, k_11, k_16, k_17, k_19, k_20, k_24, k_26, k_27, k_30, k_32, k_33, k_35, k_40, k_43, k_48, k_50, k_57, k_60, k_64, k_81, k_86, k_34, k_66, k_322, k_97, k_99, k_100, k_122, k_128, k_160, k_161, k_255, k_256, k_512, k_580, k_600, k_1000, k_4096, k_far, k_o, nI_add, n_mul, n_sub, n_div, n_rem, n_lt, n_le, n_eq, n_cl, n_and, n_or, n_xor, m1_lt, lt_m1, m1_eq, eq_m1, le_m1, m1_le, m2_eq, up_eq, up_ne, n_shl, n_shr, b2_some, let_e, ob_some, bI_0, bI_a, bI_t, bI_f, if_true, if_false, ite_true, ite_false, true_and, and_true, false_and, and_false, true_or, or_true, false_or, or_false, not_true_eq_false, not_false_eq_true, ite_not, ne_eq, Bool.true_eq_false, Bool.false_eq_true, reduceCtorEq, decide_true, decide_false, Bool.and_true, Bool.and_false, Bool.true_and, Bool.false_and, Bool.or_true, Bool.or_false, Bool.not_true, Bool.not_false, Nat.add_zero, Nat.zero_add, eq_self, Nat.not_lt_zero, Nat.reduceAdd, Nat.reduceMul, Nat.reduceSub, Nat.reduceDiv, Nat.reduceMod, Nat.reduceAnd, Nat.reduceXor, Nat.reduceEqDiff, Nat.reducePow, lt_T, lt_F, le_T, le_F, eq_F, e3, l_cmp0, z, eq_true (hit.mpr hu2)]
        exact K
      · have only2 : ∀ v, v < bw β * bh β → unB β w hh S v = true → fb_ct (gB β w hh) v < i + 1 → fb_ct (gB β w hh) v < i := fun v hv hun hlt => by
          rcases only v hv hun hlt with c | c
          · exact c
          · rw [c] at hun
            exact absurd hun hu2
        have K := ih (i + 1) l g (by omega) (by omega) (fun y => L1 (fun ⟨v, hv, hun, hlt⟩ => y ⟨v, hv, hun, by omega⟩)) (fun ⟨v, hv, hun, hlt⟩ => by
          have R := L2 ⟨v, hv, hun, only2 v hv hun hlt⟩
          have e : inI β w hh S (i + 1) = inI β w hh S i := by
            funext x
            exact decide_eq_decide.mpr ⟨fun q v hv hun hlt => q v hv hun (by omega), fun q v hv hun hlt => q v hv hun (only2 v hv hun hlt)⟩
          rw [e]
          exact R)
        simp (disch := omega) only [↓reduceIte, ↓q_m1, ↓q_m2, k_o, k_0, k_1, k_2, k_3, k_4, k_5, k_6, k_7, k_8, k_9, k_10, k_11, k_16, k_17, k_19, k_20, k_24, k_26, k_27, k_30, k_32, k_33, k_35, k_40, k_43, k_48, k_50, k_57, k_60, k_64, k_81, k_86, k_34, k_66, k_322, k_97, k_99, k_100, k_122, k_128, k_160, k_161, k_255, k_256, k_512, k_580, k_600, k_1000, k_4096, k_far, k_o, nI_add, n_mul, n_sub, n_div, n_rem, n_lt, n_le, n_eq, n_cl, n_and, n_or, n_xor, m1_lt, lt_m1, m1_eq, eq_m1, le_m1, m1_le, m2_eq, up_eq, up_ne, n_shl, n_shr, b2_some, let_e, ob_some, bI_0, bI_a, bI_t, bI_f, if_true, if_false, ite_true, ite_false, true_and, and_true, false_and, and_false, true_or, or_true, false_or, or_false, not_true_eq_false, not_false_eq_true, ite_not, ne_eq, Bool.true_eq_false, Bool.false_eq_true, reduceCtorEq, decide_true, decide_false, Bool.and_true, Bool.and_false, Bool.true_and, Bool.false_and, Bool.or_true, Bool.or_false, Bool.not_true, Bool.not_false, Nat.add_zero, Nat.zero_add, eq_self, Nat.not_lt_zero, Nat.reduceAdd, Nat.reduceMul, Nat.reduceSub, Nat.reduceDiv, Nat.reduceMod, Nat.reduceAnd, Nat.reduceXor, Nat.reduceEqDiff, Nat.reducePow, lt_T, lt_F, le_T, le_F, eq_F, e3, l_cmp0, z, eq_false (fun t => hu2 (hit.mp t))]
        exact K
def lia (β : qB) (w hh : Nat) (S : Nat → Bool) : Option Nat := fs (inA β w hh S (bw β * bh β)) (bw β * bh β) 0
def liI (β : qB) (w hh : Nat) (S : Nat → Bool) : Int32 := match lia β w hh S with | none => m1 | some x => nI (sgm (bw β) x)
theorem sgm_lt (k : bOK β) {x : Nat} (hx : x < bw β * bh β) : sgm (bw β) x < 64 := by
  have := k.dm hx
  have hW := k.W
  have hH := k.H
  unfold sgm
  omega
theorem sgm_inj {W x y : Nat} (hW : 0 < W) (hW8 : W ≤ 8) (e : sgm W x = sgm W y) : x = y := by
  unfold sgm at e
  have h1 := Nat.mod_lt x hW
  have h2 := Nat.mod_lt y hW
  have h3 := Nat.div_add_mod x W
  have h4 := Nat.div_add_mod y W
  have e1 : x / W = y / W := by omega
  rw [← e1] at h4
  omega
theorem c_lia (k : bOK β) {sh : Int64} (hS : ∀ x, x < bw β * bh β → S x = lb sh (sgm (bw β) x)) (e3 : h.1 49 3 = nI (fb_ct (gB β w hh) (bw β * bh β))) (mk : ∀ u, u < bw β * bh β → gB β w hh u = true → rep (bw β) (bh β) (h.2 50 (fb_ct (gB β w hh) u)) (inR (bw β) w hh u)) (ex : ∃ u, u < bw β * bh β ∧ unB β w hh S u = true) : qX7_leastInAll 49 sh h = some (liI β w hh S, h) := by
  have hn := k.n
  have hcn := fb_ct_le (gB β w hh) (bw β * bh β)
  unfold qX7_leastInAll
  exact c_lia_l k hS e3 mk ex (fb_ct (gB β w hh) (bw β * bh β)) 0 (-1) qm_N (by omega) (by unfold qm_N; omega) (fun _ => rfl) (fun ⟨v, _, _, hlt⟩ => absurd hlt (Nat.not_lt_zero _))
def S1 (W a : Nat) : Nat → Bool := fun x => decide (sgm W x = a)
def S2 (W a b : Nat) : Nat → Bool := fun x => decide (sgm W x = a) || decide (sgm W x = b)
theorem lb_one {a j : Nat} (ha : a < 64) (hj : j < 64) : lb (qm_lshl 1 (nI a)) j = decide (j = a) := by
  rw [lb_shl _ ha hj]
  by_cases z : a ≤ j
  · rw [decide_eq_true z, Bool.true_and, lb_1s _ (by omega)]
    exact decide_eq_decide.mpr ⟨fun y => by omega, fun y => by omega⟩
  · rw [decide_eq_false z, Bool.false_and]
    exact (decide_eq_false (by omega)).symm
theorem liI_eq (k : bOK β) : (liI β w hh S = m1) = (lia β w hh S = none) := by
  unfold liI
  cases q : lia β w hh S with
  | none => simp
  | some x =>
    obtain ⟨_, x2, _⟩ := fs_some q
    have := sgm_lt k (x := x) (by omega)
    simp only
    rw [m1_eq (by omega)]
    simp
theorem c_two (k : bOK β) (e3 : h.1 49 3 = nI (fb_ct (gB β w hh) (bw β * bh β))) (mk : ∀ u, u < bw β * bh β → gB β w hh u = true → rep (bw β) (bh β) (h.2 50 (fb_ct (gB β w hh) u)) (inR (bw β) w hh u)) (ex : ∀ a, ∃ u, u < bw β * bh β ∧ unB β w hh (S1 (bw β) a) u = true) : ∀ d a fuel, a + d = 64 → d < fuel → ((∀ a', a ≤ a' → a' < 64 → lia β w hh (S1 (bw β) a') = none) ∧ qX7_closeTwo_2 fuel 49 (nI a) h = some (nI 0, h)) ∨ ∃ a1, a ≤ a1 ∧ a1 < 64 ∧ (∀ a', a ≤ a' → a' < a1 → lia β w hh (S1 (bw β) a') = none) ∧ lia β w hh (S1 (bw β) a1) ≠ none ∧ qX7_closeTwo_2 fuel 49 (nI a) h = some (nI 1, qm_seti (qm_seti h 51 0 (nI a1)) 51 1 (liI β w hh (S1 (bw β) a1))) := by
  intro d
  induction d with
  | zero =>
    intro a fuel ha hf
    obtain ⟨g, rfl⟩ : ∃ g, fuel = g + 1 := ⟨fuel - 1, by omega⟩
    refine Or.inl ⟨fun a' h1 h2 => by omega, ?_⟩
    unfold qX7_closeTwo_2
    simp (disch := omega) only [↓reduceIte, ↓q_m1, ↓q_m2, k_o, k_0, k_1, k_2, k_3, k_4, k_5, k_6, k_7, k_8, k_9, k_10, k_11, k_16, k_17, k_19, k_20, k_24, k_26, k_27, k_30, k_32, k_33, k_35, k_40, k_43, k_48, k_50, k_57, k_60, k_64, k_81, k_86, k_34, k_66, k_322, k_97, k_99, k_100, k_122, k_128, k_160, k_161, k_255, k_256, k_512, k_580, k_600, k_1000, k_4096, k_far, k_o, nI_add, n_mul, n_sub, n_div, n_rem, n_lt, n_le, n_eq, n_cl, n_and, n_or, n_xor, m1_lt, lt_m1, m1_eq, eq_m1, le_m1, m1_le, m2_eq, up_eq, up_ne, n_shl, n_shr, b2_some, let_e, ob_some, bI_0, bI_a, bI_t, bI_f, if_true, if_false, ite_true, ite_false, true_and, and_true, false_and, and_false, true_or, or_true, false_or, or_false, not_true_eq_false, not_false_eq_true, ite_not, ne_eq, Bool.true_eq_false, Bool.false_eq_true, reduceCtorEq, decide_true, decide_false, Bool.and_true, Bool.and_false, Bool.true_and, Bool.false_and, Bool.or_true, Bool.or_false, Bool.not_true, Bool.not_false, Nat.add_zero, Nat.zero_add, eq_self, Nat.not_lt_zero, Nat.reduceAdd, Nat.reduceMul, Nat.reduceSub, Nat.reduceDiv, Nat.reduceMod, Nat.reduceAnd, Nat.reduceXor, Nat.reduceEqDiff, Nat.reducePow, lt_T, lt_F, le_T, le_F, eq_F]
  | succ d ih =>
    intro a fuel ha hf
    obtain ⟨g, rfl⟩ : ∃ g, fuel = g + 1 := ⟨fuel - 1, by omega⟩
    have o := c_lia (S := S1 (bw β) a) (sh := qm_lshl 1 (nI a)) k (fun x hx => by rw [lb_one (by omega) (sgm_lt k hx)]; rfl) e3 mk (ex a)
    by_cases z : lia β w hh (S1 (bw β) a) = none
    · have zi : liI β w hh (S1 (bw β) a) = m1 := by rw [liI_eq k]; exact z
      rcases ih (a + 1) g (by omega) (by omega) with ⟨i1, i2⟩ | ⟨a1, i1, i2, i3, i4, i5⟩
      · refine Or.inl ⟨fun a' h1 h2 => ?_, ?_⟩
        · by_cases y : a' = a
          · rw [y]; exact z
          · exact i1 a' (by omega) h2
        · unfold qX7_closeTwo_2
          simp (disch := omega) only [↓reduceIte, ↓q_m1, ↓q_m2, k_o, k_0, k_1, k_2, k_3, k_4, k_5, k_6, k_7, k_8, k_9, k_10, k_11, k_16, k_17, k_19, k_20, k_24, k_26, k_27, k_30, k_32, k_33, k_35, k_40, k_43, k_48, k_50, k_57, k_60, k_64, k_81, k_86, k_34, k_66, k_322, k_97, k_99, k_100, k_122, k_128, k_160, k_161, k_255, k_256, k_512, k_580, k_600, k_1000, k_4096, k_far, k_o, nI_add, n_mul, n_sub, n_div, n_rem, n_lt, n_le, n_eq, n_cl, n_and, n_or, n_xor, m1_lt, lt_m1, m1_eq, eq_m1, le_m1, m1_le, m2_eq, up_eq, up_ne, n_shl, n_shr, b2_some, let_e, ob_some, bI_0, bI_a, bI_t, bI_f, if_true, if_false, ite_true, ite_false, true_and, and_true, false_and, and_false, true_or, or_true, false_or, or_false, not_true_eq_false, not_false_eq_true, ite_not, ne_eq, Bool.true_eq_false, Bool.false_eq_true, reduceCtorEq, decide_true, decide_false, Bool.and_true, Bool.and_false, Bool.true_and, Bool.false_and, Bool.or_true, Bool.or_false, Bool.not_true, Bool.not_false, Nat.add_zero, Nat.zero_add, eq_self, Nat.not_lt_zero, Nat.reduceAdd, Nat.reduceMul, Nat.reduceSub, Nat.reduceDiv, Nat.reduceMod, Nat.reduceAnd, Nat.reduceXor, Nat.reduceEqDiff, Nat.reducePow, lt_T, lt_F, le_T, le_F, eq_F, o, zi]
          exact i2
      · refine Or.inr ⟨a1, by omega, i2, fun a' h1 h2 => ?_, i4, ?_⟩
        · by_cases y : a' = a
          · rw [y]; exact z
          · exact i3 a' (by omega) h2
        · unfold qX7_closeTwo_2
          simp (disch := omega) only [↓reduceIte, ↓q_m1, ↓q_m2, k_o, k_0, k_1, k_2, k_3, k_4, k_5, k_6, k_7, k_8, k_9, k_10, k_11, k_16, k_17, k_19, k_20, k_24, k_26, k_27, k_30, k_32, k_33, k_35, k_40, k_43, k_48, k_50, k_57, k_60, k_64, k_81, k_86, k_34, k_66, k_322, k_97, k_99, k_100, k_122, k_128, k_160, k_161, k_255, k_256, k_512, k_580, k_600, k_1000, k_4096, k_far, k_o, nI_add, n_mul, n_sub, n_div, n_rem, n_lt, n_le, n_eq, n_cl, n_and, n_or, n_xor, m1_lt, lt_m1, m1_eq, eq_m1, le_m1, m1_le, m2_eq, up_eq, up_ne, n_shl, n_shr, b2_some, let_e, ob_some, bI_0, bI_a, bI_t, bI_f, if_true, if_false, ite_true, ite_false, true_and, and_true, false_and, and_false, true_or, or_true, false_or, or_false, not_true_eq_false, not_false_eq_true, ite_not, ne_eq, Bool.true_eq_false, Bool.false_eq_true, reduceCtorEq, decide_true, decide_false, Bool.and_true, Bool.and_false, Bool.true_and, Bool.false_and, Bool.or_true, Bool.or_false, Bool.not_true, Bool.not_false, Nat.add_zero, Nat.zero_add, eq_self, Nat.not_lt_zero, Nat.reduceAdd, Nat.reduceMul, Nat.reduceSub, Nat.reduceDiv, Nat.reduceMod, Nat.reduceAnd, Nat.reduceXor, Nat.reduceEqDiff, Nat.reducePow, lt_T, lt_F, le_T, le_F, eq_F, o, zi]
          exact i5
    · have zi : ¬ liI β w hh (S1 (bw β) a) = m1 := by rw [liI_eq k]; exact z
      refine Or.inr ⟨a, Nat.le_refl _, by omega, fun a' h1 h2 => by omega, z, ?_⟩
      unfold qX7_closeTwo_2
      simp (disch := omega) only [↓reduceIte, ↓q_m1, ↓q_m2, k_o, k_0, k_1, k_2, k_3, k_4, k_5, k_6, k_7, k_8, k_9, k_10, k_11, k_16, k_17, k_19, k_20, k_24, k_26, k_27, k_30, k_32, k_33, k_35, k_40, k_43, k_48, k_50, k_57, k_60, k_64, k_81, k_86, k_34, k_66, k_322, k_97, k_99, k_100, k_122, k_128, k_160, k_161, k_255, k_256, k_512, k_580, k_600, k_1000, k_4096, k_far, k_o, nI_add, n_mul, n_sub, n_div, n_rem, n_lt, n_le, n_eq, n_cl, n_and, n_or, n_xor, m1_lt, lt_m1, m1_eq, eq_m1, le_m1, m1_le, m2_eq, up_eq, up_ne, n_shl, n_shr, b2_some, let_e, ob_some, bI_0, bI_a, bI_t, bI_f, if_true, if_false, ite_true, ite_false, true_and, and_true, false_and, and_false, true_or, or_true, false_or, or_false, not_true_eq_false, not_false_eq_true, ite_not, ne_eq, Bool.true_eq_false, Bool.false_eq_true, reduceCtorEq, decide_true, decide_false, Bool.and_true, Bool.and_false, Bool.true_and, Bool.false_and, Bool.or_true, Bool.or_false, Bool.not_true, Bool.not_false, Nat.add_zero, Nat.zero_add, eq_self, Nat.not_lt_zero, Nat.reduceAdd, Nat.reduceMul, Nat.reduceSub, Nat.reduceDiv, Nat.reduceMod, Nat.reduceAnd, Nat.reduceXor, Nat.reduceEqDiff, Nat.reducePow, lt_T, lt_F, le_T, le_F, eq_F, o, zi]
theorem c_three12 (k : bOK β) (e3 : h.1 49 3 = nI (fb_ct (gB β w hh) (bw β * bh β))) (mk : ∀ u, u < bw β * bh β → gB β w hh u = true → rep (bw β) (bh β) (h.2 50 (fb_ct (gB β w hh) u)) (inR (bw β) w hh u)) {a : Nat} (ha : a < 64) (ex : ∀ b, ∃ u, u < bw β * bh β ∧ unB β w hh (S2 (bw β) a b) u = true) (K : Nat → Int32 → qm_H → Option (Int32 × qm_H)) : ∀ d b fuel, b + d = 64 → d < fuel → ((∀ b', b ≤ b' → b' < 64 → lia β w hh (S2 (bw β) a b') = none) ∧ qX7_closeThree_12 K fuel 49 (nI a) (nI b) h = K 49 (nI (a + 1)) h) ∨ ∃ b1, b ≤ b1 ∧ b1 < 64 ∧ (∀ b', b ≤ b' → b' < b1 → lia β w hh (S2 (bw β) a b') = none) ∧ lia β w hh (S2 (bw β) a b1) ≠ none ∧ qX7_closeThree_12 K fuel 49 (nI a) (nI b) h = some (nI 1, qm_seti (qm_seti (qm_seti h 51 0 (nI a)) 51 1 (nI b1)) 51 2 (liI β w hh (S2 (bw β) a b1))) := by
  intro d
  induction d with
  | zero =>
    intro b fuel hb hf
    obtain ⟨g, rfl⟩ : ∃ g, fuel = g + 1 := ⟨fuel - 1, by omega⟩
    refine Or.inl ⟨fun b' h1 h2 => by omega, ?_⟩
    unfold qX7_closeThree_12
    simp (disch := omega) only [↓reduceIte, ↓q_m1, ↓q_m2, k_o, k_0, k_1, k_2, k_3, k_4, k_5, k_6, k_7, k_8, k_9, k_10, k_11, k_16, k_17, k_19, k_20, k_24, k_26, k_27, k_30, k_32, k_33, k_35, k_40, k_43, k_48, k_50, k_57, k_60, k_64, k_81, k_86, k_34, k_66, k_322, k_97, k_99, k_100, k_122, k_128, k_160, k_161, k_255, k_256, k_512, k_580, k_600, k_1000, k_4096, k_far, k_o, nI_add, n_mul, n_sub, n_div, n_rem, n_lt, n_le, n_eq, n_cl, n_and, n_or, n_xor, m1_lt, lt_m1, m1_eq, eq_m1, le_m1, m1_le, m2_eq, up_eq, up_ne, n_shl, n_shr, b2_some, let_e, ob_some, bI_0, bI_a, bI_t, bI_f, if_true, if_false, ite_true, ite_false, true_and, and_true, false_and, and_false, true_or, or_true, false_or, or_false, not_true_eq_false, not_false_eq_true, ite_not, ne_eq, Bool.true_eq_false, Bool.false_eq_true, reduceCtorEq, decide_true, decide_false, Bool.and_true, Bool.and_false, Bool.true_and, Bool.false_and, Bool.or_true, Bool.or_false, Bool.not_true, Bool.not_false, Nat.add_zero, Nat.zero_add, eq_self, Nat.not_lt_zero, Nat.reduceAdd, Nat.reduceMul, Nat.reduceSub, Nat.reduceDiv, Nat.reduceMod, Nat.reduceAnd, Nat.reduceXor, Nat.reduceEqDiff, Nat.reducePow, lt_T, lt_F, le_T, le_F, eq_F]
  | succ d ih =>
    intro b fuel hb hf
    obtain ⟨g, rfl⟩ : ∃ g, fuel = g + 1 := ⟨fuel - 1, by omega⟩
    have o := c_lia (S := S2 (bw β) a b) (sh := qm_lshl 1 (nI a) ||| qm_lshl 1 (nI b)) k (fun x hx => by rw [lb_or, lb_one ha (sgm_lt k hx), lb_one (by omega) (sgm_lt k hx)]; rfl) e3 mk (ex b)
    by_cases z : lia β w hh (S2 (bw β) a b) = none
    · have zi : liI β w hh (S2 (bw β) a b) = m1 := by rw [liI_eq k]; exact z
      rcases ih (b + 1) g (by omega) (by omega) with ⟨i1, i2⟩ | ⟨b1, i1, i2, i3, i4, i5⟩
      · refine Or.inl ⟨fun b' h1 h2 => ?_, ?_⟩
        · by_cases y : b' = b
          · rw [y]; exact z
          · exact i1 b' (by omega) h2
        · unfold qX7_closeThree_12
          simp (disch := omega) only [↓reduceIte, ↓q_m1, ↓q_m2, k_o, k_0, k_1, k_2, k_3, k_4, k_5, k_6, k_7, k_8, k_9, k_10, k_11, k_16, k_17, k_19, k_20, k_24, k_26, k_27, k_30, k_32, k_33, k_35, k_40, k_43, k_48, k_50, k_57, k_60, k_64, k_81, k_86, k_34, k_66, k_322, k_97, k_99, k_100, k_122, k_128, k_160, k_161, k_255, k_256, k_512, k_580, k_600, k_1000, k_4096, k_far, k_o, nI_add, n_mul, n_sub, n_div, n_rem, n_lt, n_le, n_eq, n_cl, n_and, n_or, n_xor, m1_lt, lt_m1, m1_eq, eq_m1, le_m1, m1_le, m2_eq, up_eq, up_ne, n_shl, n_shr, b2_some, let_e, ob_some, bI_0, bI_a, bI_t, bI_f, if_true, if_false, ite_true, ite_false, true_and, and_true, false_and, and_false, true_or, or_true, false_or, or_false, not_true_eq_false, not_false_eq_true, ite_not, ne_eq, Bool.true_eq_false, Bool.false_eq_true, reduceCtorEq, decide_true, decide_false, Bool.and_true, Bool.and_false, Bool.true_and, Bool.false_and, Bool.or_true, Bool.or_false, Bool.not_true, Bool.not_false, Nat.add_zero, Nat.zero_add, eq_self, Nat.not_lt_zero, Nat.reduceAdd, Nat.reduceMul, Nat.reduceSub, Nat.reduceDiv, Nat.reduceMod, Nat.reduceAnd, Nat.reduceXor, Nat.reduceEqDiff, Nat.reducePow, lt_T, lt_F, le_T, le_F, eq_F, o, zi]
          exact i2
      · refine Or.inr ⟨b1, by omega, i2, fun b' h1 h2 => ?_, i4, ?_⟩
        · by_cases y : b' = b
          · rw [y]; exact z
          · exact i3 b' (by omega) h2
        · unfold qX7_closeThree_12
          simp (disch := omega) only [↓reduceIte, ↓q_m1, ↓q_m2, k_o, k_0, k_1, k_2, k_3, k_4, k_5, k_6, k_7, k_8, k_9, k_10, k_11, k_16, k_17, k_19, k_20, k_24, k_26, k_27, k_30, k_32, k_33, k_35, k_40, k_43, k_48, k_50, k_57, k_60, k_64, k_81, k_86, k_34, k_66, k_322, k_97, k_99, k_100, k_122, k_128, k_160, k_161, k_255, k_256, k_512, k_580, k_600, k_1000, k_4096, k_far, k_o, nI_add, n_mul, n_sub, n_div, n_rem, n_lt, n_le, n_eq, n_cl, n_and, n_or, n_xor, m1_lt, lt_m1, m1_eq, eq_m1, le_m1, m1_le, m2_eq, up_eq, up_ne, n_shl, n_shr, b2_some, let_e, ob_some, bI_0, bI_a, bI_t, bI_f, if_true, if_false, ite_true, ite_false, true_and, and_true, false_and, and_false, true_or, or_true, false_or, or_false, not_true_eq_false, not_false_eq_true, ite_not, ne_eq, Bool.true_eq_false, Bool.false_eq_true, reduceCtorEq, decide_true, decide_false, Bool.and_true, Bool.and_false, Bool.true_and, Bool.false_and, Bool.or_true, Bool.or_false, Bool.not_true, Bool.not_false, Nat.add_zero, Nat.zero_add, eq_self, Nat.not_lt_zero, Nat.reduceAdd, Nat.reduceMul, Nat.reduceSub, Nat.reduceDiv, Nat.reduceMod, Nat.reduceAnd, Nat.reduceXor, Nat.reduceEqDiff, Nat.reducePow, lt_T, lt_F, le_T, le_F, eq_F, o, zi]
          exact i5
    · have zi : ¬ liI β w hh (S2 (bw β) a b) = m1 := by rw [liI_eq k]; exact z
      refine Or.inr ⟨b, Nat.le_refl _, by omega, fun b' h1 h2 => by omega, z, ?_⟩
      unfold qX7_closeThree_12
      simp (disch := omega) only [↓reduceIte, ↓q_m1, ↓q_m2, k_o, k_0, k_1, k_2, k_3, k_4, k_5, k_6, k_7, k_8, k_9, k_10, k_11, k_16, k_17, k_19, k_20, k_24, k_26, k_27, k_30, k_32, k_33, k_35, k_40, k_43, k_48, k_50, k_57, k_60, k_64, k_81, k_86, k_34, k_66, k_322, k_97, k_99, k_100, k_122, k_128, k_160, k_161, k_255, k_256, k_512, k_580, k_600, k_1000, k_4096, k_far, k_o, nI_add, n_mul, n_sub, n_div, n_rem, n_lt, n_le, n_eq, n_cl, n_and, n_or, n_xor, m1_lt, lt_m1, m1_eq, eq_m1, le_m1, m1_le, m2_eq, up_eq, up_ne, n_shl, n_shr, b2_some, let_e, ob_some, bI_0, bI_a, bI_t, bI_f, if_true, if_false, ite_true, ite_false, true_and, and_true, false_and, and_false, true_or, or_true, false_or, or_false, not_true_eq_false, not_false_eq_true, ite_not, ne_eq, Bool.true_eq_false, Bool.false_eq_true, reduceCtorEq, decide_true, decide_false, Bool.and_true, Bool.and_false, Bool.true_and, Bool.false_and, Bool.or_true, Bool.or_false, Bool.not_true, Bool.not_false, Nat.add_zero, Nat.zero_add, eq_self, Nat.not_lt_zero, Nat.reduceAdd, Nat.reduceMul, Nat.reduceSub, Nat.reduceDiv, Nat.reduceMod, Nat.reduceAnd, Nat.reduceXor, Nat.reduceEqDiff, Nat.reducePow, lt_T, lt_F, le_T, le_F, eq_F, o, zi]
theorem c_three (k : bOK β) (e3 : h.1 49 3 = nI (fb_ct (gB β w hh) (bw β * bh β))) (mk : ∀ u, u < bw β * bh β → gB β w hh u = true → rep (bw β) (bh β) (h.2 50 (fb_ct (gB β w hh) u)) (inR (bw β) w hh u)) (ex : ∀ a b, ∃ u, u < bw β * bh β ∧ unB β w hh (S2 (bw β) a b) u = true) : ∀ d a fuel, a + d = 64 → d < fuel → ((∀ a' b', a ≤ a' → a' < b' → b' < 64 → lia β w hh (S2 (bw β) a' b') = none) ∧ qX7_closeThree_2 fuel 49 (nI a) h = some (nI 0, h)) ∨ ∃ a1 b1, a ≤ a1 ∧ a1 < b1 ∧ b1 < 64 ∧ (∀ a' b', a ≤ a' → a' < a1 → a' < b' → b' < 64 → lia β w hh (S2 (bw β) a' b') = none) ∧ (∀ b', a1 < b' → b' < b1 → lia β w hh (S2 (bw β) a1 b') = none) ∧ lia β w hh (S2 (bw β) a1 b1) ≠ none ∧ qX7_closeThree_2 fuel 49 (nI a) h = some (nI 1, qm_seti (qm_seti (qm_seti h 51 0 (nI a1)) 51 1 (nI b1)) 51 2 (liI β w hh (S2 (bw β) a1 b1))) := by
  intro d
  induction d with
  | zero =>
    intro a fuel ha hf
    obtain ⟨g, rfl⟩ : ∃ g, fuel = g + 1 := ⟨fuel - 1, by omega⟩
    refine Or.inl ⟨fun a' b' h1 h2 => by omega, ?_⟩
    unfold qX7_closeThree_2
    simp (disch := omega) only [↓reduceIte, ↓q_m1, ↓q_m2, k_o, k_0, k_1, k_2, k_3, k_4, k_5, k_6, k_7, k_8, k_9, k_10, k_11, k_16, k_17, k_19, k_20, k_24, k_26, k_27, k_30, k_32, k_33, k_35, k_40, k_43, k_48, k_50, k_57, k_60, k_64, k_81, k_86, k_34, k_66, k_322, k_97, k_99, k_100, k_122, k_128, k_160, k_161, k_255, k_256, k_512, k_580, k_600, k_1000, k_4096, k_far, k_o, nI_add, n_mul, n_sub, n_div, n_rem, n_lt, n_le, n_eq, n_cl, n_and, n_or, n_xor, m1_lt, lt_m1, m1_eq, eq_m1, le_m1, m1_le, m2_eq, up_eq, up_ne, n_shl, n_shr, b2_some, let_e, ob_some, bI_0, bI_a, bI_t, bI_f, if_true, if_false, ite_true, ite_false, true_and, and_true, false_and, and_false, true_or, or_true, false_or, or_false, not_true_eq_false, not_false_eq_true, ite_not, ne_eq, Bool.true_eq_false, Bool.false_eq_true, reduceCtorEq, decide_true, decide_false, Bool.and_true, Bool.and_false, Bool.true_and, Bool.false_and, Bool.or_true, Bool.or_false, Bool.not_true, Bool.not_false, Nat.add_zero, Nat.zero_add, eq_self, Nat.not_lt_zero, Nat.reduceAdd, Nat.reduceMul, Nat.reduceSub, Nat.reduceDiv, Nat.reduceMod, Nat.reduceAnd, Nat.reduceXor, Nat.reduceEqDiff, Nat.reducePow, lt_T, lt_F, le_T, le_F, eq_F]
  | succ d ih =>
    intro a fuel ha hf
    obtain ⟨g, rfl⟩ : ∃ g, fuel = g + 1 := ⟨fuel - 1, by omega⟩
    rcases c_three12 k e3 mk (a := a) (by omega) (ex a) (qX7_closeThree_2 g) (64 - (a + 1)) (a + 1) qm_N (by omega) (by unfold qm_N; omega) with ⟨j1, j2⟩ | ⟨b1, j1, j2, j3, j4, j5⟩
    · rcases ih (a + 1) g (by omega) (by omega) with ⟨i1, i2⟩ | ⟨a1, b1, i1, i2, i3, i4, i5, i6, i7⟩
      · refine Or.inl ⟨fun a' b' h1 h2 h3 => ?_, ?_⟩
        · by_cases y : a' = a
          · rw [y]; exact j1 b' (by omega) h3
          · exact i1 a' b' (by omega) h2 h3
        · unfold qX7_closeThree_2
          simp (disch := omega) only [↓reduceIte, ↓q_m1, ↓q_m2, k_o, k_0, k_1, k_2, k_3, k_4, k_5, k_6, k_7, k_8, k_9, k_10, k_11, k_16, k_17, k_19, k_20, k_24, k_26, k_27, k_30, k_32, k_33, k_35, k_40, k_43, k_48, k_50, k_57, k_60, k_64, k_81, k_86, k_34, k_66, k_322, k_97, k_99, k_100, k_122, k_128, k_160, k_161, k_255, k_256, k_512, k_580, k_600, k_1000, k_4096, k_far, k_o, nI_add, n_mul, n_sub, n_div, n_rem, n_lt, n_le, n_eq, n_cl, n_and, n_or, n_xor, m1_lt, lt_m1, m1_eq, eq_m1, le_m1, m1_le, m2_eq, up_eq, up_ne, n_shl, n_shr, b2_some, let_e, ob_some, bI_0, bI_a, bI_t, bI_f, if_true, if_false, ite_true, ite_false, true_and, and_true, false_and, and_false, true_or, or_true, false_or, or_false, not_true_eq_false, not_false_eq_true, ite_not, ne_eq, Bool.true_eq_false, Bool.false_eq_true, reduceCtorEq, decide_true, decide_false, Bool.and_true, Bool.and_false, Bool.true_and, Bool.false_and, Bool.or_true, Bool.or_false, Bool.not_true, Bool.not_false, Nat.add_zero, Nat.zero_add, eq_self, Nat.not_lt_zero, Nat.reduceAdd, Nat.reduceMul, Nat.reduceSub, Nat.reduceDiv, Nat.reduceMod, Nat.reduceAnd, Nat.reduceXor, Nat.reduceEqDiff, Nat.reducePow, lt_T, lt_F, le_T, le_F, eq_F]
          rw [j2]
          exact i2
      · refine Or.inr ⟨a1, b1, by omega, i2, i3, fun a' b' h1 h2 h3 h4 => ?_, i5, i6, ?_⟩
        · by_cases y : a' = a
          · rw [y]; exact j1 b' (by omega) h4
          · exact i4 a' b' (by omega) h2 h3 h4
        · unfold qX7_closeThree_2
          simp (disch := omega) only [↓reduceIte, ↓q_m1, ↓q_m2, k_o, k_0, k_1, k_2, k_3, k_4, k_5, k_6, k_7, k_8, k_9, k_10, k_11, k_16, k_17, k_19, k_20, k_24, k_26, k_27, k_30, k_32, k_33, k_35, k_40, k_43, k_48, k_50, k_57, k_60, k_64, k_81, k_86, k_34, k_66, k_322, k_97, k_99, k_100, k_122, k_128, k_160, k_161, k_255, k_256, k_512, k_580, k_600, k_1000, k_4096, k_far, k_o, nI_add, n_mul, n_sub, n_div, n_rem, n_lt, n_le, n_eq, n_cl, n_and, n_or, n_xor, m1_lt, lt_m1, m1_eq, eq_m1, le_m1, m1_le, m2_eq, up_eq, up_ne, n_shl, n_shr, b2_some, let_e, ob_some, bI_0, bI_a, bI_t, bI_f, if_true, if_false, ite_true, ite_false, true_and, and_true, false_and, and_false, true_or, or_true, false_or, or_false, not_true_eq_false, not_false_eq_true, ite_not, ne_eq, Bool.true_eq_false, Bool.false_eq_true, reduceCtorEq, decide_true, decide_false, Bool.and_true, Bool.and_false, Bool.true_and, Bool.false_and, Bool.or_true, Bool.or_false, Bool.not_true, Bool.not_false, Nat.add_zero, Nat.zero_add, eq_self, Nat.not_lt_zero, Nat.reduceAdd, Nat.reduceMul, Nat.reduceSub, Nat.reduceDiv, Nat.reduceMod, Nat.reduceAnd, Nat.reduceXor, Nat.reduceEqDiff, Nat.reducePow, lt_T, lt_F, le_T, le_F, eq_F]
          rw [j2]
          exact i7
    · refine Or.inr ⟨a, b1, Nat.le_refl _, by omega, j2, fun a' b' h1 h2 => by omega, fun b' h1 h2 => j3 b' (by omega) h2, j4, ?_⟩
      unfold qX7_closeThree_2
      simp (disch := omega) only [↓reduceIte, ↓q_m1, ↓q_m2, k_o, k_0, k_1, k_2, k_3, k_4, k_5, k_6, k_7, k_8, k_9, k_10, k_11, k_16, k_17, k_19, k_20, k_24, k_26, k_27, k_30, k_32, k_33, k_35, k_40, k_43, k_48, k_50, k_57, k_60, k_64, k_81, k_86, k_34, k_66, k_322, k_97, k_99, k_100, k_122, k_128, k_160, k_161, k_255, k_256, k_512, k_580, k_600, k_1000, k_4096, k_far, k_o, nI_add, n_mul, n_sub, n_div, n_rem, n_lt, n_le, n_eq, n_cl, n_and, n_or, n_xor, m1_lt, lt_m1, m1_eq, eq_m1, le_m1, m1_le, m2_eq, up_eq, up_ne, n_shl, n_shr, b2_some, let_e, ob_some, bI_0, bI_a, bI_t, bI_f, if_true, if_false, ite_true, ite_false, true_and, and_true, false_and, and_false, true_or, or_true, false_or, or_false, not_true_eq_false, not_false_eq_true, ite_not, ne_eq, Bool.true_eq_false, Bool.false_eq_true, reduceCtorEq, decide_true, decide_false, Bool.and_true, Bool.and_false, Bool.true_and, Bool.false_and, Bool.or_true, Bool.or_false, Bool.not_true, Bool.not_false, Nat.add_zero, Nat.zero_add, eq_self, Nat.not_lt_zero, Nat.reduceAdd, Nat.reduceMul, Nat.reduceSub, Nat.reduceDiv, Nat.reduceMod, Nat.reduceAnd, Nat.reduceXor, Nat.reduceEqDiff, Nat.reducePow, lt_T, lt_F, le_T, le_F, eq_F]
      exact j5
end CL
