/-! cutting: the reference's table of costs. -/
theorem bt_and' (x y : Int32) (i : Nat) : bt (x &&& y) i = (bt x i && bt y i) := by unfold bt; rw [Int32.toBitVec_and, BitVec.getLsbD_and]
theorem bt_xor' (x y : Int32) (i : Nat) : bt (x ^^^ y) i = (bt x i ^^ bt y i) := by unfold bt; rw [Int32.toBitVec_xor, BitVec.getLsbD_xor]
theorem n_diff {s t : Nat} (hs : s < 256) (p : prt t s) : nI s &&& (nI t ^^^ m1) = nI (s ^^^ t) := bt_ext (fun i hi => by
  have ht := prt_le p
  have hx : s ^^^ t ≤ s := prt_le (spl_prt (prt_x p).symm)
  rw [bt_and', bt_xor', show m1 = (-1 : Int32) from rfl, bt_m1 i hi, bt_nI (by omega) i hi, bt_nI (by omega) i hi, bt_nI (by omega) i hi, Nat.testBit_xor]
  have := p i
  revert this
  cases s.testBit i <;> cases t.testBit i <;> decide)
section MCO
variable {π : qQ} {i : Nat} {h : qm_H}
theorem m_sum_l (k : pOK π) (hi : i < 2) (M : pM i π h) {m : Nat} (hm : m < 256) : ∀ d j fuel, j + d = pp π → d < fuel → qX12_sumOf_4 fuel 62 (nI m) (nI (fb_sm (fun i => if m.testBit i then pO π 0 i else 0) j)) (nI j) h = some (nI (fb_sm (fun i => if m.testBit i then pO π 0 i else 0) (pp π)), h) := by
  have hp : pp π ≤ 8 := k.2.1
  have bnd : ∀ j, j ≤ 8 → fb_sm (fun i => if m.testBit i then pO π 0 i else 0) j ≤ 480 := fun j hj => by
    have := fb_sm_bound (f := fun i => if m.testBit i then pO π 0 i else 0) (c := 60) (n := j) (fun i _ => by
      show (if m.testBit i then pO π 0 i else 0) ≤ 60
      split
      · exact pO_le k 0 i
      · omega)
    omega
  intro d
  induction d with
  | zero =>
    intro j fuel hj hf
    obtain ⟨g, rfl⟩ : ∃ g, fuel = g + 1 := ⟨fuel - 1, by omega⟩
    have b1 := bnd j (by omega)
    have : j = pp π := by omega
    subst this
    unfold qX12_sumOf_4
    simp (disch := omega) only [↓reduceIte, ↓q_m1, ↓q_m2, k_o, k_0, k_1, k_2, k_3, k_4, k_5, k_6, k_7, k_8, k_9, k_10, k_11, k_16, k_17, k_19, k_20, k_24, k_26, k_27, k_30, k_32, k_33, k_35, k_40, k_43, k_48, k_50, k_57, k_60, k_64, k_81, k_86, k_34, k_66, k_322, k_97, k_99, k_100, k_122, k_128, k_160, k_161, k_255, k_256, k_512, k_580, k_600, k_1000, k_4096, k_far, k_o, nI_add, n_mul, n_sub, n_div, n_rem, n_lt, n_le, n_eq, n_cl, n_and, n_or, n_xor, m1_lt, lt_m1, m1_eq, eq_m1, le_m1, m1_le, m2_eq, up_eq, up_ne, n_shl, n_shr, b2_some, let_e, ob_some, bI_0, bI_a, bI_t, bI_f, if_true, if_false, ite_true, ite_false, true_and, and_true, false_and, and_false, true_or, or_true, false_or, or_false, not_true_eq_false, not_false_eq_true, ite_not, ne_eq, Bool.true_eq_false, Bool.false_eq_true, reduceCtorEq, decide_true, decide_false, Bool.and_true, Bool.and_false, Bool.true_and, Bool.false_and, Bool.or_true, Bool.or_false, Bool.not_true, Bool.not_false, Nat.add_zero, Nat.zero_add, eq_self, Nat.not_lt_zero, Nat.reduceAdd, Nat.reduceMul, Nat.reduceSub, Nat.reduceDiv, Nat.reduceMod, Nat.reduceAnd, Nat.reduceXor, Nat.reduceEqDiff, Nat.reducePow, lt_T, lt_F, le_T, le_F, eq_F, M.2.2.1]
  | succ d ih =>
    intro j fuel hj hf
    obtain ⟨g, rfl⟩ : ∃ g, fuel = g + 1 := ⟨fuel - 1, by omega⟩
    have o := ih (j + 1) g (by omega) (by omega)
    have b1 := bnd j (by omega)
    have b2 := pO_le k 0 j
    have e : pO π 0 j = pP π j := by unfold pO; rw [if_pos (by omega), Nat.zero_add]
    rw [fb_sm_succ] at o
    unfold qX12_sumOf_4
    cases q : m.testBit j
    · rw [q] at o
      have o' : qX12_sumOf_4 g 62 (nI m) (nI (fb_sm (fun i => if m.testBit i then pO π 0 i else 0) j + 0)) (nI (j + 1)) h = some (nI (fb_sm (fun i => if m.testBit i then pO π 0 i else 0) (pp π)), h) := o
      rw [Nat.add_zero] at o'
      simp (disch := omega) only [↓reduceIte, ↓q_m1, ↓q_m2, k_o, k_0, k_1, k_2, k_3, k_4, k_5, k_6, k_7, k_8, k_9, k_10, k_11, k_16, k_17, k_19, k_20, k_24, k_26, k_27, k_30, k_32, k_33, k_35, k_40, k_43, k_48, k_50, k_57, k_60, k_64, k_81, k_86, k_34, k_66, k_322, k_97, k_99, k_100, k_122, k_128, k_160, k_161, k_255, k_256, k_512, k_580, k_600, k_1000, k_4096, k_far, k_o, nI_add, n_mul, n_sub, n_div, n_rem, n_lt, n_le, n_eq, n_cl, n_and, n_or, n_xor, m1_lt, lt_m1, m1_eq, eq_m1, le_m1, m1_le, m2_eq, up_eq, up_ne, n_shl, n_shr, b2_some, let_e, ob_some, bI_0, bI_a, bI_t, bI_f, if_true, if_false, ite_true, ite_false, true_and, and_true, false_and, and_false, true_or, or_true, false_or, or_false, not_true_eq_false, not_false_eq_true, ite_not, ne_eq, Bool.true_eq_false, Bool.false_eq_true, reduceCtorEq, decide_true, decide_false, Bool.and_true, Bool.and_false, Bool.true_and, Bool.false_and, Bool.or_true, Bool.or_false, Bool.not_true, Bool.not_false, Nat.add_zero, Nat.zero_add, eq_self, Nat.not_lt_zero, Nat.reduceAdd, Nat.reduceMul, Nat.reduceSub, Nat.reduceDiv, Nat.reduceMod, Nat.reduceAnd, Nat.reduceXor, Nat.reduceEqDiff, Nat.reducePow, lt_T, lt_F, le_T, le_F, eq_F, M.2.2.1, m_has, q]
      exact o'
    · rw [q] at o
      have o' : qX12_sumOf_4 g 62 (nI m) (nI (fb_sm (fun i => if m.testBit i then pO π 0 i else 0) j + pO π 0 j)) (nI (j + 1)) h = some (nI (fb_sm (fun i => if m.testBit i then pO π 0 i else 0) (pp π)), h) := o
      rw [e] at o' b2
      have w := m_pOf (h := h) hi M.1 (j := 9 + j) (by omega)
      have w2 := M.2.2.2.2.2.2.2 j (by omega)
      rw [w2] at w
      simp (disch := omega) only [↓reduceIte, ↓q_m1, ↓q_m2, k_o, k_0, k_1, k_2, k_3, k_4, k_5, k_6, k_7, k_8, k_9, k_10, k_11, k_16, k_17, k_19, k_20, k_24, k_26, k_27, k_30, k_32, k_33, k_35, k_40, k_43, k_48, k_50, k_57, k_60, k_64, k_81, k_86, k_34, k_66, k_322, k_97, k_99, k_100, k_122, k_128, k_160, k_161, k_255, k_256, k_512, k_580, k_600, k_1000, k_4096, k_far, k_o, nI_add, n_mul, n_sub, n_div, n_rem, n_lt, n_le, n_eq, n_cl, n_and, n_or, n_xor, m1_lt, lt_m1, m1_eq, eq_m1, le_m1, m1_le, m2_eq, up_eq, up_ne, n_shl, n_shr, b2_some, let_e, ob_some, bI_0, bI_a, bI_t, bI_f, if_true, if_false, ite_true, ite_false, true_and, and_true, false_and, and_false, true_or, or_true, false_or, or_false, not_true_eq_false, not_false_eq_true, ite_not, ne_eq, Bool.true_eq_false, Bool.false_eq_true, reduceCtorEq, decide_true, decide_false, Bool.and_true, Bool.and_false, Bool.true_and, Bool.false_and, Bool.or_true, Bool.or_false, Bool.not_true, Bool.not_false, Nat.add_zero, Nat.zero_add, eq_self, Nat.not_lt_zero, Nat.reduceAdd, Nat.reduceMul, Nat.reduceSub, Nat.reduceDiv, Nat.reduceMod, Nat.reduceAnd, Nat.reduceXor, Nat.reduceEqDiff, Nat.reducePow, lt_T, lt_F, le_T, le_F, eq_F, M.2.2.1, m_has, q, w]
      exact o'
theorem m_sum (k : pOK π) (hi : i < 2) (M : pM i π h) {m : Nat} (hm : m < 256) : qX12_sumOf 62 (nI m) h = some (nI (Wt (pO π 0) m), h) := by
  have hp : pp π ≤ 8 := k.2.1
  have o := m_sum_l k hi M hm (pp π) 0 qm_N (by omega) (by unfold qm_N; omega)
  have e : Wt (pO π 0) m = fb_sm (fun i => if m.testBit i then pO π 0 i else 0) (pp π) := by
    have s := fb_sm_split (fun i => if m.testBit i then pO π 0 i else 0) (pp π) (8 - pp π)
    rw [show pp π + (8 - pp π) = 8 by omega] at s
    unfold Wt
    rw [s, fb_sm_cong (g := fun _ => 0) (n := 8 - pp π) (fun j _ => by
      show (if m.testBit (pp π + j) then pO π 0 (pp π + j) else 0) = 0
      unfold pO
      rw [if_neg (show ¬ 0 + (pp π + j) < pp π by omega)]
      split <;> rfl), fb_sm_const]
    omega
  rw [e]
  unfold qX12_sumOf
  exact o
theorem m_rod (hi : i < 2) (M : pM i π h) (k : pOK π) {r : Nat} (hr : r < pn π) : qX12_rod 62 (nI r) h = some (nI (pR π r), h) := by
  have := k.1
  have w := m_pOf (h := h) hi M.1 (j := 3 + r) (by omega)
  rw [M.2.2.2.2.2.2.1 r hr] at w
  unfold qX12_rod
  simp (disch := omega) only [↓reduceIte, ↓q_m1, ↓q_m2, k_o, k_0, k_1, k_2, k_3, k_4, k_5, k_6, k_7, k_8, k_9, k_10, k_11, k_16, k_17, k_19, k_20, k_24, k_26, k_27, k_30, k_32, k_33, k_35, k_40, k_43, k_48, k_50, k_57, k_60, k_64, k_81, k_86, k_34, k_66, k_322, k_97, k_99, k_100, k_122, k_128, k_160, k_161, k_255, k_256, k_512, k_580, k_600, k_1000, k_4096, k_far, k_o, nI_add, n_mul, n_sub, n_div, n_rem, n_lt, n_le, n_eq, n_cl, n_and, n_or, n_xor, m1_lt, lt_m1, m1_eq, eq_m1, le_m1, m1_le, m2_eq, up_eq, up_ne, n_shl, n_shr, b2_some, let_e, ob_some, bI_0, bI_a, bI_t, bI_f, if_true, if_false, ite_true, ite_false, true_and, and_true, false_and, and_false, true_or, or_true, false_or, or_false, not_true_eq_false, not_false_eq_true, ite_not, ne_eq, Bool.true_eq_false, Bool.false_eq_true, reduceCtorEq, decide_true, decide_false, Bool.and_true, Bool.and_false, Bool.true_and, Bool.false_and, Bool.or_true, Bool.or_false, Bool.not_true, Bool.not_false, Nat.add_zero, Nat.zero_add, eq_self, Nat.not_lt_zero, Nat.reduceAdd, Nat.reduceMul, Nat.reduceSub, Nat.reduceDiv, Nat.reduceMod, Nat.reduceAnd, Nat.reduceXor, Nat.reduceEqDiff, Nat.reducePow, lt_T, lt_F, le_T, le_F, eq_F, w]
def pri (π : qQ) (f r : Nat) : Nat := if f = 0 then 1 else pR π r
def kRd (π : qQ) (mu : Nat → Nat) (f r t : Nat) : Nat := if t ||| mu r = 0 then 0 else pri π f r
def rC (π : qQ) (mu : Nat → Nat) (f r t v : Nat) : Prop := Wt (pO π 0) (t ||| mu r) ≤ pR π r ∧ v = kRd π mu f r t
theorem kRd_le (k : pOK π) {mu : Nat → Nat} {f r t : Nat} (hr : r < pn π) : kRd π mu f r t ≤ 60 := by
  have := (k.2.2.2.2.1 r hr).2
  unfold kRd pri
  split
  · omega
  · split <;> omega
def inv5 (π : qQ) (mu D : Nat → Nat) (f r s e : Nat) (A : Nat → Prop) : Prop := e ≤ 1000000 ∧ (∀ u, prt u s → A u → Wt (pO π 0) (u ||| mu r) ≤ pR π r → e ≤ kRd π mu f r u + D (s ^^^ u)) ∧ (e = 1000000 ∨ ∃ u, prt u s ∧ Wt (pO π 0) (u ||| mu r) ≤ pR π r ∧ e = kRd π mu f r u + D (s ^^^ u))
theorem m_58 (k : pOK π) (hi : i < 2) (M : pM i π h) {K5 : Nat → Int32 → Int32 → qm_H → Option qm_H} {K11 : Nat → Int32 → Int32 → Int32 → qm_H → Option qm_H} {mu D : Nat → Nat} {f r s : Nat} (hf1 : f ≤ 1) (hr : r < pn π) (hmu : mu r < 256) (e1 : h.1 83 r = nI (mu r)) (hs : s < 256) (hD : ∀ m, m ≤ s → h.1 84 (256 * (r + 1) + m) = nI (D m) ∧ D m ≤ 1000000) : ∀ t e fuel, t + 1 < fuel → prt t s → inv5 π mu D f r s e (fun u => t < u) → ∃ e', inv5 π mu D f r s e' (fun _ => True) ∧ qX12_findCosts_58 K5 K11 fuel 62 (nI f) (nI r) (nI s) (nI e) (nI t) h = qX12_findCosts_167 K5 K11 62 (nI f) (nI r) (nI s) (nI e') h := by
  have hn := k.1
  intro t
  induction t using Nat.strongRecOn with
  | ind t ih =>
    intro e fuel hf hp I
    obtain ⟨g, rfl⟩ : ∃ g, fuel = g + 1 := ⟨fuel - 1, by omega⟩
    have hts := prt_le hp
    have hor : t ||| mu r < 2 ^ 8 := Nat.or_lt_two_pow (by omega) (by omega)
    have sm := m_sum k hi M (m := t ||| mu r) (by omega)
    have rd := m_rod hi M k hr
    have wl := Wt_le (pO_le k 0) (t ||| mu r)
    have rl := (k.2.2.2.2.1 r hr).2
    have nd := n_diff hs hp
    have hx : s ^^^ t ≤ s := prt_le (spl_prt (prt_x hp).symm)
    have dx := hD (s ^^^ t) hx
    have kl := kRd_le k (mu := mu) (f := f) (t := t) hr
    have ie := I.1
    -- the value after t
    obtain ⟨e2, I2, step⟩ : ∃ e2, inv5 π mu D f r s e2 (fun u => t ≤ u) ∧ qX12_findCosts_58 K5 K11 (g + 1) 62 (nI f) (nI r) (nI s) (nI e) (nI t) h = if t = 0 then qX12_findCosts_58 K5 K11 g 62 (nI f) (nI r) (nI s) (nI e2) m1 h else qX12_findCosts_58 K5 K11 g 62 (nI f) (nI r) (nI s) (nI e2) (nI ((t - 1) &&& s)) h := by
      by_cases q : pR π r < Wt (pO π 0) (t ||| mu r)
      · refine ⟨e, ⟨I.1, fun u hu h1 h2 => ?_, I.2.2⟩, ?_⟩
        · by_cases y : t = u
          · subst y; omega
          · exact I.2.1 u hu (by omega) h2
        · have mi : min e (1000000 + D (s ^^^ t)) = e := by omega
          have dl := dx.2
          conv => lhs; unfold qX12_findCosts_58 qX12_findCosts_116
          by_cases t0 : t = 0
          · rw [if_pos t0]
            simp (disch := omega) only [↓reduceIte, ↓q_m1, ↓q_m2, k_o, k_0, k_1, k_2, k_3, k_4, k_5, k_6, k_7, k_8, k_9, k_10, k_11, k_16, k_17, k_19, k_20, k_24, k_26, k_27, k_30, k_32, k_33, k_35, k_40, k_43, k_48, k_50, k_57, k_60, k_64, k_81, k_86, k_34, k_66, k_322, k_97, k_99, k_100, k_122, k_128, k_160, k_161, k_255, k_256, k_512, k_580, k_600, k_1000, k_4096, k_far, k_o, nI_add, n_mul, n_sub, n_div, n_rem, n_lt, n_le, n_eq, n_cl, n_and, n_or, n_xor, m1_lt, lt_m1, m1_eq, eq_m1, le_m1, m1_le, m2_eq, up_eq, up_ne, n_shl, n_shr, b2_some, let_e, ob_some, bI_0, bI_a, bI_t, bI_f, if_true, if_false, ite_true, ite_false, true_and, and_true, false_and, and_false, true_or, or_true, false_or, or_false, not_true_eq_false, not_false_eq_true, ite_not, ne_eq, Bool.true_eq_false, Bool.false_eq_true, reduceCtorEq, decide_true, decide_false, Bool.and_true, Bool.and_false, Bool.true_and, Bool.false_and, Bool.or_true, Bool.or_false, Bool.not_true, Bool.not_false, Nat.add_zero, Nat.zero_add, eq_self, Nat.not_lt_zero, Nat.reduceAdd, Nat.reduceMul, Nat.reduceSub, Nat.reduceDiv, Nat.reduceMod, Nat.reduceAnd, Nat.reduceXor, Nat.reduceEqDiff, Nat.reducePow, lt_T, lt_F, le_T, le_F, eq_F, e1, n_or, sm, rd, nd, dx.1, m_ls, mi, eq_true t0]
          · rw [if_neg t0]
            simp (disch := omega) only [↓reduceIte, ↓q_m1, ↓q_m2, k_o, k_0, k_1, k_2, k_3, k_4, k_5, k_6, k_7, k_8, k_9, k_10, k_11, k_16, k_17, k_19, k_20, k_24, k_26, k_27, k_30, k_32, k_33, k_35, k_40, k_43, k_48, k_50, k_57, k_60, k_64, k_81, k_86, k_34, k_66, k_322, k_97, k_99, k_100, k_122, k_128, k_160, k_161, k_255, k_256, k_512, k_580, k_600, k_1000, k_4096, k_far, k_o, nI_add, n_mul, n_sub, n_div, n_rem, n_lt, n_le, n_eq, n_cl, n_and, n_or, n_xor, m1_lt, lt_m1, m1_eq, eq_m1, le_m1, m1_le, m2_eq, up_eq, up_ne, n_shl, n_shr, b2_some, let_e, ob_some, bI_0, bI_a, bI_t, bI_f, if_true, if_false, ite_true, ite_false, true_and, and_true, false_and, and_false, true_or, or_true, false_or, or_false, not_true_eq_false, not_false_eq_true, ite_not, ne_eq, Bool.true_eq_false, Bool.false_eq_true, reduceCtorEq, decide_true, decide_false, Bool.and_true, Bool.and_false, Bool.true_and, Bool.false_and, Bool.or_true, Bool.or_false, Bool.not_true, Bool.not_false, Nat.add_zero, Nat.zero_add, eq_self, Nat.not_lt_zero, Nat.reduceAdd, Nat.reduceMul, Nat.reduceSub, Nat.reduceDiv, Nat.reduceMod, Nat.reduceAnd, Nat.reduceXor, Nat.reduceEqDiff, Nat.reducePow, lt_T, lt_F, le_T, le_F, eq_F, e1, n_or, sm, rd, nd, dx.1, m_ls, mi, n_and, eq_false t0]
      · refine ⟨min e (kRd π mu f r t + D (s ^^^ t)), ⟨Nat.le_trans (Nat.min_le_left _ _) I.1, fun u hu h1 h2 => ?_, ?_⟩, ?_⟩
        · by_cases y : t = u
          · subst y
            exact Nat.min_le_right _ _
          · exact Nat.le_trans (Nat.min_le_left _ _) (I.2.1 u hu (by omega) h2)
        · rcases Nat.le_total e (kRd π mu f r t + D (s ^^^ t)) with y | y
          · rw [Nat.min_eq_left y]
            exact I.2.2
          · rw [Nat.min_eq_right y]
            exact Or.inr ⟨t, hp, by omega, rfl⟩
        · have dl := dx.2
          conv => lhs; unfold qX12_findCosts_58 qX12_findCosts_116
          by_cases z : t ||| mu r = 0
          · have kv : kRd π mu f r t = 0 := by unfold kRd; rw [if_pos z]
            rw [kv]
            by_cases t0 : t = 0
            · rw [if_pos t0]
              simp (disch := omega) only [↓reduceIte, ↓q_m1, ↓q_m2, k_o, k_0, k_1, k_2, k_3, k_4, k_5, k_6, k_7, k_8, k_9, k_10, k_11, k_16, k_17, k_19, k_20, k_24, k_26, k_27, k_30, k_32, k_33, k_35, k_40, k_43, k_48, k_50, k_57, k_60, k_64, k_81, k_86, k_34, k_66, k_322, k_97, k_99, k_100, k_122, k_128, k_160, k_161, k_255, k_256, k_512, k_580, k_600, k_1000, k_4096, k_far, k_o, nI_add, n_mul, n_sub, n_div, n_rem, n_lt, n_le, n_eq, n_cl, n_and, n_or, n_xor, m1_lt, lt_m1, m1_eq, eq_m1, le_m1, m1_le, m2_eq, up_eq, up_ne, n_shl, n_shr, b2_some, let_e, ob_some, bI_0, bI_a, bI_t, bI_f, if_true, if_false, ite_true, ite_false, true_and, and_true, false_and, and_false, true_or, or_true, false_or, or_false, not_true_eq_false, not_false_eq_true, ite_not, ne_eq, Bool.true_eq_false, Bool.false_eq_true, reduceCtorEq, decide_true, decide_false, Bool.and_true, Bool.and_false, Bool.true_and, Bool.false_and, Bool.or_true, Bool.or_false, Bool.not_true, Bool.not_false, Nat.add_zero, Nat.zero_add, eq_self, Nat.not_lt_zero, Nat.reduceAdd, Nat.reduceMul, Nat.reduceSub, Nat.reduceDiv, Nat.reduceMod, Nat.reduceAnd, Nat.reduceXor, Nat.reduceEqDiff, Nat.reducePow, lt_T, lt_F, le_T, le_F, eq_F, e1, n_or, sm, rd, nd, dx.1, m_ls, eq_true t0, eq_true z, Nat.zero_add]
            · rw [if_neg t0]
              simp (disch := omega) only [↓reduceIte, ↓q_m1, ↓q_m2, k_o, k_0, k_1, k_2, k_3, k_4, k_5, k_6, k_7, k_8, k_9, k_10, k_11, k_16, k_17, k_19, k_20, k_24, k_26, k_27, k_30, k_32, k_33, k_35, k_40, k_43, k_48, k_50, k_57, k_60, k_64, k_81, k_86, k_34, k_66, k_322, k_97, k_99, k_100, k_122, k_128, k_160, k_161, k_255, k_256, k_512, k_580, k_600, k_1000, k_4096, k_far, k_o, nI_add, n_mul, n_sub, n_div, n_rem, n_lt, n_le, n_eq, n_cl, n_and, n_or, n_xor, m1_lt, lt_m1, m1_eq, eq_m1, le_m1, m1_le, m2_eq, up_eq, up_ne, n_shl, n_shr, b2_some, let_e, ob_some, bI_0, bI_a, bI_t, bI_f, if_true, if_false, ite_true, ite_false, true_and, and_true, false_and, and_false, true_or, or_true, false_or, or_false, not_true_eq_false, not_false_eq_true, ite_not, ne_eq, Bool.true_eq_false, Bool.false_eq_true, reduceCtorEq, decide_true, decide_false, Bool.and_true, Bool.and_false, Bool.true_and, Bool.false_and, Bool.or_true, Bool.or_false, Bool.not_true, Bool.not_false, Nat.add_zero, Nat.zero_add, eq_self, Nat.not_lt_zero, Nat.reduceAdd, Nat.reduceMul, Nat.reduceSub, Nat.reduceDiv, Nat.reduceMod, Nat.reduceAnd, Nat.reduceXor, Nat.reduceEqDiff, Nat.reducePow, lt_T, lt_F, le_T, le_F, eq_F, e1, n_or, sm, rd, nd, dx.1, m_ls, n_and, eq_false t0, eq_true z, Nat.zero_add]
          · by_cases f0 : f = 0
            · have kv : kRd π mu f r t = 1 := by unfold kRd pri; rw [if_neg z, if_pos f0]
              rw [kv]
              by_cases t0 : t = 0
              · rw [if_pos t0]
                simp (disch := omega) only [↓reduceIte, ↓q_m1, ↓q_m2, k_o, k_0, k_1, k_2, k_3, k_4, k_5, k_6, k_7, k_8, k_9, k_10, k_11, k_16, k_17, k_19, k_20, k_24, k_26, k_27, k_30, k_32, k_33, k_35, k_40, k_43, k_48, k_50, k_57, k_60, k_64, k_81, k_86, k_34, k_66, k_322, k_97, k_99, k_100, k_122, k_128, k_160, k_161, k_255, k_256, k_512, k_580, k_600, k_1000, k_4096, k_far, k_o, nI_add, n_mul, n_sub, n_div, n_rem, n_lt, n_le, n_eq, n_cl, n_and, n_or, n_xor, m1_lt, lt_m1, m1_eq, eq_m1, le_m1, m1_le, m2_eq, up_eq, up_ne, n_shl, n_shr, b2_some, let_e, ob_some, bI_0, bI_a, bI_t, bI_f, if_true, if_false, ite_true, ite_false, true_and, and_true, false_and, and_false, true_or, or_true, false_or, or_false, not_true_eq_false, not_false_eq_true, ite_not, ne_eq, Bool.true_eq_false, Bool.false_eq_true, reduceCtorEq, decide_true, decide_false, Bool.and_true, Bool.and_false, Bool.true_and, Bool.false_and, Bool.or_true, Bool.or_false, Bool.not_true, Bool.not_false, Nat.add_zero, Nat.zero_add, eq_self, Nat.not_lt_zero, Nat.reduceAdd, Nat.reduceMul, Nat.reduceSub, Nat.reduceDiv, Nat.reduceMod, Nat.reduceAnd, Nat.reduceXor, Nat.reduceEqDiff, Nat.reducePow, lt_T, lt_F, le_T, le_F, eq_F, e1, n_or, sm, rd, nd, dx.1, m_ls, eq_true t0, eq_false z, eq_true f0]
              · rw [if_neg t0]
                simp (disch := omega) only [↓reduceIte, ↓q_m1, ↓q_m2, k_o, k_0, k_1, k_2, k_3, k_4, k_5, k_6, k_7, k_8, k_9, k_10, k_11, k_16, k_17, k_19, k_20, k_24, k_26, k_27, k_30, k_32, k_33, k_35, k_40, k_43, k_48, k_50, k_57, k_60, k_64, k_81, k_86, k_34, k_66, k_322, k_97, k_99, k_100, k_122, k_128, k_160, k_161, k_255, k_256, k_512, k_580, k_600, k_1000, k_4096, k_far, k_o, nI_add, n_mul, n_sub, n_div, n_rem, n_lt, n_le, n_eq, n_cl, n_and, n_or, n_xor, m1_lt, lt_m1, m1_eq, eq_m1, le_m1, m1_le, m2_eq, up_eq, up_ne, n_shl, n_shr, b2_some, let_e, ob_some, bI_0, bI_a, bI_t, bI_f, if_true, if_false, ite_true, ite_false, true_and, and_true, false_and, and_false, true_or, or_true, false_or, or_false, not_true_eq_false, not_false_eq_true, ite_not, ne_eq, Bool.true_eq_false, Bool.false_eq_true, reduceCtorEq, decide_true, decide_false, Bool.and_true, Bool.and_false, Bool.true_and, Bool.false_and, Bool.or_true, Bool.or_false, Bool.not_true, Bool.not_false, Nat.add_zero, Nat.zero_add, eq_self, Nat.not_lt_zero, Nat.reduceAdd, Nat.reduceMul, Nat.reduceSub, Nat.reduceDiv, Nat.reduceMod, Nat.reduceAnd, Nat.reduceXor, Nat.reduceEqDiff, Nat.reducePow, lt_T, lt_F, le_T, le_F, eq_F, e1, n_or, sm, rd, nd, dx.1, m_ls, n_and, eq_false t0, eq_false z, eq_true f0]
            · have kv : kRd π mu f r t = pR π r := by unfold kRd pri; rw [if_neg z, if_neg f0]
              rw [kv]
              by_cases t0 : t = 0
              · rw [if_pos t0]
                simp (disch := omega) only [↓reduceIte, ↓q_m1, ↓q_m2, k_o, k_0, k_1, k_2, k_3, k_4, k_5, k_6, k_7, k_8, k_9, k_10, k_11, k_16, k_17, k_19, k_20, k_24, k_26, k_27, k_30, k_32, k_33, k_35, k_40, k_43, k_48, k_50, k_57, k_60, k_64, k_81, k_86, k_34, k_66, k_322, k_97, k_99, k_100, k_122, k_128, k_160, k_161, k_255, k_256, k_512, k_580, k_600, k_1000, k_4096, k_far, k_o, nI_add, n_mul, n_sub, n_div, n_rem, n_lt, n_le, n_eq, n_cl, n_and, n_or, n_xor, m1_lt, lt_m1, m1_eq, eq_m1, le_m1, m1_le, m2_eq, up_eq, up_ne, n_shl, n_shr, b2_some, let_e, ob_some, bI_0, bI_a, bI_t, bI_f, if_true, if_false, ite_true, ite_false, true_and, and_true, false_and, and_false, true_or, or_true, false_or, or_false, not_true_eq_false, not_false_eq_true, ite_not, ne_eq, Bool.true_eq_false, Bool.false_eq_true, reduceCtorEq, decide_true, decide_false, Bool.and_true, Bool.and_false, Bool.true_and, Bool.false_and, Bool.or_true, Bool.or_false, Bool.not_true, Bool.not_false, Nat.add_zero, Nat.zero_add, eq_self, Nat.not_lt_zero, Nat.reduceAdd, Nat.reduceMul, Nat.reduceSub, Nat.reduceDiv, Nat.reduceMod, Nat.reduceAnd, Nat.reduceXor, Nat.reduceEqDiff, Nat.reducePow, lt_T, lt_F, le_T, le_F, eq_F, e1, n_or, sm, rd, nd, dx.1, m_ls, eq_true t0, eq_false z, eq_false f0]
              · rw [if_neg t0]
                simp (disch := omega) only [↓reduceIte, ↓q_m1, ↓q_m2, k_o, k_0, k_1, k_2, k_3, k_4, k_5, k_6, k_7, k_8, k_9, k_10, k_11, k_16, k_17, k_19, k_20, k_24, k_26, k_27, k_30, k_32, k_33, k_35, k_40, k_43, k_48, k_50, k_57, k_60, k_64, k_81, k_86, k_34, k_66, k_322, k_97, k_99, k_100, k_122, k_128, k_160, k_161, k_255, k_256, k_512, k_580, k_600, k_1000, k_4096, k_far, k_o, nI_add, n_mul, n_sub, n_div, n_rem, n_lt, n_le, n_eq, n_cl, n_and, n_or, n_xor, m1_lt, lt_m1, m1_eq, eq_m1, le_m1, m1_le, m2_eq, up_eq, up_ne, n_shl, n_shr, b2_some, let_e, ob_some, bI_0, bI_a, bI_t, bI_f, if_true, if_false, ite_true, ite_false, true_and, and_true, false_and, and_false, true_or, or_true, false_or, or_false, not_true_eq_false, not_false_eq_true, ite_not, ne_eq, Bool.true_eq_false, Bool.false_eq_true, reduceCtorEq, decide_true, decide_false, Bool.and_true, Bool.and_false, Bool.true_and, Bool.false_and, Bool.or_true, Bool.or_false, Bool.not_true, Bool.not_false, Nat.add_zero, Nat.zero_add, eq_self, Nat.not_lt_zero, Nat.reduceAdd, Nat.reduceMul, Nat.reduceSub, Nat.reduceDiv, Nat.reduceMod, Nat.reduceAnd, Nat.reduceXor, Nat.reduceEqDiff, Nat.reducePow, lt_T, lt_F, le_T, le_F, eq_F, e1, n_or, sm, rd, nd, dx.1, m_ls, n_and, eq_false t0, eq_false z, eq_false f0]
    by_cases t0 : t = 0
    · subst t0
      refine ⟨e2, ⟨I2.1, fun u hu _ h2 => I2.2.1 u hu (Nat.zero_le u) h2, I2.2.2⟩, ?_⟩
      rw [step, if_pos rfl]
      obtain ⟨g2, rfl⟩ : ∃ g2, g = g2 + 1 := ⟨g - 1, by omega⟩
      unfold qX12_findCosts_58
      simp (disch := omega) only [↓reduceIte, ↓q_m1, ↓q_m2, k_o, k_0, k_1, k_2, k_3, k_4, k_5, k_6, k_7, k_8, k_9, k_10, k_11, k_16, k_17, k_19, k_20, k_24, k_26, k_27, k_30, k_32, k_33, k_35, k_40, k_43, k_48, k_50, k_57, k_60, k_64, k_81, k_86, k_34, k_66, k_322, k_97, k_99, k_100, k_122, k_128, k_160, k_161, k_255, k_256, k_512, k_580, k_600, k_1000, k_4096, k_far, k_o, nI_add, n_mul, n_sub, n_div, n_rem, n_lt, n_le, n_eq, n_cl, n_and, n_or, n_xor, m1_lt, lt_m1, m1_eq, eq_m1, le_m1, m1_le, m2_eq, up_eq, up_ne, n_shl, n_shr, b2_some, let_e, ob_some, bI_0, bI_a, bI_t, bI_f, if_true, if_false, ite_true, ite_false, true_and, and_true, false_and, and_false, true_or, or_true, false_or, or_false, not_true_eq_false, not_false_eq_true, ite_not, ne_eq, Bool.true_eq_false, Bool.false_eq_true, reduceCtorEq, decide_true, decide_false, Bool.and_true, Bool.and_false, Bool.true_and, Bool.false_and, Bool.or_true, Bool.or_false, Bool.not_true, Bool.not_false, Nat.add_zero, Nat.zero_add, eq_self, Nat.not_lt_zero, Nat.reduceAdd, Nat.reduceMul, Nat.reduceSub, Nat.reduceDiv, Nat.reduceMod, Nat.reduceAnd, Nat.reduceXor, Nat.reduceEqDiff, Nat.reducePow, lt_T, lt_F, le_T, le_F, eq_F]
    · have hxl : (t - 1) &&& s < t := Nat.lt_of_le_of_lt Nat.and_le_left (by omega)
      obtain ⟨e', p1, p2⟩ := ih _ hxl e2 g (by omega) prt_and ⟨I2.1, fun u hu h1 h2 => I2.2.1 u hu (by
        apply Classical.byContradiction
        intro y
        have := sub_next s t u hp hu (by omega)
        omega) h2, I2.2.2⟩
      exact ⟨e', p1, by rw [step, if_neg t0]; exact p2⟩
end MCO
