/-! holes: the class's fill, bit by bit; the pair. -/
/-- the long of a set of STROKES -/
def rep (W H : Nat) (x : Int64) (P : Nat → Bool) : Prop := ∀ k, k < 64 → lb x k = (decide (k / 8 < H ∧ k % 8 < W) && P (W * (k / 8) + k % 8))
theorem rep_bit {W H : Nat} {x : Int64} {P : Nat → Bool} (hW : W ≤ 8) (hH : H ≤ 8) (R : rep W H x P) {r q : Nat} (hr : r < H) (hq : q < W) : lb x (8 * r + q) = P (W * r + q) := by
  rw [R _ (by omega), show (8 * r + q) / 8 = r by omega, show (8 * r + q) % 8 = q by omega, decide_eq_true ⟨hr, hq⟩, Bool.true_and]
theorem rep_out {W H : Nat} {x : Int64} {P : Nat → Bool} (R : rep W H x P) {k : Nat} (h : ¬ (k / 8 < H ∧ k % 8 < W)) : lb x k = false := by
  by_cases hk : k < 64
  · rw [R k hk, decide_eq_false h, Bool.false_and]
  · exact lb_big (by omega)
theorem rep_eq {W H : Nat} {x y : Int64} {P Q : Nat → Bool} (R : rep W H x P) (S : rep W H y Q) (e : ∀ r q, r < H → q < W → P (W * r + q) = Q (W * r + q)) : x = y := by
  apply lb_ext
  intro k hk
  rw [R k hk, S k hk]
  by_cases z : k / 8 < H ∧ k % 8 < W
  · rw [decide_eq_true z, e _ _ z.1 z.2]
  · rw [decide_eq_false z, Bool.false_and, Bool.false_and]
theorem cell_lt {W H r q : Nat} (hr : r < H) (hq : q < W) : W * r + q < W * H := by
  have : W * (r + 1) ≤ W * H := Nat.mul_le_mul_left _ hr
  rw [Nat.mul_succ] at this
  omega
theorem rep_ct {W H : Nat} {x : Int64} {P : Nat → Bool} (hW0 : 0 < W) (hW : W ≤ 8) (hH : H ≤ 8) (R : rep W H x P) : fb_ct (lb x) 64 = fb_ct P (W * H) := by
  rw [ct_blk (P := fun r q => P (W * r + q)) (r := 0) (c := 0) (w := W) (hh := H) (by omega) (by omega) (fun k hk => ?_)]
  · rw [ct_sm]
    unfold rs
    have e := sm_rect (fun r q => if P (W * r + q) = true then 1 else 0) hW0 H
    have e2 : fb_sm (fun k => if P k = true then 1 else 0) (W * H) = fb_sm (fun k => if P (W * (k / W) + k % W) = true then 1 else 0) (W * H) := fb_sm_cong (fun k _ => by rw [Nat.div_add_mod])
    rw [e2, e]
    apply fb_sm_cong
    intro i hi
    apply fb_sm_cong
    intro j hj
    rw [Nat.zero_add, Nat.zero_add]
  · rw [R k hk]
    congr 1
    exact decide_eq_decide.mpr ⟨fun z => by omega, fun z => by omega⟩
theorem k_first : ∀ k, k < 64 → lb (-72340172838076674) k = decide (k % 8 ≠ 0) := by decide +kernel
theorem k_last : ∀ k, k < 64 → lb 9187201950435737471 k = decide (k % 8 ≠ 7) := by decide +kernel
/-- a set and its neighbours -/
def nxP (W N : Nat) (op P : Nat → Bool) (c : Nat) : Bool := op c && (P c || (decide (c % W ≠ 0) && P (c - 1)) || (decide (c % W + 1 < W) && P (c + 1)) || (decide (W ≤ c) && P (c - W)) || (decide (c + W < N) && P (c + W)))
theorem nxP_iff {W H : Nat} {op P : Nat → Bool} {c : Nat} (hW : 2 ≤ W) (hW8 : W ≤ 8) (hH8 : H ≤ 8) (hc : c < W * H) : nxP W (W * H) op P c = true ↔ op c = true ∧ (P c = true ∨ ∃ d, nb W (W * H) d c ∧ P d = true) := by
  have hn : W * H ≤ 8 * 8 := Nat.mul_le_mul hW8 hH8
  obtain ⟨_, _, g3, g4, _, _⟩ := grd W (by omega) hW H (by omega) c (by omega) hc
  unfold nxP
  simp only [Bool.and_eq_true, Bool.or_eq_true, decide_eq_true_eq]
  constructor
  · intro ⟨h1, h2⟩
    refine ⟨h1, ?_⟩
    rcases h2 with (((h2 | ⟨h2, h3⟩) | ⟨h2, h3⟩) | ⟨h2, h3⟩) | ⟨h2, h3⟩
    · exact Or.inl h2
    · have : c ≠ 0 := fun y => by rw [y, Nat.zero_mod] at h2; exact h2 rfl
      exact Or.inr ⟨c - 1, ⟨by omega, hc, Or.inr (Or.inr (Or.inl ⟨by omega, h2⟩))⟩, h3⟩
    · exact Or.inr ⟨c + 1, ⟨g4 h2, hc, Or.inr (Or.inr (Or.inr ⟨rfl, g3.mp h2⟩))⟩, h3⟩
    · exact Or.inr ⟨c - W, ⟨by omega, hc, Or.inl (by omega)⟩, h3⟩
    · exact Or.inr ⟨c + W, ⟨h2, hc, Or.inr (Or.inl rfl)⟩, h3⟩
  · intro ⟨h1, h2⟩
    refine ⟨h1, ?_⟩
    rcases h2 with h2 | ⟨d, ⟨d1, d2, d3⟩, h3⟩
    · exact Or.inl (Or.inl (Or.inl (Or.inl h2)))
    · rcases d3 with d3 | d3 | ⟨d3, d4⟩ | ⟨d3, d4⟩
      · refine Or.inl (Or.inr ⟨by omega, ?_⟩)
        rw [show c - W = d by omega]
        exact h3
      · refine Or.inr ⟨by omega, ?_⟩
        rw [show c + W = d by omega]
        exact h3
      · refine Or.inl (Or.inl (Or.inl (Or.inr ⟨d4, ?_⟩)))
        rw [show c - 1 = d by omega]
        exact h3
      · rw [d3] at d4
        refine Or.inl (Or.inl (Or.inr ⟨g3.mpr d4, ?_⟩))
        rw [show c + 1 = d by omega]
        exact h3
theorem rep_next {W H : Nat} {x O : Int64} {op P : Nat → Bool} (hW : 2 ≤ W) (hW8 : W ≤ 8) (hH8 : H ≤ 8) (R : rep W H x P) (RO : rep W H O op) : rep W H ((((x ||| ((qm_lshl x (nI 1) &&& (-72340172838076674)) ||| (qm_lushr x (nI 1) &&& 9187201950435737471))) ||| qm_lshl x (nI 8)) ||| qm_lushr x (nI 8)) &&& O) (nxP W (W * H) op P) := by
  intro k hk
  rw [lb_and, RO k hk]
  by_cases z : k / 8 < H ∧ k % 8 < W
  · rw [decide_eq_true z, Bool.true_and, Bool.true_and]
    unfold nxP
    rw [Bool.and_comm]
    congr 1
    obtain ⟨zr, zq⟩ := z
    have hdm : 8 * (k / 8) + k % 8 = k := by omega
    obtain ⟨w1, w2⟩ := wc_dm (W := W) (r := k / 8) (c := k % 8) zq
    rw [lb_or, lb_or, lb_or, lb_or, lb_and, lb_and, lb_shl _ (by omega) hk, lb_ushr _ (by omega), lb_shl _ (by omega) hk, lb_ushr _ (by omega), k_first k hk, k_last k hk, w2]
    have e0 : lb x k = P (W * (k / 8) + k % 8) := by
      have := rep_bit hW8 hH8 R zr zq
      rw [hdm] at this
      exact this
    have e1 : (decide (1 ≤ k) && lb x (k - 1) && decide (k % 8 ≠ 0)) = (decide (k % 8 ≠ 0) && P (W * (k / 8) + k % 8 - 1)) := by
      by_cases y : k % 8 = 0
      · rw [decide_eq_false (p := k % 8 ≠ 0) (fun t => t y), Bool.and_false, Bool.false_and]
      · have := rep_bit hW8 hH8 R (r := k / 8) (q := k % 8 - 1) zr (by omega)
        rw [show 8 * (k / 8) + (k % 8 - 1) = k - 1 by omega] at this
        rw [decide_eq_true y, decide_eq_true (show 1 ≤ k by omega), this, Bool.true_and, Bool.true_and, Bool.and_true, show W * (k / 8) + (k % 8 - 1) = W * (k / 8) + k % 8 - 1 by omega]
    have e2 : (lb x (1 + k) && decide (k % 8 ≠ 7)) = (decide (k % 8 + 1 < W) && P (W * (k / 8) + k % 8 + 1)) := by
      by_cases y : k % 8 + 1 < W
      · have := rep_bit hW8 hH8 R (r := k / 8) (q := k % 8 + 1) zr y
        rw [show 8 * (k / 8) + (k % 8 + 1) = 1 + k by omega] at this
        rw [decide_eq_true y, decide_eq_true (show k % 8 ≠ 7 by omega), this, Bool.true_and, Bool.and_true, Nat.add_assoc]
      · rw [decide_eq_false y, Bool.false_and]
        by_cases y2 : k % 8 = 7
        · rw [decide_eq_false (p := k % 8 ≠ 7) (fun t => t y2), Bool.and_false]
        · rw [rep_out R (show ¬ ((1 + k) / 8 < H ∧ (1 + k) % 8 < W) by omega), Bool.false_and]
    have hWk : W ≤ W * (k / 8) + k % 8 ↔ 8 ≤ k := by
      constructor
      · intro t
        by_cases y : 8 ≤ k
        · exact y
        · have : k / 8 = 0 := by omega
          rw [this, Nat.mul_zero] at t
          omega
      · intro t
        have : W * 1 ≤ W * (k / 8) := Nat.mul_le_mul_left _ (by omega)
        omega
    have e3 : (decide (8 ≤ k) && lb x (k - 8)) = (decide (W ≤ W * (k / 8) + k % 8) && P (W * (k / 8) + k % 8 - W)) := by
      rw [decide_eq_decide.mpr hWk]
      by_cases y : 8 ≤ k
      · have := rep_bit hW8 hH8 R (r := k / 8 - 1) (q := k % 8) (by omega) zq
        rw [show 8 * (k / 8 - 1) + k % 8 = k - 8 by omega] at this
        rw [decide_eq_true y, this, Bool.true_and, Bool.true_and]
        congr 1
        obtain ⟨t, ht⟩ : ∃ t, k / 8 = t + 1 := ⟨k / 8 - 1, by omega⟩
        rw [ht, Nat.add_sub_cancel, Nat.mul_succ]
        omega
      · rw [decide_eq_false y, Bool.false_and, Bool.false_and]
    have hWn : W * (k / 8) + k % 8 + W < W * H ↔ k / 8 + 1 < H := by
      constructor
      · intro t
        by_cases y : k / 8 + 1 < H
        · exact y
        · have : W * H ≤ W * (k / 8 + 1) := Nat.mul_le_mul_left _ (by omega)
          rw [Nat.mul_succ] at this
          omega
      · intro t
        have := cell_lt (W := W) (H := H) (r := k / 8 + 1) (q := k % 8) t zq
        rw [Nat.mul_succ] at this
        omega
    have e4 : lb x (8 + k) = (decide (W * (k / 8) + k % 8 + W < W * H) && P (W * (k / 8) + k % 8 + W)) := by
      rw [decide_eq_decide.mpr hWn]
      by_cases y : k / 8 + 1 < H
      · have := rep_bit hW8 hH8 R (r := k / 8 + 1) (q := k % 8) y zq
        rw [show 8 * (k / 8 + 1) + k % 8 = 8 + k by omega] at this
        rw [decide_eq_true y, this, Bool.true_and]
        congr 1
        rw [Nat.mul_succ]
        omega
      · rw [decide_eq_false y, Bool.false_and]
        exact rep_out R (by omega)
    rw [e0, e1, e2, e3, e4]
    simp only [Bool.or_assoc]
  · rw [decide_eq_false z, Bool.false_and, Bool.false_and, Bool.and_false]
section HC
variable {β : qB} {b : Nat} {h : qm_H}
theorem rep_open (k : bOK β) (C : bC b β h) : rep (bw β) (bh β) (h.2 b 6) (opC β) := by
  intro q hq
  have := C.2.2.2.2 (q / 8) (q % 8) (by omega) (by omega)
  rw [show 8 * (q / 8) + q % 8 = q by omega] at this
  rw [this]
  by_cases z : q / 8 < bh β ∧ q % 8 < bw β
  · rw [decide_eq_true z, Bool.true_and]
    unfold opC
    obtain ⟨w1, w2⟩ := wc_dm (W := bw β) (r := q / 8) (c := q % 8) z.2
    rw [w1, w2]
  · rw [decide_eq_false z, Bool.false_and]
    cases y : bO β (q / 8) (q % 8)
    · rfl
    · exact absurd (k.2.2.2.2.2.2 _ _ y) z
theorem c_joined (k : bOK β) (C : bC b β h) {X : Nat → Nat} (HX : FH (bw β) (bw β * bh β) (opC β) X) {m : Nat} (hm : m < bw β * bh β) (om : opC β m = true) (xm : X m = m) : ∀ d i x P fuel, i + d = 64 → d < fuel → rep (bw β) (bh β) x P → P m = true → (∀ c, c < bw β * bh β → P c = true → opC β c = true ∧ X c = m) → i + 1 ≤ fb_ct P (bw β * bh β) → ∃ y, qX0_joinedTo_5 fuel b x (nI i) h = some (y, h) ∧ rep (bw β) (bh β) y (fun c => opC β c && decide (X c = m)) := by
  have hW := k.W
  have hH := k.H
  have hn := k.n
  intro d
  induction d with
  | zero =>
    intro i x P fuel hi hf R pm J cnt
    have := fb_ct_le P (bw β * bh β)
    omega
  | succ d ih =>
    intro i x P fuel hi hf R pm J cnt
    obtain ⟨g, rfl⟩ : ∃ g, fuel = g + 1 := ⟨fuel - 1, by omega⟩
    have RO := rep_open k C
    have RN := rep_next hW.1 hW.2 hH.2 R RO
    have sub : ∀ c, c < bw β * bh β → P c = true → nxP (bw β) (bw β * bh β) (opC β) P c = true := fun c hc pc => (nxP_iff hW.1 hW.2 hH.2 hc).mpr ⟨(J c hc pc).1, Or.inl pc⟩
    have J2 : ∀ c, c < bw β * bh β → nxP (bw β) (bw β * bh β) (opC β) P c = true → opC β c = true ∧ X c = m := fun c hc pc => by
      obtain ⟨h1, h2⟩ := (nxP_iff hW.1 hW.2 hH.2 hc).mp pc
      refine ⟨h1, ?_⟩
      rcases h2 with h2 | ⟨p, hp, h2⟩
      · exact (J c hc h2).2
      · obtain ⟨j1, j2⟩ := J p hp.1 h2
        rw [HX.2 p c hp j1 h1]
        exact j2
    by_cases fixp : ∀ c, c < bw β * bh β → nxP (bw β) (bw β * bh β) (opC β) P c = P c
    · have ex : (((x ||| ((qm_lshl x (nI 1) &&& (-72340172838076674)) ||| (qm_lushr x (nI 1) &&& 9187201950435737471))) ||| qm_lshl x (nI 8)) ||| qm_lushr x (nI 8)) &&& h.2 b 6 = x := rep_eq RN R (fun r q hr hq => fixp _ (cell_lt hr hq))
      refine ⟨x, ?_, fun q hq => ?_⟩
      · unfold qX0_joinedTo_5
        simp (disch := omega) only [↓reduceIte, ↓q_m1, ↓q_m2, k_o, k_0, k_1, k_2, k_3, k_4, k_5, k_6, k_7, k_8, k_9, k_10, k_11, k_16, k_17, k_19, k_20, k_24, k_26, k_27, k_30, k_32, k_33, k_35, k_40, k_43, k_48, k_50, k_57, k_60, k_64, k_81, k_86, k_34, k_66, k_322, k_97, k_99, k_100, k_122, k_128, k_160, k_161, k_255, k_256, k_512, k_580, k_600, k_1000, k_4096, k_far, k_o, nI_add, n_mul, n_sub, n_div, n_rem, n_lt, n_le, n_eq, n_cl, n_and, n_or, n_xor, m1_lt, lt_m1, m1_eq, eq_m1, le_m1, m1_le, m2_eq, up_eq, up_ne, n_shl, n_shr, b2_some, let_e, ob_some, bI_0, bI_a, bI_t, bI_f, if_true, if_false, ite_true, ite_false, true_and, and_true, false_and, and_false, true_or, or_true, false_or, or_false, not_true_eq_false, not_false_eq_true, ite_not, ne_eq, Bool.true_eq_false, Bool.false_eq_true, reduceCtorEq, decide_true, decide_false, Bool.and_true, Bool.and_false, Bool.true_and, Bool.false_and, Bool.or_true, Bool.or_false, Bool.not_true, Bool.not_false, Nat.add_zero, Nat.zero_add, eq_self, Nat.not_lt_zero, Nat.reduceAdd, Nat.reduceMul, Nat.reduceSub, Nat.reduceDiv, Nat.reduceMod, Nat.reduceAnd, Nat.reduceXor, Nat.reduceEqDiff, Nat.reducePow, lt_T, lt_F, le_T, le_F, eq_F, ex, l_cmp0]
      · rw [R q hq]
        by_cases z : q / 8 < bh β ∧ q % 8 < bw β
        · congr 1
          have hc := cell_lt (W := bw β) (H := bh β) z.1 z.2
          show P (bw β * (q / 8) + q % 8) = (opC β (bw β * (q / 8) + q % 8) && decide (X (bw β * (q / 8) + q % 8) = m))
          cases pc : P (bw β * (q / 8) + q % 8)
          · cases oc : opC β (bw β * (q / 8) + q % 8)
            · rfl
            · by_cases xc : X (bw β * (q / 8) + q % 8) = m
              · have cn := (HX.1 _ hc oc).2.2
                rw [xc] at cn
                have := cn (fun c => P c = true) pm (fun x y px hnb _ oy => by
                  rw [← fixp y hnb.2.1]
                  exact (nxP_iff hW.1 hW.2 hH.2 hnb.2.1).mpr ⟨oy, Or.inr ⟨x, hnb, px⟩⟩)
                rw [pc] at this
                cases this
              · rw [decide_eq_false xc]
                rfl
          · obtain ⟨j1, j2⟩ := J _ hc pc
            rw [j1, decide_eq_true j2]
            rfl
        · rw [decide_eq_false z, Bool.false_and, Bool.false_and]
    · obtain ⟨c, hc, hne⟩ : ∃ c, c < bw β * bh β ∧ nxP (bw β) (bw β * bh β) (opC β) P c ≠ P c := by
        apply Classical.byContradiction
        intro y
        exact fixp (fun c hc => Classical.byContradiction (fun t => y ⟨c, hc, t⟩))
      have pc : P c = false := by
        cases t : P c
        · rfl
        · rw [sub c hc t, t] at hne
          exact absurd rfl hne
      have nc : nxP (bw β) (bw β * bh β) (opC β) P c = true := by
        cases t : nxP (bw β) (bw β * bh β) (opC β) P c
        · rw [t, pc] at hne
          exact absurd rfl hne
        · rfl
      have grow := ct_lt1 (p := P) (q := nxP (bw β) (bw β * bh β) (opC β) P) hc pc nc sub
      obtain ⟨y, e1, e2⟩ := ih (i + 1) _ _ g (by omega) (by omega) RN (sub m hm pm) J2 (by omega)
      have ne : ¬ (((x ||| ((qm_lshl x (nI 1) &&& (-72340172838076674)) ||| (qm_lushr x (nI 1) &&& 9187201950435737471))) ||| qm_lshl x (nI 8)) ||| qm_lushr x (nI 8)) &&& h.2 b 6 = x := fun t => by
        have hd := k.dm hc
        have hcm := Nat.div_add_mod c (bw β)
        have a1 := rep_bit hW.2 hH.2 RN hd.1 hd.2
        have a2 := rep_bit hW.2 hH.2 R hd.1 hd.2
        rw [hcm] at a1 a2
        rw [t, a2, nc, pc] at a1
        cases a1
      refine ⟨y, ?_, e2⟩
      unfold qX0_joinedTo_5
      simp (disch := omega) only [↓reduceIte, ↓q_m1, ↓q_m2, k_o, k_0, k_1, k_2, k_3, k_4, k_5, k_6, k_7, k_8, k_9, k_10, k_11, k_16, k_17, k_19, k_20, k_24, k_26, k_27, k_30, k_32, k_33, k_35, k_40, k_43, k_48, k_50, k_57, k_60, k_64, k_81, k_86, k_34, k_66, k_322, k_97, k_99, k_100, k_122, k_128, k_160, k_161, k_255, k_256, k_512, k_580, k_600, k_1000, k_4096, k_far, k_o, nI_add, n_mul, n_sub, n_div, n_rem, n_lt, n_le, n_eq, n_cl, n_and, n_or, n_xor, m1_lt, lt_m1, m1_eq, eq_m1, le_m1, m1_le, m2_eq, up_eq, up_ne, n_shl, n_shr, b2_some, let_e, ob_some, bI_0, bI_a, bI_t, bI_f, if_true, if_false, ite_true, ite_false, true_and, and_true, false_and, and_false, true_or, or_true, false_or, or_false, not_true_eq_false, not_false_eq_true, ite_not, ne_eq, Bool.true_eq_false, Bool.false_eq_true, reduceCtorEq, decide_true, decide_false, Bool.and_true, Bool.and_false, Bool.true_and, Bool.false_and, Bool.or_true, Bool.or_false, Bool.not_true, Bool.not_false, Nat.add_zero, Nat.zero_add, eq_self, Nat.not_lt_zero, Nat.reduceAdd, Nat.reduceMul, Nat.reduceSub, Nat.reduceDiv, Nat.reduceMod, Nat.reduceAnd, Nat.reduceXor, Nat.reduceEqDiff, Nat.reducePow, lt_T, lt_F, le_T, le_F, eq_F, l_cmp0, ne]
      exact e1
theorem lb_low {x : Int64} {k : Nat} (hk : k < 64) : lb (x &&& -x) k = (lb x k && !decide (∃ j, j < k ∧ lb x j = true)) := by
  rw [lb_and]
  have : lb (-x) k = (lb x k ^^ (decide (k < 64) && decide (∃ j, j < k ∧ lb x j = true))) := by
    unfold lb
    rw [Int64.toBitVec_neg, BitVec.getLsbD_neg]
  rw [this, decide_eq_true hk, Bool.true_and]
  cases lb x k <;> cases decide (∃ j, j < k ∧ lb x j = true) <;> rfl
theorem mxH_skip {N : Nat} {op : Nat → Bool} {X : Nat → Nat} : ∀ {e c a : Nat} {d : Nat}, (∀ u, c ≤ u → u < c + e → rpB op X u = false) → mxH N op X (e + d) c a = mxH N op X d (c + e) a := by
  intro e
  induction e with
  | zero => intro c a d _; rw [Nat.zero_add, Nat.add_zero]
  | succ e ih =>
    intro c a d H
    rw [show e + 1 + d = (e + d) + 1 by omega]
    show mxH N op X (e + d) (c + 1) (if rpB op X c then max a (szH N op X c) else a) = _
    rw [H c (by omega) (by omega), if_neg (by simp), ih (fun u h1 h2 => H u (by omega) (by omega)), show c + 1 + e = c + (e + 1) by omega]
theorem c_holes (k : bOK β) (C : bC b β h) {X : Nat → Nat} (HX : FH (bw β) (bw β * bh β) (opC β) X) {f : Nat} (hf2 : f ≤ 1) : ∀ d i t x a fuel, i + d = 64 → d < fuel → t ≤ bw β * bh β → rep (bw β) (bh β) x (fun c => opC β c && decide (t ≤ X c)) → i = fb_ct (rpB (opC β) X) t → a ≤ 64 → qX0_holesOrLargest_14 fuel b (nI f) x (nI i) (nI a) (nI i) h = some (nI (if f = 0 then fb_ct (rpB (opC β) X) (bw β * bh β) else mxH (bw β * bh β) (opC β) X (bw β * bh β - t) t a), h) := by
  have hW := k.W
  have hH := k.H
  have hn := k.n
  -- nothing is left
  have done : ∀ i t a, t ≤ bw β * bh β → i = fb_ct (rpB (opC β) X) t → (∀ c, c < bw β * bh β → t ≤ c → rpB (opC β) X c = false) → (if f = 0 then some (nI i, h) else some (nI a, h)) = some (nI (if f = 0 then fb_ct (rpB (opC β) X) (bw β * bh β) else mxH (bw β * bh β) (opC β) X (bw β * bh β - t) t a), h) := by
    intro i t a ht hi no
    have e1 : fb_ct (rpB (opC β) X) (bw β * bh β) = i := by
      rw [hi]
      exact ct_skip ht (fun u h1 h2 => no u h2 h1)
    have e2 : mxH (bw β * bh β) (opC β) X (bw β * bh β - t) t a = a := by
      have := mxH_skip (N := bw β * bh β) (op := opC β) (X := X) (e := bw β * bh β - t) (c := t) (a := a) (d := 0) (fun u h1 h2 => no u (by omega) h1)
      rw [Nat.add_zero] at this
      rw [this]
      rfl
    rw [e1, e2]
    by_cases z : f = 0
    · rw [if_pos z, if_pos z]
    · rw [if_neg z, if_neg z]
  intro d
  induction d with
  | zero =>
    intro i t x a fuel hi hf ht R ei ha
    obtain ⟨g, rfl⟩ : ∃ g, fuel = g + 1 := ⟨fuel - 1, by omega⟩
    have hle := fb_ct_le (rpB (opC β) X) t
    unfold qX0_holesOrLargest_14
    simp (disch := omega) only [↓reduceIte, ↓q_m1, ↓q_m2, k_o, k_0, k_1, k_2, k_3, k_4, k_5, k_6, k_7, k_8, k_9, k_10, k_11, k_16, k_17, k_19, k_20, k_24, k_26, k_27, k_30, k_32, k_33, k_35, k_40, k_43, k_48, k_50, k_57, k_60, k_64, k_81, k_86, k_34, k_66, k_322, k_97, k_99, k_100, k_122, k_128, k_160, k_161, k_255, k_256, k_512, k_580, k_600, k_1000, k_4096, k_far, k_o, nI_add, n_mul, n_sub, n_div, n_rem, n_lt, n_le, n_eq, n_cl, n_and, n_or, n_xor, m1_lt, lt_m1, m1_eq, eq_m1, le_m1, m1_le, m2_eq, up_eq, up_ne, n_shl, n_shr, b2_some, let_e, ob_some, bI_0, bI_a, bI_t, bI_f, if_true, if_false, ite_true, ite_false, true_and, and_true, false_and, and_false, true_or, or_true, false_or, or_false, not_true_eq_false, not_false_eq_true, ite_not, ne_eq, Bool.true_eq_false, Bool.false_eq_true, reduceCtorEq, decide_true, decide_false, Bool.and_true, Bool.and_false, Bool.true_and, Bool.false_and, Bool.or_true, Bool.or_false, Bool.not_true, Bool.not_false, Nat.add_zero, Nat.zero_add, eq_self, Nat.not_lt_zero, Nat.reduceAdd, Nat.reduceMul, Nat.reduceSub, Nat.reduceDiv, Nat.reduceMod, Nat.reduceAnd, Nat.reduceXor, Nat.reduceEqDiff, Nat.reducePow, lt_T, lt_F, le_T, le_F, eq_F]
    exact done i t a ht ei (fun c hc htc => by omega)
  | succ d ih =>
    intro i t x a fuel hi hf ht R ei ha
    obtain ⟨g, rfl⟩ : ∃ g, fuel = g + 1 := ⟨fuel - 1, by omega⟩
    by_cases z : x = 0
    · have no : ∀ c, c < bw β * bh β → t ≤ c → rpB (opC β) X c = false := fun c hc htc => by
        cases y : rpB (opC β) X c
        · rfl
        · unfold rpB at y
          rw [Bool.and_eq_true, decide_eq_true_eq] at y
          have hd := k.dm hc
          have hcm := Nat.div_add_mod c (bw β)
          have a1 := rep_bit hW.2 hH.2 R hd.1 hd.2
          rw [hcm, z, lb_0, y.1, decide_eq_true (show t ≤ X c by omega)] at a1
          cases a1
      have := done i t a ht ei no
      unfold qX0_holesOrLargest_14
      simp (disch := omega) only [↓reduceIte, ↓q_m1, ↓q_m2, k_o, k_0, k_1, k_2, k_3, k_4, k_5, k_6, k_7, k_8, k_9, k_10, k_11, k_16, k_17, k_19, k_20, k_24, k_26, k_27, k_30, k_32, k_33, k_35, k_40, k_43, k_48, k_50, k_57, k_60, k_64, k_81, k_86, k_34, k_66, k_322, k_97, k_99, k_100, k_122, k_128, k_160, k_161, k_255, k_256, k_512, k_580, k_600, k_1000, k_4096, k_far, k_o, nI_add, n_mul, n_sub, n_div, n_rem, n_lt, n_le, n_eq, n_cl, n_and, n_or, n_xor, m1_lt, lt_m1, m1_eq, eq_m1, le_m1, m1_le, m2_eq, up_eq, up_ne, n_shl, n_shr, b2_some, let_e, ob_some, bI_0, bI_a, bI_t, bI_f, if_true, if_false, ite_true, ite_false, true_and, and_true, false_and, and_false, true_or, or_true, false_or, or_false, not_true_eq_false, not_false_eq_true, ite_not, ne_eq, Bool.true_eq_false, Bool.false_eq_true, reduceCtorEq, decide_true, decide_false, Bool.and_true, Bool.and_false, Bool.true_and, Bool.false_and, Bool.or_true, Bool.or_false, Bool.not_true, Bool.not_false, Nat.add_zero, Nat.zero_add, eq_self, Nat.not_lt_zero, Nat.reduceAdd, Nat.reduceMul, Nat.reduceSub, Nat.reduceDiv, Nat.reduceMod, Nat.reduceAnd, Nat.reduceXor, Nat.reduceEqDiff, Nat.reducePow, lt_T, lt_F, le_T, le_F, eq_F, l_cmp0, z]
      exact this
    · -- the first STROKE that is left
      obtain ⟨q0, hq0, lq0⟩ : ∃ q, q < 64 ∧ lb x q = true := by
        apply Classical.byContradiction
        intro y
        apply z
        apply lb_ext
        intro q hq
        rw [lb_0]
        cases t : lb x q
        · rfl
        · exact absurd ⟨q, hq, t⟩ y
      obtain ⟨q, hq, lq, lmin⟩ : ∃ q, q < 64 ∧ lb x q = true ∧ ∀ j, j < q → lb x j = false := by
        have : ∀ n q, q < 64 → lb x q = true → q ≤ n → ∃ q, q < 64 ∧ lb x q = true ∧ ∀ j, j < q → lb x j = false := by
          intro n
          induction n with
          | zero => intro q h1 h2 h3; exact ⟨q, h1, h2, fun j hj => by omega⟩
          | succ n ihn =>
            intro q h1 h2 h3
            by_cases y : ∃ j, j < q ∧ lb x j = true
            · obtain ⟨j, j1, j2⟩ := y
              exact ihn j (by omega) j2 (by omega)
            · refine ⟨q, h1, h2, fun j hj => ?_⟩
              cases t : lb x j
              · rfl
              · exact absurd ⟨j, hj, t⟩ y
        exact this q0 q0 hq0 lq0 (Nat.le_refl _)
      have inb : q / 8 < bh β ∧ q % 8 < bw β := by
        apply Classical.byContradiction
        intro y
        rw [rep_out R y] at lq
        cases lq
      have hm := cell_lt (W := bw β) (H := bh β) inb.1 inb.2
      obtain ⟨w1, w2⟩ := wc_dm (W := bw β) (r := q / 8) (c := q % 8) inb.2
      have Rm := rep_bit hW.2 hH.2 R inb.1 inb.2
      rw [show 8 * (q / 8) + q % 8 = q by omega, lq] at Rm
      have Rm' := Rm.symm
      rw [Bool.and_eq_true, decide_eq_true_eq] at Rm'
      obtain ⟨om, tm⟩ := Rm'
      -- all that is left is not ahead of it
      have first : ∀ c, c < bw β * bh β → opC β c = true → t ≤ X c → bw β * (q / 8) + q % 8 ≤ c := fun c hc oc tc => by
        apply Classical.byContradiction
        intro y
        have hd := k.dm hc
        have hcm := Nat.div_add_mod c (bw β)
        have hlt : 8 * (c / bw β) + c % bw β < q := by
          by_cases y1 : c / bw β < q / 8
          · omega
          · have y2 : c / bw β = q / 8 := by
              have : c / bw β ≤ q / 8 := by
                apply Classical.byContradiction
                intro y3
                have : bw β * (q / 8 + 1) ≤ bw β * (c / bw β) := Nat.mul_le_mul_left _ (by omega)
                rw [Nat.mul_succ] at this
                omega
              omega
            rw [y2] at hcm ⊢
            omega
        have a1 := rep_bit hW.2 hH.2 R hd.1 hd.2
        rw [hcm, lmin _ hlt, oc, decide_eq_true tc] at a1
        cases a1
      generalize hM : bw β * (q / 8) + q % 8 = m at *
      obtain ⟨xm1, xm2, xm3⟩ := HX.1 m hm om
      -- its label is itself
      have lab : ∀ c, c < bw β * bh β → opC β c = true → X (X c) = X c := fun c hc oc => by
        obtain ⟨l1, l2, l3⟩ := HX.1 c hc oc
        exact (l3 (fun y => y < bw β * bh β ∧ opC β y = true ∧ X y = X (X c)) ⟨by omega, l2, rfl⟩ (fun x y px hnb ox oy => ⟨hnb.2.1, oy, by rw [HX.2 x y hnb ox oy]; exact px.2.2⟩)).2.2.symm
      have xm : X m = m := by
        have := first (X m) (by omega) xm2 (by rw [lab m hm om]; exact tm)
        omega
      have tmm : t ≤ m := by omega
      -- its hole
      have seed : rep (bw β) (bh β) (x &&& -x) (fun c => decide (c = m)) := by
        intro j hj
        rw [lb_low hj]
        show _ = (decide (j / 8 < bh β ∧ j % 8 < bw β) && decide (bw β * (j / 8) + j % 8 = m))
        by_cases y : j = q
        · subst y
          rw [lq, Bool.true_and, decide_eq_true inb, Bool.true_and, hM, decide_eq_true rfl, decide_eq_false (fun t => by obtain ⟨j', j1, j2⟩ := t; rw [lmin j' j1] at j2; cases j2)]
          rfl
        · have lhs : (lb x j && !decide (∃ j', j' < j ∧ lb x j' = true)) = false := by
            by_cases y2 : j < q
            · rw [lmin j y2, Bool.false_and]
            · rw [decide_eq_true ⟨q, by omega, lq⟩, Bool.not_true, Bool.and_false]
          rw [lhs]
          by_cases y2 : j / 8 < bh β ∧ j % 8 < bw β
          · rw [decide_eq_true y2, Bool.true_and]
            refine (decide_eq_false (fun t => ?_)).symm
            obtain ⟨v1, v2⟩ := wc_dm (W := bw β) (r := j / 8) (c := j % 8) y2.2
            rw [t] at v1 v2
            rw [← hM] at v1 v2
            obtain ⟨u1, u2⟩ := wc_dm (W := bw β) (r := q / 8) (c := q % 8) inb.2
            rw [u1] at v1
            rw [u2] at v2
            omega
          · rw [decide_eq_false y2, Bool.false_and]
      have ct1 : 0 + 1 ≤ fb_ct (fun c => decide (c = m)) (bw β * bh β) := fb_ct_pos.mpr ⟨m, hm, decide_eq_true rfl⟩
      obtain ⟨y, p1, p2⟩ := c_joined k C HX hm om xm 64 0 (x &&& -x) (fun c => decide (c = m)) qm_N (by omega) (by unfold qm_N; omega) seed (decide_eq_true rfl) (fun c hc pc => by rw [of_decide_eq_true pc]; exact ⟨om, xm⟩) ct1
      have rm : rpB (opC β) X m = true := by unfold rpB; rw [om, decide_eq_true xm]; rfl
      have noR : ∀ u, t ≤ u → u < m → rpB (opC β) X u = false := fun u h1 h2 => by
        cases y : rpB (opC β) X u
        · rfl
        · unfold rpB at y
          rw [Bool.and_eq_true, decide_eq_true_eq] at y
          have := first u (by omega) y.1 (by omega)
          omega
      have R2 : rep (bw β) (bh β) (x &&& (y ^^^ (-1))) (fun c => opC β c && decide (m + 1 ≤ X c)) := by
        intro j hj
        rw [lb_and, lb_not _ hj, R j hj, p2 j hj]
        show ((decide (j / 8 < bh β ∧ j % 8 < bw β) && (opC β (bw β * (j / 8) + j % 8) && decide (t ≤ X (bw β * (j / 8) + j % 8)))) && !(decide (j / 8 < bh β ∧ j % 8 < bw β) && (opC β (bw β * (j / 8) + j % 8) && decide (X (bw β * (j / 8) + j % 8) = m)))) = (decide (j / 8 < bh β ∧ j % 8 < bw β) && (opC β (bw β * (j / 8) + j % 8) && decide (m + 1 ≤ X (bw β * (j / 8) + j % 8))))
        by_cases y2 : j / 8 < bh β ∧ j % 8 < bw β
        · rw [decide_eq_true y2, Bool.true_and, Bool.true_and, Bool.true_and]
          have hc := cell_lt (W := bw β) (H := bh β) y2.1 y2.2
          generalize bw β * (j / 8) + j % 8 = c at *
          cases oc : opC β c
          · rfl
          · rw [Bool.true_and, Bool.true_and, Bool.true_and]
            by_cases tc : t ≤ X c
            · obtain ⟨l1, l2, l3⟩ := HX.1 c hc oc
              have := first (X c) (by omega) l2 (by rw [lab c hc oc]; exact tc)
              rw [decide_eq_true tc, Bool.true_and]
              by_cases xc : X c = m
              · rw [decide_eq_true xc, decide_eq_false (by omega)]
                rfl
              · rw [decide_eq_false xc, decide_eq_true (by omega)]
                rfl
            · rw [decide_eq_false tc, decide_eq_false (show ¬ m + 1 ≤ X c by omega), Bool.false_and]
        · rw [decide_eq_false y2, Bool.false_and, Bool.false_and, Bool.false_and]
      have bc := rep_ct (show 0 < bw β by omega) hW.2 hH.2 p2
      have bc' : fb_ct (lb y) 64 = szH (bw β * bh β) (opC β) X m := bc
      have sl := szH_le (N := bw β * bh β) (op := opC β) (X := X) m
      have hN : fb_ct (rpB (opC β) X) (m + 1) = i + 1 := by
        rw [fb_ct_succ, rm, ct_skip tmm noR, ← ei]
        rfl
      have K := ih (i + 1) (m + 1) (x &&& (y ^^^ (-1))) (max a (szH (bw β * bh β) (opC β) X m)) g (by omega) (by omega) (by omega) R2 hN.symm (by omega)
      have em : mxH (bw β * bh β) (opC β) X (bw β * bh β - t) t a = mxH (bw β * bh β) (opC β) X (bw β * bh β - (m + 1)) (m + 1) (max a (szH (bw β * bh β) (opC β) X m)) := by
        rw [show bw β * bh β - t = (m - t) + (bw β * bh β - (m + 1) + 1) by omega, mxH_skip (fun u h1 h2 => noR u h1 (by omega)), show t + (m - t) = m by omega]
        show mxH (bw β * bh β) (opC β) X (bw β * bh β - (m + 1)) (m + 1) (if rpB (opC β) X m then max a (szH (bw β * bh β) (opC β) X m) else a) = _
        rw [rm, if_pos rfl]
      rw [em]
      have p1' : qX0_joinedTo b (x &&& -x) h = some (y, h) := p1
      unfold qX0_holesOrLargest_14
      simp (disch := omega) only [↓reduceIte, ↓q_m1, ↓q_m2, k_o, k_0, k_1, k_2, k_3, k_4, k_5, k_6, k_7, k_8, k_9, k_10, k_11, k_16, k_17, k_19, k_20, k_24, k_26, k_27, k_30, k_32, k_33, k_35, k_40, k_43, k_48, k_50, k_57, k_60, k_64, k_81, k_86, k_34, k_66, k_322, k_97, k_99, k_100, k_122, k_128, k_160, k_161, k_255, k_256, k_512, k_580, k_600, k_1000, k_4096, k_far, k_o, nI_add, n_mul, n_sub, n_div, n_rem, n_lt, n_le, n_eq, n_cl, n_and, n_or, n_xor, m1_lt, lt_m1, m1_eq, eq_m1, le_m1, m1_le, m2_eq, up_eq, up_ne, n_shl, n_shr, b2_some, let_e, ob_some, bI_0, bI_a, bI_t, bI_f, if_true, if_false, ite_true, ite_false, true_and, and_true, false_and, and_false, true_or, or_true, false_or, or_false, not_true_eq_false, not_false_eq_true, ite_not, ne_eq, Bool.true_eq_false, Bool.false_eq_true, reduceCtorEq, decide_true, decide_false, Bool.and_true, Bool.and_false, Bool.true_and, Bool.false_and, Bool.or_true, Bool.or_false, Bool.not_true, Bool.not_false, Nat.add_zero, Nat.zero_add, eq_self, Nat.not_lt_zero, Nat.reduceAdd, Nat.reduceMul, Nat.reduceSub, Nat.reduceDiv, Nat.reduceMod, Nat.reduceAnd, Nat.reduceXor, Nat.reduceEqDiff, Nat.reducePow, lt_T, lt_F, le_T, le_F, eq_F, l_cmp0, z, p1', bc_l, bc', j_maxn]
      exact K
end HC
theorem P_13 : ∀ h, qR h → ∀ x1 x2 : Int32, ∃ (r : Int32) (h1 h2 : qm_H), qX11_holes 0 x1 x2 h = some (r, h1) ∧ qX12_holes 62 x1 x2 h1 = some (r, h2) ∧ qR h2 := by
  intro h R x1 x2
  have hE := e0 (qFr.refl qScr h)
  rcases c_bask R x1 with ⟨y1, y2, _⟩ | ⟨i, β, hi, rfl, k, C, Z, y1, y2, _⟩
  · refine ⟨m1, h, qm_seti h 62 0 (nI 0), ?_, ?_, R.mvm (em0 h)⟩
    · unfold qX11_holes
      simp (disch := omega) only [↓q_m1, ↓q_m2, k_o, k_0, k_1, k_2, k_3, k_4, k_5, k_6, k_7, k_8, k_9, k_10, k_11, k_16, k_17, k_19, k_20, k_24, k_26, k_27, k_30, k_32, k_33, k_35, k_40, k_43, k_48, k_50, k_57, k_60, k_64, k_81, k_86, k_34, k_66, k_322, k_97, k_99, k_100, k_122, k_128, k_160, k_161, k_255, k_256, k_512, k_580, k_600, k_1000, k_4096, k_far, k_o, nI_add, n_mul, n_sub, n_div, n_rem, n_lt, n_le, n_eq, n_cl, n_and, n_or, n_xor, m1_lt, lt_m1, m1_eq, eq_m1, le_m1, m1_le, m2_eq, up_eq, up_ne, n_shl, n_shr, b2_some, let_e, ob_some, bI_0, bI_a, bI_t, bI_f, if_true, if_false, ite_true, ite_false, true_and, and_true, false_and, and_false, true_or, or_true, false_or, or_false, not_true_eq_false, not_false_eq_true, ite_not, ne_eq, Bool.true_eq_false, Bool.false_eq_true, reduceCtorEq, decide_true, decide_false, Bool.and_true, Bool.and_false, Bool.true_and, Bool.false_and, Bool.or_true, Bool.or_false, Bool.not_true, Bool.not_false, Nat.add_zero, Nat.zero_add, eq_self, Nat.not_lt_zero, Nat.reduceAdd, Nat.reduceMul, Nat.reduceSub, Nat.reduceDiv, Nat.reduceMod, Nat.reduceAnd, Nat.reduceXor, Nat.reduceEqDiff, Nat.reducePow, y1, om_n]
    · unfold qX12_holes
      simp (disch := omega) only [↓q_m1, ↓q_m2, k_o, k_0, k_1, k_2, k_3, k_4, k_5, k_6, k_7, k_8, k_9, k_10, k_11, k_16, k_17, k_19, k_20, k_24, k_26, k_27, k_30, k_32, k_33, k_35, k_40, k_43, k_48, k_50, k_57, k_60, k_64, k_81, k_86, k_34, k_66, k_322, k_97, k_99, k_100, k_122, k_128, k_160, k_161, k_255, k_256, k_512, k_580, k_600, k_1000, k_4096, k_far, k_o, nI_add, n_mul, n_sub, n_div, n_rem, n_lt, n_le, n_eq, n_cl, n_and, n_or, n_xor, m1_lt, lt_m1, m1_eq, eq_m1, le_m1, m1_le, m2_eq, up_eq, up_ne, n_shl, n_shr, b2_some, let_e, ob_some, bI_0, bI_a, bI_t, bI_f, if_true, if_false, ite_true, ite_false, true_and, and_true, false_and, and_false, true_or, or_true, false_or, or_false, not_true_eq_false, not_false_eq_true, ite_not, ne_eq, Bool.true_eq_false, Bool.false_eq_true, reduceCtorEq, decide_true, decide_false, Bool.and_true, Bool.and_false, Bool.true_and, Bool.false_and, Bool.or_true, Bool.or_false, Bool.not_true, Bool.not_false, Nat.add_zero, Nat.zero_add, eq_self, Nat.not_lt_zero, Nat.reduceAdd, Nat.reduceMul, Nat.reduceSub, Nat.reduceDiv, Nat.reduceMod, Nat.reduceAnd, Nat.reduceXor, Nat.reduceEqDiff, Nat.reducePow, y2 _ hE]
  · obtain ⟨h2, w1, w2, M, S, w3⟩ := y2 _ hE
    have hR : qR h2 := R.mvm ((em0 h).trans (qHd.e w2))
    have hn := k.n
    rcases i_cases x2 with hx | ⟨f, hf, rfl⟩
    · refine ⟨m1, h, h2, ?_, ?_, hR⟩
      · unfold qX11_holes
        simp (disch := omega) only [↓reduceIte, ↓q_m1, ↓q_m2, k_o, k_0, k_1, k_2, k_3, k_4, k_5, k_6, k_7, k_8, k_9, k_10, k_11, k_16, k_17, k_19, k_20, k_24, k_26, k_27, k_30, k_32, k_33, k_35, k_40, k_43, k_48, k_50, k_57, k_60, k_64, k_81, k_86, k_34, k_66, k_322, k_97, k_99, k_100, k_122, k_128, k_160, k_161, k_255, k_256, k_512, k_580, k_600, k_1000, k_4096, k_far, k_o, nI_add, n_mul, n_sub, n_div, n_rem, n_lt, n_le, n_eq, n_cl, n_and, n_or, n_xor, m1_lt, lt_m1, m1_eq, eq_m1, le_m1, m1_le, m2_eq, up_eq, up_ne, n_shl, n_shr, b2_some, let_e, ob_some, bI_0, bI_a, bI_t, bI_f, if_true, if_false, ite_true, ite_false, true_and, and_true, false_and, and_false, true_or, or_true, false_or, or_false, not_true_eq_false, not_false_eq_true, ite_not, ne_eq, Bool.true_eq_false, Bool.false_eq_true, reduceCtorEq, decide_true, decide_false, Bool.and_true, Bool.and_false, Bool.true_and, Bool.false_and, Bool.or_true, Bool.or_false, Bool.not_true, Bool.not_false, Nat.add_zero, Nat.zero_add, eq_self, Nat.not_lt_zero, Nat.reduceAdd, Nat.reduceMul, Nat.reduceSub, Nat.reduceDiv, Nat.reduceMod, Nat.reduceAnd, Nat.reduceXor, Nat.reduceEqDiff, Nat.reducePow, lt_T, lt_F, le_T, le_F, eq_F, y1, om_s, ng_lt hx]
      · unfold qX12_holes
        simp (disch := omega) only [↓reduceIte, ↓q_m1, ↓q_m2, k_o, k_0, k_1, k_2, k_3, k_4, k_5, k_6, k_7, k_8, k_9, k_10, k_11, k_16, k_17, k_19, k_20, k_24, k_26, k_27, k_30, k_32, k_33, k_35, k_40, k_43, k_48, k_50, k_57, k_60, k_64, k_81, k_86, k_34, k_66, k_322, k_97, k_99, k_100, k_122, k_128, k_160, k_161, k_255, k_256, k_512, k_580, k_600, k_1000, k_4096, k_far, k_o, nI_add, n_mul, n_sub, n_div, n_rem, n_lt, n_le, n_eq, n_cl, n_and, n_or, n_xor, m1_lt, lt_m1, m1_eq, eq_m1, le_m1, m1_le, m2_eq, up_eq, up_ne, n_shl, n_shr, b2_some, let_e, ob_some, bI_0, bI_a, bI_t, bI_f, if_true, if_false, ite_true, ite_false, true_and, and_true, false_and, and_false, true_or, or_true, false_or, or_false, not_true_eq_false, not_false_eq_true, ite_not, ne_eq, Bool.true_eq_false, Bool.false_eq_true, reduceCtorEq, decide_true, decide_false, Bool.and_true, Bool.and_false, Bool.true_and, Bool.false_and, Bool.or_true, Bool.or_false, Bool.not_true, Bool.not_false, Nat.add_zero, Nat.zero_add, eq_self, Nat.not_lt_zero, Nat.reduceAdd, Nat.reduceMul, Nat.reduceSub, Nat.reduceDiv, Nat.reduceMod, Nat.reduceAnd, Nat.reduceXor, Nat.reduceEqDiff, Nat.reducePow, lt_T, lt_F, le_T, le_F, eq_F, w1, m_in, ng_le hx]
    · by_cases q1 : 2 < f
      · refine ⟨m1, h, h2, ?_, ?_, hR⟩
        · unfold qX11_holes
          simp (disch := omega) only [↓reduceIte, ↓q_m1, ↓q_m2, k_o, k_0, k_1, k_2, k_3, k_4, k_5, k_6, k_7, k_8, k_9, k_10, k_11, k_16, k_17, k_19, k_20, k_24, k_26, k_27, k_30, k_32, k_33, k_35, k_40, k_43, k_48, k_50, k_57, k_60, k_64, k_81, k_86, k_34, k_66, k_322, k_97, k_99, k_100, k_122, k_128, k_160, k_161, k_255, k_256, k_512, k_580, k_600, k_1000, k_4096, k_far, k_o, nI_add, n_mul, n_sub, n_div, n_rem, n_lt, n_le, n_eq, n_cl, n_and, n_or, n_xor, m1_lt, lt_m1, m1_eq, eq_m1, le_m1, m1_le, m2_eq, up_eq, up_ne, n_shl, n_shr, b2_some, let_e, ob_some, bI_0, bI_a, bI_t, bI_f, if_true, if_false, ite_true, ite_false, true_and, and_true, false_and, and_false, true_or, or_true, false_or, or_false, not_true_eq_false, not_false_eq_true, ite_not, ne_eq, Bool.true_eq_false, Bool.false_eq_true, reduceCtorEq, decide_true, decide_false, Bool.and_true, Bool.and_false, Bool.true_and, Bool.false_and, Bool.or_true, Bool.or_false, Bool.not_true, Bool.not_false, Nat.add_zero, Nat.zero_add, eq_self, Nat.not_lt_zero, Nat.reduceAdd, Nat.reduceMul, Nat.reduceSub, Nat.reduceDiv, Nat.reduceMod, Nat.reduceAnd, Nat.reduceXor, Nat.reduceEqDiff, Nat.reducePow, lt_T, lt_F, le_T, le_F, eq_F, y1, om_s]
        · unfold qX12_holes
          simp (disch := omega) only [↓reduceIte, ↓q_m1, ↓q_m2, k_o, k_0, k_1, k_2, k_3, k_4, k_5, k_6, k_7, k_8, k_9, k_10, k_11, k_16, k_17, k_19, k_20, k_24, k_26, k_27, k_30, k_32, k_33, k_35, k_40, k_43, k_48, k_50, k_57, k_60, k_64, k_81, k_86, k_34, k_66, k_322, k_97, k_99, k_100, k_122, k_128, k_160, k_161, k_255, k_256, k_512, k_580, k_600, k_1000, k_4096, k_far, k_o, nI_add, n_mul, n_sub, n_div, n_rem, n_lt, n_le, n_eq, n_cl, n_and, n_or, n_xor, m1_lt, lt_m1, m1_eq, eq_m1, le_m1, m1_le, m2_eq, up_eq, up_ne, n_shl, n_shr, b2_some, let_e, ob_some, bI_0, bI_a, bI_t, bI_f, if_true, if_false, ite_true, ite_false, true_and, and_true, false_and, and_false, true_or, or_true, false_or, or_false, not_true_eq_false, not_false_eq_true, ite_not, ne_eq, Bool.true_eq_false, Bool.false_eq_true, reduceCtorEq, decide_true, decide_false, Bool.and_true, Bool.and_false, Bool.true_and, Bool.false_and, Bool.or_true, Bool.or_false, Bool.not_true, Bool.not_false, Nat.add_zero, Nat.zero_add, eq_self, Nat.not_lt_zero, Nat.reduceAdd, Nat.reduceMul, Nat.reduceSub, Nat.reduceDiv, Nat.reduceMod, Nat.reduceAnd, Nat.reduceXor, Nat.reduceEqDiff, Nat.reducePow, lt_T, lt_F, le_T, le_F, eq_F, w1, m_in]
      · by_cases q2 : f = 2
        · subst q2
          refine ⟨nI (lgO (gpB β) (bh β) (bw β) 1 0), h, h2, ?_, ?_, hR⟩
          · unfold qX11_holes
            simp (disch := omega) only [↓reduceIte, ↓q_m1, ↓q_m2, k_o, k_0, k_1, k_2, k_3, k_4, k_5, k_6, k_7, k_8, k_9, k_10, k_11, k_16, k_17, k_19, k_20, k_24, k_26, k_27, k_30, k_32, k_33, k_35, k_40, k_43, k_48, k_50, k_57, k_60, k_64, k_81, k_86, k_34, k_66, k_322, k_97, k_99, k_100, k_122, k_128, k_160, k_161, k_255, k_256, k_512, k_580, k_600, k_1000, k_4096, k_far, k_o, nI_add, n_mul, n_sub, n_div, n_rem, n_lt, n_le, n_eq, n_cl, n_and, n_or, n_xor, m1_lt, lt_m1, m1_eq, eq_m1, le_m1, m1_le, m2_eq, up_eq, up_ne, n_shl, n_shr, b2_some, let_e, ob_some, bI_0, bI_a, bI_t, bI_f, if_true, if_false, ite_true, ite_false, true_and, and_true, false_and, and_false, true_or, or_true, false_or, or_false, not_true_eq_false, not_false_eq_true, ite_not, ne_eq, Bool.true_eq_false, Bool.false_eq_true, reduceCtorEq, decide_true, decide_false, Bool.and_true, Bool.and_false, Bool.true_and, Bool.false_and, Bool.or_true, Bool.or_false, Bool.not_true, Bool.not_false, Nat.add_zero, Nat.zero_add, eq_self, Nat.not_lt_zero, Nat.reduceAdd, Nat.reduceMul, Nat.reduceSub, Nat.reduceDiv, Nat.reduceMod, Nat.reduceAnd, Nat.reduceXor, Nat.reduceEqDiff, Nat.reducePow, lt_T, lt_F, le_T, le_F, eq_F, y1, om_s, c_largest k C]
          · unfold qX12_holes
            simp (disch := omega) only [↓reduceIte, ↓q_m1, ↓q_m2, k_o, k_0, k_1, k_2, k_3, k_4, k_5, k_6, k_7, k_8, k_9, k_10, k_11, k_16, k_17, k_19, k_20, k_24, k_26, k_27, k_30, k_32, k_33, k_35, k_40, k_43, k_48, k_50, k_57, k_60, k_64, k_81, k_86, k_34, k_66, k_322, k_97, k_99, k_100, k_122, k_128, k_160, k_161, k_255, k_256, k_512, k_580, k_600, k_1000, k_4096, k_far, k_o, nI_add, n_mul, n_sub, n_div, n_rem, n_lt, n_le, n_eq, n_cl, n_and, n_or, n_xor, m1_lt, lt_m1, m1_eq, eq_m1, le_m1, m1_le, m2_eq, up_eq, up_ne, n_shl, n_shr, b2_some, let_e, ob_some, bI_0, bI_a, bI_t, bI_f, if_true, if_false, ite_true, ite_false, true_and, and_true, false_and, and_false, true_or, or_true, false_or, or_false, not_true_eq_false, not_false_eq_true, ite_not, ne_eq, Bool.true_eq_false, Bool.false_eq_true, reduceCtorEq, decide_true, decide_false, Bool.and_true, Bool.and_false, Bool.true_and, Bool.false_and, Bool.or_true, Bool.or_false, Bool.not_true, Bool.not_false, Nat.add_zero, Nat.zero_add, eq_self, Nat.not_lt_zero, Nat.reduceAdd, Nat.reduceMul, Nat.reduceSub, Nat.reduceDiv, Nat.reduceMod, Nat.reduceAnd, Nat.reduceXor, Nat.reduceEqDiff, Nat.reducePow, lt_T, lt_F, le_T, le_F, eq_F, w1, m_in, m_largest k M]
        · obtain ⟨X, h3, p1, p2, p3, p4⟩ := m_holes2 k M (bw β * bh β) 0 h2 qm_N (by omega) (by unfold qm_N; omega) (qFr.refl _ _) (fun c hc => absurd hc (Nat.not_lt_zero c))
          have M3 : bM β h3 := M.mv (fun q _ _ => (p2 62 q (by omega)).1) (fun a q _ _ => (p2 a q (by omega)).1)
          have o1 := m_hcount k M3 p3 p4.1 (f := f) (by omega) (bw β * bh β) 0 0 0 qm_N (by omega) (by unfold qm_N; omega) rfl (by omega)
          have o2 := c_holes k C p4 (f := f) (by omega) 64 0 0 (h.2 (8 + 11 * i) 6) 0 qm_N (by omega) (by unfold qm_N; omega) (by omega) (fun q hq => by
            rw [rep_open k C q hq]
            congr 1
            show opC β (bw β * (q / 8) + q % 8) = (opC β (bw β * (q / 8) + q % 8) && decide (0 ≤ X (bw β * (q / 8) + q % 8)))
            rw [decide_eq_true (Nat.zero_le _), Bool.and_true]) rfl (by omega)
          rw [Nat.sub_zero] at o2
          refine ⟨nI (if f = 0 then fb_ct (rpB (opC β) X) (bw β * bh β) else mxH (bw β * bh β) (opC β) X (bw β * bh β) 0 0), h, h3, ?_, ?_, R.mvm (((em0 h).trans (qHd.e w2)).trans (p2.mono (fun a q z => by unfold qMs; omega)))⟩
          · unfold qX11_holes qX11_holes_47 qX0_holesOrLargest
            by_cases q0 : f = 0
            · subst q0
              simp (disch := omega) only [↓reduceIte, ↓q_m1, ↓q_m2, k_o, k_0, k_1, k_2, k_3, k_4, k_5, k_6, k_7, k_8, k_9, k_10, k_11, k_16, k_17, k_19, k_20, k_24, k_26, k_27, k_30, k_32, k_33, k_35, k_40, k_43, k_48, k_50, k_57, k_60, k_64, k_81, k_86, k_34, k_66, k_322, k_97, k_99, k_100, k_122, k_128, k_160, k_161, k_255, k_256, k_512, k_580, k_600, k_1000, k_4096, k_far, k_o, nI_add, n_mul, n_sub, n_div, n_rem, n_lt, n_le, n_eq, n_cl, n_and, n_or, n_xor, m1_lt, lt_m1, m1_eq, eq_m1, le_m1, m1_le, m2_eq, up_eq, up_ne, n_shl, n_shr, b2_some, let_e, ob_some, bI_0, bI_a, bI_t, bI_f, if_true, if_false, ite_true, ite_false, true_and, and_true, false_and, and_false, true_or, or_true, false_or, or_false, not_true_eq_false, not_false_eq_true, ite_not, ne_eq, Bool.true_eq_false, Bool.false_eq_true, reduceCtorEq, decide_true, decide_false, Bool.and_true, Bool.and_false, Bool.true_and, Bool.false_and, Bool.or_true, Bool.or_false, Bool.not_true, Bool.not_false, Nat.add_zero, Nat.zero_add, eq_self, Nat.not_lt_zero, Nat.reduceAdd, Nat.reduceMul, Nat.reduceSub, Nat.reduceDiv, Nat.reduceMod, Nat.reduceAnd, Nat.reduceXor, Nat.reduceEqDiff, Nat.reducePow, lt_T, lt_F, le_T, le_F, eq_F, y1, om_s, o2]
            · have : f = 1 := by omega
              subst this
              simp (disch := omega) only [↓reduceIte, ↓q_m1, ↓q_m2, k_o, k_0, k_1, k_2, k_3, k_4, k_5, k_6, k_7, k_8, k_9, k_10, k_11, k_16, k_17, k_19, k_20, k_24, k_26, k_27, k_30, k_32, k_33, k_35, k_40, k_43, k_48, k_50, k_57, k_60, k_64, k_81, k_86, k_34, k_66, k_322, k_97, k_99, k_100, k_122, k_128, k_160, k_161, k_255, k_256, k_512, k_580, k_600, k_1000, k_4096, k_far, k_o, nI_add, n_mul, n_sub, n_div, n_rem, n_lt, n_le, n_eq, n_cl, n_and, n_or, n_xor, m1_lt, lt_m1, m1_eq, eq_m1, le_m1, m1_le, m2_eq, up_eq, up_ne, n_shl, n_shr, b2_some, let_e, ob_some, bI_0, bI_a, bI_t, bI_f, if_true, if_false, ite_true, ite_false, true_and, and_true, false_and, and_false, true_or, or_true, false_or, or_false, not_true_eq_false, not_false_eq_true, ite_not, ne_eq, Bool.true_eq_false, Bool.false_eq_true, reduceCtorEq, decide_true, decide_false, Bool.and_true, Bool.and_false, Bool.true_and, Bool.false_and, Bool.or_true, Bool.or_false, Bool.not_true, Bool.not_false, Nat.add_zero, Nat.zero_add, eq_self, Nat.not_lt_zero, Nat.reduceAdd, Nat.reduceMul, Nat.reduceSub, Nat.reduceDiv, Nat.reduceMod, Nat.reduceAnd, Nat.reduceXor, Nat.reduceEqDiff, Nat.reducePow, lt_T, lt_F, le_T, le_F, eq_F, y1, om_s, o2]
          · unfold qX12_holes qX12_findHoles
            simp (disch := omega) only [↓reduceIte, ↓q_m1, ↓q_m2, k_o, k_0, k_1, k_2, k_3, k_4, k_5, k_6, k_7, k_8, k_9, k_10, k_11, k_16, k_17, k_19, k_20, k_24, k_26, k_27, k_30, k_32, k_33, k_35, k_40, k_43, k_48, k_50, k_57, k_60, k_64, k_81, k_86, k_34, k_66, k_322, k_97, k_99, k_100, k_122, k_128, k_160, k_161, k_255, k_256, k_512, k_580, k_600, k_1000, k_4096, k_far, k_o, nI_add, n_mul, n_sub, n_div, n_rem, n_lt, n_le, n_eq, n_cl, n_and, n_or, n_xor, m1_lt, lt_m1, m1_eq, eq_m1, le_m1, m1_le, m2_eq, up_eq, up_ne, n_shl, n_shr, b2_some, let_e, ob_some, bI_0, bI_a, bI_t, bI_f, if_true, if_false, ite_true, ite_false, true_and, and_true, false_and, and_false, true_or, or_true, false_or, or_false, not_true_eq_false, not_false_eq_true, ite_not, ne_eq, Bool.true_eq_false, Bool.false_eq_true, reduceCtorEq, decide_true, decide_false, Bool.and_true, Bool.and_false, Bool.true_and, Bool.false_and, Bool.or_true, Bool.or_false, Bool.not_true, Bool.not_false, Nat.add_zero, Nat.zero_add, eq_self, Nat.not_lt_zero, Nat.reduceAdd, Nat.reduceMul, Nat.reduceSub, Nat.reduceDiv, Nat.reduceMod, Nat.reduceAnd, Nat.reduceXor, Nat.reduceEqDiff, Nat.reducePow, lt_T, lt_F, le_T, le_F, eq_F, w1, m_in, p1]
            exact o1
