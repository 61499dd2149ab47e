/-! A SEASON: what a DEED does to the class's BASKET and to the reference's. -/
abbrev qσ : Type := qB × Int32 × Int32 × Int32
def SC (σ : qσ) (h : qm_H) : Prop := bC 45 σ.1 h ∧ qZb 48 h ∧ h.1 44 1 = σ.2.1 ∧ h.1 44 2 = σ.2.2.1 ∧ h.1 44 3 = σ.2.2.2
def SM (σ : qσ) (h : qm_H) : Prop := bM σ.1 h ∧ h.1 77 0 = σ.2.1 ∧ h.1 77 1 = σ.2.2.1 ∧ h.1 77 2 = σ.2.2.2
def FCa (a k : Nat) : Prop := (a = 44 ∧ 1 ≤ k ∧ k ≤ 3) ∨ (45 ≤ a ∧ a ≤ 48)
def FMa (a k : Nat) : Prop := (a = 62 ∧ k = 28) ∨ (74 ≤ a ∧ a ≤ 77)
theorem bM.mv1 {β : qB} {h : qm_H} (M : bM β h) {k : Nat} {x : Int32} : bM β (qm_seti h 77 k x) := M.mv (fun q _ _ => sI_ne (by omega)) (fun a q _ _ => sI_ne (by omega))
theorem bC.mv44 {β : qB} {h : qm_H} (C : bC 45 β h) {k : Nat} {x : Int32} : bC 45 β (qm_seti h 44 k x) := C.mv (fun a q _ _ => sI_ne (by omega)) rfl
theorem qZb.mv44 {h : qm_H} (Z : qZb 48 h) {k : Nat} {x : Int32} : qZb 48 (qm_seti h 44 k x) := fun c hc => by
  rw [sI_ne (by omega), sI_ne (by omega)]
  exact Z c hc
/-- a rectangle opened -/
def bOp (β : qB) (c w hh : Nat) : qB := (bw β, bh β, bx β, bT β, bR β, fun r q => bO β r q || decide (c / bw β ≤ r ∧ r < c / bw β + hh ∧ c % bw β ≤ q ∧ q < c % bw β + w))
theorem bOp_ok {β : qB} (k : bOK β) {c w hh : Nat} (hp : plP (bw β) (bh β) w hh c = true) : bOK (bOp β c w hh) := by
  have hp' : c % bw β + w ≤ bw β ∧ c / bw β + hh ≤ bh β := of_decide_eq_true hp
  refine ⟨k.1, k.2.1, k.2.2.1, k.2.2.2.1, k.2.2.2.2.1, k.2.2.2.2.2.1, fun r q e => ?_⟩
  have e' : (bO β r q || decide (c / bw β ≤ r ∧ r < c / bw β + hh ∧ c % bw β ≤ q ∧ q < c % bw β + w)) = true := e
  rw [Bool.or_eq_true] at e'
  rcases e' with e' | e'
  · exact k.2.2.2.2.2.2 r q e'
  · have := of_decide_eq_true e'
    constructor
    · show r < bh β
      omega
    · show q < bw β
      omega
theorem rowB_eq {f : Nat → Bool} {v : Nat} (hv : v < 256) (H : ∀ k, k < 8 → v.testBit k = f k) : v = rowB f := by
  apply Nat.eq_of_testBit_eq
  intro k
  by_cases q : k < 8
  · rw [H k q, rowB_bit f q]
  · have h1 : v < 2 ^ k := Nat.lt_of_lt_of_le hv (Nat.pow_le_pow_right (n := 2) (by omega) (show 8 ≤ k by omega))
    have h2 : rowB f < 2 ^ k := Nat.lt_of_lt_of_le (rowB_lt f) (Nat.pow_le_pow_right (n := 2) (by omega) (show 8 ≤ k by omega))
    rw [Nat.testBit_lt_two_pow h1, Nat.testBit_lt_two_pow h2]
theorem rowB_or (f g : Nat → Bool) : rowB f ||| rowB g = rowB (fun c => f c || g c) := by
  apply rowB_eq (Nat.or_lt_two_pow (n := 8) (rowB_lt f) (rowB_lt g))
  intro k hk
  rw [Nat.testBit_or, rowB_bit f hk, rowB_bit g hk]
theorem row_blk : ∀ w, w ≤ 8 → ∀ c, c < 8 → c + w ≤ 8 → qm_ishl (qm_ishl (nI 1) (nI w) - nI 1) (nI c) = nI (rowB (fun k => decide (c ≤ k ∧ k < c + w))) := by decide +kernel
theorem c_openR {β : qB} {b : Nat} {h : qm_H} (k : bOK β) (C : bC b β h) {c w hh : Nat} (hc : c < bw β * bh β) (hw : 1 ≤ w) (hh1 : 1 ≤ hh) (hp : plP (bw β) (bh β) w hh c = true) : ∃ h', qX0_openRectangle b (nI c) (nI w) (nI hh) h = some h' ∧ bC b (bOp β c w hh) h' ∧ qFr (fun a q => a = b ∧ q = 6) h h' ∧ ∀ a q, h'.1 a q = h.1 a q := by
  have hp' : c % bw β + w ≤ bw β ∧ c / bw β + hh ≤ bh β := of_decide_eq_true hp
  have hn := k.n
  have hW := k.W
  have hH := k.H
  have hz := Nat.zero_le (c / bw β)
  obtain ⟨B, e1, e2⟩ := c_block (r := c / bw β) (c := c % bw β) (w := w) (hh := hh) (by omega) (by omega) (by omega) (by omega) h
  refine ⟨qm_setl h b 6 (h.2 b 6 ||| B), ?_, ?_, qFr.setl ⟨rfl, rfl⟩, fun _ _ => rfl⟩
  · unfold qX0_openRectangle
    rw [c_rowOf k C (by omega), b2_some, c_columnOf k C (by omega), b2_some, e1, b2_some, let_e]
  · obtain ⟨a1, a2, a3, a4, a5⟩ := C
    refine ⟨a1, a2, a3, a4, fun r q hr hq => ?_⟩
    show lb (qm_up h.2 b 6 (h.2 b 6 ||| B) b 6) (8 * r + q) = (bO β r q || decide (c / bw β ≤ r ∧ r < c / bw β + hh ∧ c % bw β ≤ q ∧ q < c % bw β + w))
    rw [up_eq, lb_or, a5 r q hr hq, e2 _ (by omega)]
    unfold blB
    rw [show (8 * r + q) / 8 = r by omega, show (8 * r + q) % 8 = q by omega]
theorem m_comes65 {β : qB} {h : qm_H} (k : bOK β) (M : bM β h) {c w hh : Nat} (hc : c < bw β * bh β) (hw : 1 ≤ w) (hh1 : 1 ≤ hh) (hp : plP (bw β) (bh β) w hh c = true) : ∀ d i h1 fuel, i + d = hh → d < fuel → qFr (fun a q => a = 76 ∧ c / bw β ≤ q ∧ q < c / bw β + hh) h h1 → (∀ r, r < i → h1.1 76 (c / bw β + r) = nI (rowB (bO (bOp β c w hh) (c / bw β + r)))) → (∀ r, i ≤ r → r < hh → h1.1 76 (c / bw β + r) = nI (rowB (bO β (c / bw β + r)))) → ∃ h2, qX12_comes_65 fuel 62 (nI w) (nI hh) (nI c) (nI i) h1 = some (nI 1, qm_seti h2 77 1 (h.1 77 1 + nI 1)) ∧ bM (bOp β c w hh) h2 ∧ qFr (fun a q => a = 76 ∧ c / bw β ≤ q ∧ q < c / bw β + hh) h h2 := by
  have hp' : c % bw β + w ≤ bw β ∧ c / bw β + hh ≤ bh β := of_decide_eq_true hp
  have hn := k.n
  have hW := k.W
  have hH := k.H
  have hz := Nat.zero_le (c / bw β)
  intro d
  induction d with
  | zero =>
    intro i h1 fuel hi hf F I J
    obtain ⟨g, rfl⟩ : ∃ g, fuel = g + 1 := ⟨fuel - 1, by omega⟩
    have e77 : h1.1 77 1 = h.1 77 1 := (F 77 1 (by omega)).1
    refine ⟨h1, ?_, ?_, F⟩
    · unfold qX12_comes_65
      simp (disch := omega) only [↓reduceIte, ↓q_m1, ↓q_m2, k_o, k_0, k_1, k_2, k_3, k_4, k_5, k_6, k_7, k_8, k_9, k_10, k_11, k_16, k_17, k_19, k_20, k_24, k_26, k_27, k_30, k_32, k_33, k_35, k_40, k_43, k_48, k_50, k_57, k_60, k_64, k_81, k_86, k_34, k_66, k_322, k_97, k_99, k_100, k_122, k_128, k_160, k_161, k_255, k_256, k_512, k_580, k_600, k_1000, k_4096, k_far, k_o, nI_add, n_mul, n_sub, n_div, n_rem, n_lt, n_le, n_eq, n_cl, n_and, n_or, n_xor, m1_lt, lt_m1, m1_eq, eq_m1, le_m1, m1_le, m2_eq, up_eq, up_ne, n_shl, n_shr, b2_some, let_e, ob_some, bI_0, bI_a, bI_t, bI_f, if_true, if_false, ite_true, ite_false, true_and, and_true, false_and, and_false, true_or, or_true, false_or, or_false, not_true_eq_false, not_false_eq_true, ite_not, ne_eq, Bool.true_eq_false, Bool.false_eq_true, reduceCtorEq, decide_true, decide_false, Bool.and_true, Bool.and_false, Bool.true_and, Bool.false_and, Bool.or_true, Bool.or_false, Bool.not_true, Bool.not_false, Nat.add_zero, Nat.zero_add, eq_self, Nat.not_lt_zero, Nat.reduceAdd, Nat.reduceMul, Nat.reduceSub, Nat.reduceDiv, Nat.reduceMod, Nat.reduceAnd, Nat.reduceXor, Nat.reduceEqDiff, Nat.reducePow, lt_T, lt_F, le_T, le_F, eq_F, e77]
    · obtain ⟨a1, a2, a3, a4, a5, a6⟩ := M
      refine ⟨?_, ?_, ?_, ?_, fun i hi => ⟨?_, ?_⟩, fun r hr => ?_⟩
      · rw [(F _ _ (by omega)).1]; exact a1
      · rw [(F _ _ (by omega)).1]; exact a2
      · rw [(F _ _ (by omega)).1]; exact a3
      · rw [(F _ _ (by omega)).1]; exact a4
      · rw [(F _ _ (by omega)).1]; exact (a5 i hi).1
      · rw [(F _ _ (by omega)).1]; exact (a5 i hi).2
      · by_cases z : c / bw β ≤ r ∧ r < c / bw β + hh
        · have := I (r - c / bw β) (by omega)
          rw [show c / bw β + (r - c / bw β) = r by omega] at this
          exact this
        · rw [(F _ _ (by omega)).1, a6 r hr]
          congr 2
          funext q
          show bO β r q = (bO β r q || decide (c / bw β ≤ r ∧ r < c / bw β + hh ∧ c % bw β ≤ q ∧ q < c % bw β + w))
          rw [decide_eq_false (fun y => z ⟨y.1, y.2.1⟩), Bool.or_false]
  | succ d ih =>
    intro i h1 fuel hi hf F I J
    obtain ⟨g, rfl⟩ : ∃ g, fuel = g + 1 := ⟨fuel - 1, by omega⟩
    have e25 : h1.1 62 25 = nI (bw β) := by rw [(F _ _ (by omega)).1]; exact M.1
    have ei := J i (by omega) (by omega)
    have hrow : rowB (bO β (c / bw β + i)) ||| rowB (fun k => decide (c % bw β ≤ k ∧ k < c % bw β + w)) = rowB (bO (bOp β c w hh) (c / bw β + i)) := by
      rw [rowB_or]
      congr 1
      funext q
      show _ = (bO β (c / bw β + i) q || decide (c / bw β ≤ c / bw β + i ∧ c / bw β + i < c / bw β + hh ∧ c % bw β ≤ q ∧ q < c % bw β + w))
      congr 1
      exact decide_eq_decide.mpr ⟨fun y => by omega, fun y => by omega⟩
    obtain ⟨h2, e1, e2, e3⟩ := ih (i + 1) (qm_seti h1 76 (c / bw β + i) (nI (rowB (bO (bOp β c w hh) (c / bw β + i))))) g (by omega) (by omega) (F.trans (qFr.seti ⟨rfl, by omega, by omega⟩)) (fun r hr => by
      by_cases z : r = i
      · subst z
        exact sI_eq _ _ _ _
      · rw [sI_ne (by omega)]
        exact I r (by omega)) (fun r hr1 hr2 => by
      rw [sI_ne (by omega)]
      exact J r (by omega) hr2)
    refine ⟨h2, ?_, e2, e3⟩
    unfold qX12_comes_65
    simp (disch := omega) only [↓reduceIte, ↓q_m1, ↓q_m2, k_o, k_0, k_1, k_2, k_3, k_4, k_5, k_6, k_7, k_8, k_9, k_10, k_11, k_16, k_17, k_19, k_20, k_24, k_26, k_27, k_30, k_32, k_33, k_35, k_40, k_43, k_48, k_50, k_57, k_60, k_64, k_81, k_86, k_34, k_66, k_322, k_97, k_99, k_100, k_122, k_128, k_160, k_161, k_255, k_256, k_512, k_580, k_600, k_1000, k_4096, k_far, k_o, nI_add, n_mul, n_sub, n_div, n_rem, n_lt, n_le, n_eq, n_cl, n_and, n_or, n_xor, m1_lt, lt_m1, m1_eq, eq_m1, le_m1, m1_le, m2_eq, up_eq, up_ne, n_shl, n_shr, b2_some, let_e, ob_some, bI_0, bI_a, bI_t, bI_f, if_true, if_false, ite_true, ite_false, true_and, and_true, false_and, and_false, true_or, or_true, false_or, or_false, not_true_eq_false, not_false_eq_true, ite_not, ne_eq, Bool.true_eq_false, Bool.false_eq_true, reduceCtorEq, decide_true, decide_false, Bool.and_true, Bool.and_false, Bool.true_and, Bool.false_and, Bool.or_true, Bool.or_false, Bool.not_true, Bool.not_false, Nat.add_zero, Nat.zero_add, eq_self, Nat.not_lt_zero, Nat.reduceAdd, Nat.reduceMul, Nat.reduceSub, Nat.reduceDiv, Nat.reduceMod, Nat.reduceAnd, Nat.reduceXor, Nat.reduceEqDiff, Nat.reducePow, lt_T, lt_F, le_T, le_F, eq_F, e25, ei, row_blk w (by omega) (c % bw β) (by omega) (by omega), hrow]
    exact e1
theorem z_strike {σ : qσ} (k : bOK σ.1) {w hh f : Nat} (hw : 1 ≤ w) (hw2 : w ≤ 8) (hh1 : 1 ≤ hh) (hh2 : hh ≤ 8) (hf : f ≤ 1000) : ∃ σ' : qσ, bOK σ'.1 ∧ (∀ h, SC σ h → ∃ h', qX6_strike 44 (nI w) (nI hh) (nI f) h = some h' ∧ SC σ' h' ∧ qFr FCa h h') ∧ ∀ h, SM σ h → ∃ h', qX12_comes 62 (nI w) (nI hh) (nI f) h = some (nI 1, h') ∧ SM σ' h' ∧ qFr FMa h h' := by
  obtain ⟨β, c0, c1, c2⟩ := σ
  have k : bOK β := k
  have hn := k.n
  cases q1 : gap (bw β) (bh β) (bO β) w hh with
  | some c =>
    have hc := (gap_lt q1).1
    refine ⟨(β, c0 + nI 1, c1, c2), k, fun h S => ?_, fun h S => ?_⟩
    · obtain ⟨C, Z, s1, s2, s3⟩ := S
      have C : bC 45 β h := C
      refine ⟨qm_seti h 44 1 (c0 + nI 1), ?_, ⟨C.mv44, Z.mv44, sI_eq _ _ _ _, ?_, ?_⟩, qFr.seti (Or.inl ⟨rfl, by omega, by omega⟩)⟩
      · have s1 : h.1 44 1 = c0 := s1
        unfold qX6_strike
        simp (disch := omega) only [↓reduceIte, ↓q_m1, ↓q_m2, k_o, k_0, k_1, k_2, k_3, k_4, k_5, k_6, k_7, k_8, k_9, k_10, k_11, k_16, k_17, k_19, k_20, k_24, k_26, k_27, k_30, k_32, k_33, k_35, k_40, k_43, k_48, k_50, k_57, k_60, k_64, k_81, k_86, k_34, k_66, k_322, k_97, k_99, k_100, k_122, k_128, k_160, k_161, k_255, k_256, k_512, k_580, k_600, k_1000, k_4096, k_far, k_o, nI_add, n_mul, n_sub, n_div, n_rem, n_lt, n_le, n_eq, n_cl, n_and, n_or, n_xor, m1_lt, lt_m1, m1_eq, eq_m1, le_m1, m1_le, m2_eq, up_eq, up_ne, n_shl, n_shr, b2_some, let_e, ob_some, bI_0, bI_a, bI_t, bI_f, if_true, if_false, ite_true, ite_false, true_and, and_true, false_and, and_false, true_or, or_true, false_or, or_false, not_true_eq_false, not_false_eq_true, ite_not, ne_eq, Bool.true_eq_false, Bool.false_eq_true, reduceCtorEq, decide_true, decide_false, Bool.and_true, Bool.and_false, Bool.true_and, Bool.false_and, Bool.or_true, Bool.or_false, Bool.not_true, Bool.not_false, Nat.add_zero, Nat.zero_add, eq_self, Nat.not_lt_zero, Nat.reduceAdd, Nat.reduceMul, Nat.reduceSub, Nat.reduceDiv, Nat.reduceMod, Nat.reduceAnd, Nat.reduceXor, Nat.reduceEqDiff, Nat.reducePow, lt_T, lt_F, le_T, le_F, eq_F, c_gapFor k C hw hw2 hh1 hh2, q1, oI_s, s1]
      · rw [sI_ne (by omega)]; exact s2
      · rw [sI_ne (by omega)]; exact s3
    · obtain ⟨M, s1, s2, s3⟩ := S
      have M : bM β h := M
      refine ⟨qm_seti h 77 0 (c0 + nI 1), ?_, ⟨M.mv1, sI_eq _ _ _ _, ?_, ?_⟩, qFr.seti (Or.inr (by omega))⟩
      · have s1 : h.1 77 0 = c0 := s1
        unfold qX12_comes
        simp (disch := omega) only [↓reduceIte, ↓q_m1, ↓q_m2, k_o, k_0, k_1, k_2, k_3, k_4, k_5, k_6, k_7, k_8, k_9, k_10, k_11, k_16, k_17, k_19, k_20, k_24, k_26, k_27, k_30, k_32, k_33, k_35, k_40, k_43, k_48, k_50, k_57, k_60, k_64, k_81, k_86, k_34, k_66, k_322, k_97, k_99, k_100, k_122, k_128, k_160, k_161, k_255, k_256, k_512, k_580, k_600, k_1000, k_4096, k_far, k_o, nI_add, n_mul, n_sub, n_div, n_rem, n_lt, n_le, n_eq, n_cl, n_and, n_or, n_xor, m1_lt, lt_m1, m1_eq, eq_m1, le_m1, m1_le, m2_eq, up_eq, up_ne, n_shl, n_shr, b2_some, let_e, ob_some, bI_0, bI_a, bI_t, bI_f, if_true, if_false, ite_true, ite_false, true_and, and_true, false_and, and_false, true_or, or_true, false_or, or_false, not_true_eq_false, not_false_eq_true, ite_not, ne_eq, Bool.true_eq_false, Bool.false_eq_true, reduceCtorEq, decide_true, decide_false, Bool.and_true, Bool.and_false, Bool.true_and, Bool.false_and, Bool.or_true, Bool.or_false, Bool.not_true, Bool.not_false, Nat.add_zero, Nat.zero_add, eq_self, Nat.not_lt_zero, Nat.reduceAdd, Nat.reduceMul, Nat.reduceSub, Nat.reduceDiv, Nat.reduceMod, Nat.reduceAnd, Nat.reduceXor, Nat.reduceEqDiff, Nat.reducePow, lt_T, lt_F, le_T, le_F, eq_F, m_slipsBy k M hw hw2 hh2, q1, oI_s, s1]
      · rw [sI_ne (by omega)]; exact s2
      · rw [sI_ne (by omega)]; exact s3
  | none =>
    cases q2 : weak β 0 w hh with
    | none =>
      refine ⟨(β, c0, c1, c2 + nI 1), k, fun h S => ?_, fun h S => ?_⟩
      · obtain ⟨C, Z, s1, s2, s3⟩ := S
        have C : bC 45 β h := C
        obtain ⟨h2, o1, o2, o3⟩ := c_softest k C Z hw hw2 hh1 hh2
        refine ⟨qm_seti h2 44 3 (c2 + nI 1), ?_, ⟨(C.fr o2).mv44, qZb.mv44 o3, ?_, ?_, sI_eq _ _ _ _⟩, (o2.mono (fun a q z => by unfold FCa; omega)).trans (qFr.seti (Or.inl ⟨rfl, by omega, by omega⟩))⟩
        · have s3 : h2.1 44 3 = c2 := by rw [(o2 _ _ (by omega)).1]; exact s3
          unfold qX6_strike
          simp (disch := omega) only [↓reduceIte, ↓q_m1, ↓q_m2, k_o, k_0, k_1, k_2, k_3, k_4, k_5, k_6, k_7, k_8, k_9, k_10, k_11, k_16, k_17, k_19, k_20, k_24, k_26, k_27, k_30, k_32, k_33, k_35, k_40, k_43, k_48, k_50, k_57, k_60, k_64, k_81, k_86, k_34, k_66, k_322, k_97, k_99, k_100, k_122, k_128, k_160, k_161, k_255, k_256, k_512, k_580, k_600, k_1000, k_4096, k_far, k_o, nI_add, n_mul, n_sub, n_div, n_rem, n_lt, n_le, n_eq, n_cl, n_and, n_or, n_xor, m1_lt, lt_m1, m1_eq, eq_m1, le_m1, m1_le, m2_eq, up_eq, up_ne, n_shl, n_shr, b2_some, let_e, ob_some, bI_0, bI_a, bI_t, bI_f, if_true, if_false, ite_true, ite_false, true_and, and_true, false_and, and_false, true_or, or_true, false_or, or_false, not_true_eq_false, not_false_eq_true, ite_not, ne_eq, Bool.true_eq_false, Bool.false_eq_true, reduceCtorEq, decide_true, decide_false, Bool.and_true, Bool.and_false, Bool.true_and, Bool.false_and, Bool.or_true, Bool.or_false, Bool.not_true, Bool.not_false, Nat.add_zero, Nat.zero_add, eq_self, Nat.not_lt_zero, Nat.reduceAdd, Nat.reduceMul, Nat.reduceSub, Nat.reduceDiv, Nat.reduceMod, Nat.reduceAnd, Nat.reduceXor, Nat.reduceEqDiff, Nat.reducePow, lt_T, lt_F, le_T, le_F, eq_F, c_gapFor k C hw hw2 hh1 hh2, q1, oI_n, o1, q2, s3]
        · rw [sI_ne (by omega), (o2 _ _ (by omega)).1]; exact s1
        · rw [sI_ne (by omega), (o2 _ _ (by omega)).1]; exact s2
      · obtain ⟨M, s1, s2, s3⟩ := S
        have M : bM β h := M
        refine ⟨qm_seti h 77 2 (c2 + nI 1), ?_, ⟨M.mv1, ?_, ?_, sI_eq _ _ _ _⟩, qFr.seti (Or.inr (by omega))⟩
        · have s3 : h.1 77 2 = c2 := s3
          unfold qX12_comes
          simp (disch := omega) only [↓reduceIte, ↓q_m1, ↓q_m2, k_o, k_0, k_1, k_2, k_3, k_4, k_5, k_6, k_7, k_8, k_9, k_10, k_11, k_16, k_17, k_19, k_20, k_24, k_26, k_27, k_30, k_32, k_33, k_35, k_40, k_43, k_48, k_50, k_57, k_60, k_64, k_81, k_86, k_34, k_66, k_322, k_97, k_99, k_100, k_122, k_128, k_160, k_161, k_255, k_256, k_512, k_580, k_600, k_1000, k_4096, k_far, k_o, nI_add, n_mul, n_sub, n_div, n_rem, n_lt, n_le, n_eq, n_cl, n_and, n_or, n_xor, m1_lt, lt_m1, m1_eq, eq_m1, le_m1, m1_le, m2_eq, up_eq, up_ne, n_shl, n_shr, b2_some, let_e, ob_some, bI_0, bI_a, bI_t, bI_f, if_true, if_false, ite_true, ite_false, true_and, and_true, false_and, and_false, true_or, or_true, false_or, or_false, not_true_eq_false, not_false_eq_true, ite_not, ne_eq, Bool.true_eq_false, Bool.false_eq_true, reduceCtorEq, decide_true, decide_false, Bool.and_true, Bool.and_false, Bool.true_and, Bool.false_and, Bool.or_true, Bool.or_false, Bool.not_true, Bool.not_false, Nat.add_zero, Nat.zero_add, eq_self, Nat.not_lt_zero, Nat.reduceAdd, Nat.reduceMul, Nat.reduceSub, Nat.reduceDiv, Nat.reduceMod, Nat.reduceAnd, Nat.reduceXor, Nat.reduceEqDiff, Nat.reducePow, lt_T, lt_F, le_T, le_F, eq_F, m_slipsBy k M hw hw2 hh2, q1, oI_n, m_weakest k M (f := 0) (by omega) hw hw2 hh2, q2, s3]
        · rw [sI_ne (by omega)]; exact s1
        · rw [sI_ne (by omega)]; exact s2
    | some c =>
      have hc := weak_some q2
      have hb := rs_le18 k (f := 0) hc.2
      by_cases q3 : rs (hg β 0) (c / bw β) (c % bw β) w hh < f
      · refine ⟨(bOp β c w hh, c0, c1 + nI 1, c2), bOp_ok k hc.2, fun h S => ?_, fun h S => ?_⟩
        · obtain ⟨C, Z, s1, s2, s3⟩ := S
          have C : bC 45 β h := C
          obtain ⟨h2, o1, o2, o3⟩ := c_softest k C Z hw hw2 hh1 hh2
          obtain ⟨h3, p1, p2, p3, p4⟩ := c_openR k (C.fr o2) hc.1 hw hh1 hc.2
          refine ⟨qm_seti h3 44 2 (c1 + nI 1), ?_, ⟨bC.mv44 p2, ?_, ?_, sI_eq _ _ _ _, ?_⟩, ((o2.mono (fun a q z => by unfold FCa; omega)).trans (p3.mono (fun a q z => by unfold FCa; omega))).trans (qFr.seti (Or.inl ⟨rfl, by omega, by omega⟩))⟩
          · have s2 : h3.1 44 2 = c1 := by rw [p4, (o2 _ _ (by omega)).1]; exact s2
            unfold qX6_strike
            simp (disch := omega) only [↓reduceIte, ↓q_m1, ↓q_m2, k_o, k_0, k_1, k_2, k_3, k_4, k_5, k_6, k_7, k_8, k_9, k_10, k_11, k_16, k_17, k_19, k_20, k_24, k_26, k_27, k_30, k_32, k_33, k_35, k_40, k_43, k_48, k_50, k_57, k_60, k_64, k_81, k_86, k_34, k_66, k_322, k_97, k_99, k_100, k_122, k_128, k_160, k_161, k_255, k_256, k_512, k_580, k_600, k_1000, k_4096, k_far, k_o, nI_add, n_mul, n_sub, n_div, n_rem, n_lt, n_le, n_eq, n_cl, n_and, n_or, n_xor, m1_lt, lt_m1, m1_eq, eq_m1, le_m1, m1_le, m2_eq, up_eq, up_ne, n_shl, n_shr, b2_some, let_e, ob_some, bI_0, bI_a, bI_t, bI_f, if_true, if_false, ite_true, ite_false, true_and, and_true, false_and, and_false, true_or, or_true, false_or, or_false, not_true_eq_false, not_false_eq_true, ite_not, ne_eq, Bool.true_eq_false, Bool.false_eq_true, reduceCtorEq, decide_true, decide_false, Bool.and_true, Bool.and_false, Bool.true_and, Bool.false_and, Bool.or_true, Bool.or_false, Bool.not_true, Bool.not_false, Nat.add_zero, Nat.zero_add, eq_self, Nat.not_lt_zero, Nat.reduceAdd, Nat.reduceMul, Nat.reduceSub, Nat.reduceDiv, Nat.reduceMod, Nat.reduceAnd, Nat.reduceXor, Nat.reduceEqDiff, Nat.reducePow, lt_T, lt_F, le_T, le_F, eq_F, c_gapFor k C hw hw2 hh1 hh2, q1, oI_n, o1, q2, oI_s, c_sR k (C.fr o2) hc.1 hc.2, p1, s2]
          · intro j hj
            rw [sI_ne (by omega), sI_ne (by omega), p4, p4]
            exact o3 j hj
          · rw [sI_ne (by omega), p4, (o2 _ _ (by omega)).1]; exact s1
          · rw [sI_ne (by omega), p4, (o2 _ _ (by omega)).1]; exact s3
        · obtain ⟨M, s1, s2, s3⟩ := S
          have M : bM β h := M
          have hp' : c % bw β + w ≤ bw β ∧ c / bw β + hh ≤ bh β := of_decide_eq_true hc.2
          have hH := k.H
          have hz := Nat.zero_le (c / bw β)
          obtain ⟨h2, p1, p2, p3⟩ := m_comes65 k M hc.1 hw hh1 hc.2 hh 0 h qm_N (by omega) (by unfold qm_N; omega) (qFr.refl _ _) (fun r hr => absurd hr (Nat.not_lt_zero r)) (fun r _ hr => M.2.2.2.2.2 _ (by omega))
          refine ⟨qm_seti h2 77 1 (h.1 77 1 + nI 1), ?_, ⟨bM.mv1 p2, ?_, ?_, ?_⟩, (p3.mono (fun a q z => by unfold FMa; omega)).trans (qFr.seti (Or.inr (by omega)))⟩
          · unfold qX12_comes
            simp (disch := omega) only [↓reduceIte, ↓q_m1, ↓q_m2, k_o, k_0, k_1, k_2, k_3, k_4, k_5, k_6, k_7, k_8, k_9, k_10, k_11, k_16, k_17, k_19, k_20, k_24, k_26, k_27, k_30, k_32, k_33, k_35, k_40, k_43, k_48, k_50, k_57, k_60, k_64, k_81, k_86, k_34, k_66, k_322, k_97, k_99, k_100, k_122, k_128, k_160, k_161, k_255, k_256, k_512, k_580, k_600, k_1000, k_4096, k_far, k_o, nI_add, n_mul, n_sub, n_div, n_rem, n_lt, n_le, n_eq, n_cl, n_and, n_or, n_xor, m1_lt, lt_m1, m1_eq, eq_m1, le_m1, m1_le, m2_eq, up_eq, up_ne, n_shl, n_shr, b2_some, let_e, ob_some, bI_0, bI_a, bI_t, bI_f, if_true, if_false, ite_true, ite_false, true_and, and_true, false_and, and_false, true_or, or_true, false_or, or_false, not_true_eq_false, not_false_eq_true, ite_not, ne_eq, Bool.true_eq_false, Bool.false_eq_true, reduceCtorEq, decide_true, decide_false, Bool.and_true, Bool.and_false, Bool.true_and, Bool.false_and, Bool.or_true, Bool.or_false, Bool.not_true, Bool.not_false, Nat.add_zero, Nat.zero_add, eq_self, Nat.not_lt_zero, Nat.reduceAdd, Nat.reduceMul, Nat.reduceSub, Nat.reduceDiv, Nat.reduceMod, Nat.reduceAnd, Nat.reduceXor, Nat.reduceEqDiff, Nat.reducePow, lt_T, lt_F, le_T, le_F, eq_F, m_slipsBy k M hw hw2 hh2, q1, oI_n, m_weakest k M (f := 0) (by omega) hw hw2 hh2, q2, oI_s, m_holdsAt k M hc.1 (f := 0) (by omega) hw hc.2, p1]
          · rw [sI_ne (by omega), (p3 _ _ (by omega)).1]; exact s1
          · rw [sI_eq, show h.1 77 1 = c1 from s2]
          · rw [sI_ne (by omega), (p3 _ _ (by omega)).1]; exact s3
      · refine ⟨(β, c0, c1, c2 + nI 1), k, fun h S => ?_, fun h S => ?_⟩
        · obtain ⟨C, Z, s1, s2, s3⟩ := S
          have C : bC 45 β h := C
          obtain ⟨h2, o1, o2, o3⟩ := c_softest k C Z hw hw2 hh1 hh2
          refine ⟨qm_seti h2 44 3 (c2 + nI 1), ?_, ⟨(C.fr o2).mv44, qZb.mv44 o3, ?_, ?_, sI_eq _ _ _ _⟩, (o2.mono (fun a q z => by unfold FCa; omega)).trans (qFr.seti (Or.inl ⟨rfl, by omega, by omega⟩))⟩
          · have s3 : h2.1 44 3 = c2 := by rw [(o2 _ _ (by omega)).1]; exact s3
            unfold qX6_strike
            simp (disch := omega) only [↓reduceIte, ↓q_m1, ↓q_m2, k_o, k_0, k_1, k_2, k_3, k_4, k_5, k_6, k_7, k_8, k_9, k_10, k_11, k_16, k_17, k_19, k_20, k_24, k_26, k_27, k_30, k_32, k_33, k_35, k_40, k_43, k_48, k_50, k_57, k_60, k_64, k_81, k_86, k_34, k_66, k_322, k_97, k_99, k_100, k_122, k_128, k_160, k_161, k_255, k_256, k_512, k_580, k_600, k_1000, k_4096, k_far, k_o, nI_add, n_mul, n_sub, n_div, n_rem, n_lt, n_le, n_eq, n_cl, n_and, n_or, n_xor, m1_lt, lt_m1, m1_eq, eq_m1, le_m1, m1_le, m2_eq, up_eq, up_ne, n_shl, n_shr, b2_some, let_e, ob_some, bI_0, bI_a, bI_t, bI_f, if_true, if_false, ite_true, ite_false, true_and, and_true, false_and, and_false, true_or, or_true, false_or, or_false, not_true_eq_false, not_false_eq_true, ite_not, ne_eq, Bool.true_eq_false, Bool.false_eq_true, reduceCtorEq, decide_true, decide_false, Bool.and_true, Bool.and_false, Bool.true_and, Bool.false_and, Bool.or_true, Bool.or_false, Bool.not_true, Bool.not_false, Nat.add_zero, Nat.zero_add, eq_self, Nat.not_lt_zero, Nat.reduceAdd, Nat.reduceMul, Nat.reduceSub, Nat.reduceDiv, Nat.reduceMod, Nat.reduceAnd, Nat.reduceXor, Nat.reduceEqDiff, Nat.reducePow, lt_T, lt_F, le_T, le_F, eq_F, c_gapFor k C hw hw2 hh1 hh2, q1, oI_n, o1, q2, oI_s, c_sR k (C.fr o2) hc.1 hc.2, s3]
          · rw [sI_ne (by omega), (o2 _ _ (by omega)).1]; exact s1
          · rw [sI_ne (by omega), (o2 _ _ (by omega)).1]; exact s2
        · obtain ⟨M, s1, s2, s3⟩ := S
          have M : bM β h := M
          refine ⟨qm_seti h 77 2 (c2 + nI 1), ?_, ⟨M.mv1, ?_, ?_, sI_eq _ _ _ _⟩, qFr.seti (Or.inr (by omega))⟩
          · have s3 : h.1 77 2 = c2 := s3
            unfold qX12_comes
            simp (disch := omega) only [↓reduceIte, ↓q_m1, ↓q_m2, k_o, k_0, k_1, k_2, k_3, k_4, k_5, k_6, k_7, k_8, k_9, k_10, k_11, k_16, k_17, k_19, k_20, k_24, k_26, k_27, k_30, k_32, k_33, k_35, k_40, k_43, k_48, k_50, k_57, k_60, k_64, k_81, k_86, k_34, k_66, k_322, k_97, k_99, k_100, k_122, k_128, k_160, k_161, k_255, k_256, k_512, k_580, k_600, k_1000, k_4096, k_far, k_o, nI_add, n_mul, n_sub, n_div, n_rem, n_lt, n_le, n_eq, n_cl, n_and, n_or, n_xor, m1_lt, lt_m1, m1_eq, eq_m1, le_m1, m1_le, m2_eq, up_eq, up_ne, n_shl, n_shr, b2_some, let_e, ob_some, bI_0, bI_a, bI_t, bI_f, if_true, if_false, ite_true, ite_false, true_and, and_true, false_and, and_false, true_or, or_true, false_or, or_false, not_true_eq_false, not_false_eq_true, ite_not, ne_eq, Bool.true_eq_false, Bool.false_eq_true, reduceCtorEq, decide_true, decide_false, Bool.and_true, Bool.and_false, Bool.true_and, Bool.false_and, Bool.or_true, Bool.or_false, Bool.not_true, Bool.not_false, Nat.add_zero, Nat.zero_add, eq_self, Nat.not_lt_zero, Nat.reduceAdd, Nat.reduceMul, Nat.reduceSub, Nat.reduceDiv, Nat.reduceMod, Nat.reduceAnd, Nat.reduceXor, Nat.reduceEqDiff, Nat.reducePow, lt_T, lt_F, le_T, le_F, eq_F, m_slipsBy k M hw hw2 hh2, q1, oI_n, m_weakest k M (f := 0) (by omega) hw hw2 hh2, q2, oI_s, m_holdsAt k M hc.1 (f := 0) (by omega) hw hc.2, s3]
          · rw [sI_ne (by omega)]; exact s1
          · rw [sI_ne (by omega)]; exact s2
