/-! text: both sides read alike, sort by sort. -/
theorem fNum_g (B : Nat → Nat) {n : Nat} (lo hi : Nat) {F : fl} (h : F.1 ≤ n) : F.1 ≤ (fNum B n lo hi F).2.1 ∧ (fNum B n lo hi F).2.1 ≤ n := by
  have s1 := t_S B h
  have E1 := t_E B h
  have r1 : (fRef B n F).1 = F.1 := by unfold fRef; split <;> rfl
  have n1 : (fNote 2 (tS B n F.1) F).1 = F.1 := by unfold fNote; split <;> rfl
  unfold fNum
  split
  · show F.1 ≤ (fRef B n F).1 ∧ (fRef B n F).1 ≤ n
    omega
  · split
    · show F.1 ≤ tE B n (fNote 2 (tS B n F.1) F).1 ∧ tE B n (fNote 2 (tS B n F.1) F).1 ≤ n
      rw [n1]
      omega
    · show F.1 ≤ tE B n F.1 ∧ tE B n F.1 ≤ n
      omega
theorem fAdv_g (B : Nat → Nat) {n : Nat} {F : fl} (h : F.1 ≤ n) : F.1 ≤ (fAdv B n F).1 ∧ (fAdv B n F).1 ≤ n ∧ (fAdv B n F).1 = tE B n F.1 := by
  have s1 := t_S B h
  have E1 := t_E B h
  refine ⟨?_, E1.1, rfl⟩
  show F.1 ≤ tE B n F.1
  omega
theorem fRef_f (B : Nat → Nat) (n : Nat) (F : fl) : (fRef B n F).2.1 = 1 := by
  unfold fRef
  split
  · assumption
  · rfl
theorem hpB {B : Nat → Nat} {n : Nat} (F : fl) (d : dB) (F' : fl) (d' : dB) (h : F.1 ≤ n) (L : LnB B n F d F' d') (f1 : F'.2.1 ≠ 1) : tE B n F.1 ≤ F'.1 := by
  have a := fAdv_g B h
  rcases L with ⟨_, rfl, _⟩ | ⟨_, rfl, _⟩ | ⟨_, rfl, _⟩ | ⟨_, rfl, _⟩ | ⟨_, rfl, _⟩ | ⟨_, _, _, _, _, rfl, _⟩
  · have b := fNum_g B 2 8 a.2.1
    have c := fNum_g B 2 8 b.2
    omega
  · have b := fNum_g B 0 7 a.2.1
    have c := fNum_g B 0 7 b.2
    omega
  · have b := fNum_g B 0 7 a.2.1
    have c := fNum_g B 0 9 b.2
    have e := fNum_g B 0 9 c.2
    omega
  · have b := fNum_g B 0 7 a.2.1
    have c := fNum_g B 0 9 b.2
    have e := fNum_g B 0 9 c.2
    omega
  · omega
  · exact absurd (fRef_f B n F) f1
theorem fFull_p (B : Nat → Nat) (n m most : Nat) (F : fl) : (fFull B n m most F).1 = F.1 := by
  unfold fFull fNote
  split
  · rfl
  · split <;> rfl
theorem hpY {B : Nat → Nat} {n : Nat} (F : fl) (d : dY) (F' : fl) (d' : dY) (h : F.1 ≤ n) (L : LnY B n F d F' d') (f1 : F'.2.1 ≠ 1) : tE B n F.1 ≤ F'.1 := by
  have p := fFull_p B n d.1 40 F
  have a := fAdv_g B (F := fFull B n d.1 40 F) (by rw [p]; exact h)
  rw [p] at a
  have care : ∀ t, LnCare B n t (fAdv B n (fFull B n d.1 40 F)) d F' d' → tE B n F.1 ≤ F'.1 := fun t L => by
    have a2 := fAdv_g B a.2.1
    have b := fNum_g B 0 7 a2.2.1
    rcases L with ⟨_, rfl, _⟩ | ⟨_, rfl, _⟩ | ⟨_, _, rfl, _⟩
    · omega
    · omega
    · exact absurd (fRef_f B n _) f1
  unfold LnY LnY2 at L
  rcases L with ⟨_, rfl, _⟩ | ⟨_, L⟩ | ⟨_, L⟩ | ⟨_, rfl, _⟩ | ⟨_, rfl, _⟩ | ⟨_, rfl, _⟩ | ⟨_, rfl, _⟩ | ⟨_, _, _, _, _, _, _, rfl, _⟩
  · have b := fNum_g B 1 8 a.2.1
    have c := fNum_g B 1 8 b.2
    have e := fNum_g B 0 99 c.2
    omega
  · exact care 1 L
  · exact care 2 L
  · have b := fNum_g B 0 7 a.2.1
    have c := fNum_g B 0 7 b.2
    omega
  · omega
  · omega
  · omega
  · exact absurd (fRef_f B n _) f1
theorem hpP {B : Nat → Nat} {n : Nat} (F : fl) (d : dP) (F' : fl) (d' : dP) (h : F.1 ≤ n) (L : LnP B n F d F' d') (f1 : F'.2.1 ≠ 1) : tE B n F.1 ≤ F'.1 := by
  have a := fAdv_g B h
  rcases L with ⟨_, rfl, _⟩ | ⟨_, rfl, _⟩ | ⟨_, rfl, _⟩ | ⟨_, _, _, rfl, _⟩
  · have p := fFull_p B n d.1 6 F
    have a := fAdv_g B (F := fFull B n d.1 6 F) (by rw [p]; exact h)
    rw [p] at a
    have b := fNum_g B 1 60 a.2.1
    omega
  · have p := fFull_p B n d.2.1 8 F
    have a := fAdv_g B (F := fFull B n d.2.1 8 F) (by rw [p]; exact h)
    rw [p] at a
    have b := fNum_g B 1 60 a.2.1
    omega
  · have b := fNum_g B 1 9 a.2.1
    omega
  · exact absurd (fRef_f B n F) f1
theorem hpK {B : Nat → Nat} {n : Nat} (F : fl) (d : dK) (F' : fl) (d' : dK) (h : F.1 ≤ n) (L : LnK B n F d F' d') (f1 : F'.2.1 ≠ 1) : tE B n F.1 ≤ F'.1 := by
  have a := fAdv_g B h
  rcases L with ⟨_, rfl, _⟩ | ⟨_, L⟩
  · have b := fNum_g B 2 8 a.2.1
    have c := fNum_g B 2 8 b.2
    omega
  · have p := fFull_p B n d.1.2.2.1 10 F
    have a := fAdv_g B (F := fFull B n d.1.2.2.1 10 F) (by rw [p]; exact h)
    rw [p] at a
    rcases L with ⟨_, rfl, _⟩ | ⟨_, rfl, _⟩ | ⟨_, rfl, _⟩ | ⟨_, rfl, _⟩ | ⟨_, _, _, _, rfl⟩
    · have b := fNum_g B 0 7 a.2.1
      have c := fNum_g B 0 7 b.2
      omega
    · have b := fNum_g B 0 7 a.2.1
      have c := fNum_g B 0 7 b.2
      omega
    · have b := fNum_g B 1 8 a.2.1
      have c := fNum_g B 1 8 b.2
      omega
    · have b := fNum_g B 1 8 a.2.1
      have c := fNum_g B 1 8 b.2
      omega
    · exact absurd (fRef_f B n _) f1
theorem heB {B : Nat → Nat} {n : Nat} (g i : Nat) (F : fl) (h : qm_H) (C : fC B n F h) (f1 : F.2.1 ≠ 1) (k1 : tK B n F.1 ≠ 0) (hi : i < 600) : qX3_read_59 (g + 1) 31 (nI 0) (nI i) h = (qX3_readBasketLine 31 h).bind fun h3 => (qX3_readStop 31 h3).bind fun h1 => qX3_read_59 g 31 (nI 0) (nI (i + 1)) h1 := by
  have gs := c_goes C
  rw [if_neg f1] at gs
  have C1 := C.2.2.1.1
  have tk := t_K B n F.1
  conv => { lhs; unfold qX3_read_59 qX3_read_137 }
  simp (disch := omega) only [↓reduceIte, ↓q_m1, ↓q_m2, k_o, k_0, k_1, k_2, k_3, k_4, k_5, k_6, k_7, k_8, k_9, k_10, k_11, k_16, k_17, k_19, k_20, k_24, k_26, k_27, k_30, k_32, k_33, k_35, k_40, k_43, k_48, k_50, k_57, k_60, k_64, k_81, k_86, k_34, k_66, k_322, k_97, k_99, k_100, k_122, k_128, k_160, k_161, k_255, k_256, k_512, k_580, k_600, k_1000, k_4096, k_far, k_o, nI_add, n_mul, n_sub, n_div, n_rem, n_lt, n_le, n_eq, n_cl, n_and, n_or, n_xor, m1_lt, lt_m1, m1_eq, eq_m1, le_m1, m1_le, m2_eq, up_eq, up_ne, n_shl, n_shr, b2_some, let_e, ob_some, bI_0, bI_a, bI_t, bI_f, if_true, if_false, ite_true, ite_false, true_and, and_true, false_and, and_false, true_or, or_true, false_or, or_false, not_true_eq_false, not_false_eq_true, ite_not, ne_eq, Bool.true_eq_false, Bool.false_eq_true, reduceCtorEq, decide_true, decide_false, Bool.and_true, Bool.and_false, Bool.true_and, Bool.false_and, Bool.or_true, Bool.or_false, Bool.not_true, Bool.not_false, Nat.add_zero, Nat.zero_add, eq_self, Nat.not_lt_zero, Nat.reduceAdd, Nat.reduceMul, Nat.reduceSub, Nat.reduceDiv, Nat.reduceMod, Nat.reduceAnd, Nat.reduceXor, Nat.reduceEqDiff, Nat.reducePow, lt_T, lt_F, le_T, le_F, eq_F, gs, C1]
theorem heY {B : Nat → Nat} {n : Nat} (g i : Nat) (F : fl) (h : qm_H) (C : fC B n F h) (f1 : F.2.1 ≠ 1) (k1 : tK B n F.1 ≠ 0) (hi : i < 600) : qX3_read_59 (g + 1) 31 (nI 1) (nI i) h = (qX3_readYearLine 31 h).bind fun h3 => (qX3_readStop 31 h3).bind fun h1 => qX3_read_59 g 31 (nI 1) (nI (i + 1)) h1 := by
  have gs := c_goes C
  rw [if_neg f1] at gs
  have C1 := C.2.2.1.1
  have tk := t_K B n F.1
  conv => { lhs; unfold qX3_read_59 qX3_read_137 }
  simp (disch := omega) only [↓reduceIte, ↓q_m1, ↓q_m2, k_o, k_0, k_1, k_2, k_3, k_4, k_5, k_6, k_7, k_8, k_9, k_10, k_11, k_16, k_17, k_19, k_20, k_24, k_26, k_27, k_30, k_32, k_33, k_35, k_40, k_43, k_48, k_50, k_57, k_60, k_64, k_81, k_86, k_34, k_66, k_322, k_97, k_99, k_100, k_122, k_128, k_160, k_161, k_255, k_256, k_512, k_580, k_600, k_1000, k_4096, k_far, k_o, nI_add, n_mul, n_sub, n_div, n_rem, n_lt, n_le, n_eq, n_cl, n_and, n_or, n_xor, m1_lt, lt_m1, m1_eq, eq_m1, le_m1, m1_le, m2_eq, up_eq, up_ne, n_shl, n_shr, b2_some, let_e, ob_some, bI_0, bI_a, bI_t, bI_f, if_true, if_false, ite_true, ite_false, true_and, and_true, false_and, and_false, true_or, or_true, false_or, or_false, not_true_eq_false, not_false_eq_true, ite_not, ne_eq, Bool.true_eq_false, Bool.false_eq_true, reduceCtorEq, decide_true, decide_false, Bool.and_true, Bool.and_false, Bool.true_and, Bool.false_and, Bool.or_true, Bool.or_false, Bool.not_true, Bool.not_false, Nat.add_zero, Nat.zero_add, eq_self, Nat.not_lt_zero, Nat.reduceAdd, Nat.reduceMul, Nat.reduceSub, Nat.reduceDiv, Nat.reduceMod, Nat.reduceAnd, Nat.reduceXor, Nat.reduceEqDiff, Nat.reducePow, lt_T, lt_F, le_T, le_F, eq_F, gs, C1]
theorem heP {B : Nat → Nat} {n : Nat} (g i : Nat) (F : fl) (h : qm_H) (C : fC B n F h) (f1 : F.2.1 ≠ 1) (k1 : tK B n F.1 ≠ 0) (hi : i < 600) : qX3_read_59 (g + 1) 31 (nI 2) (nI i) h = (qX3_readParishLine 31 h).bind fun h3 => (qX3_readStop 31 h3).bind fun h1 => qX3_read_59 g 31 (nI 2) (nI (i + 1)) h1 := by
  have gs := c_goes C
  rw [if_neg f1] at gs
  have C1 := C.2.2.1.1
  have tk := t_K B n F.1
  conv => { lhs; unfold qX3_read_59 qX3_read_137 }
  simp (disch := omega) only [↓reduceIte, ↓q_m1, ↓q_m2, k_o, k_0, k_1, k_2, k_3, k_4, k_5, k_6, k_7, k_8, k_9, k_10, k_11, k_16, k_17, k_19, k_20, k_24, k_26, k_27, k_30, k_32, k_33, k_35, k_40, k_43, k_48, k_50, k_57, k_60, k_64, k_81, k_86, k_34, k_66, k_322, k_97, k_99, k_100, k_122, k_128, k_160, k_161, k_255, k_256, k_512, k_580, k_600, k_1000, k_4096, k_far, k_o, nI_add, n_mul, n_sub, n_div, n_rem, n_lt, n_le, n_eq, n_cl, n_and, n_or, n_xor, m1_lt, lt_m1, m1_eq, eq_m1, le_m1, m1_le, m2_eq, up_eq, up_ne, n_shl, n_shr, b2_some, let_e, ob_some, bI_0, bI_a, bI_t, bI_f, if_true, if_false, ite_true, ite_false, true_and, and_true, false_and, and_false, true_or, or_true, false_or, or_false, not_true_eq_false, not_false_eq_true, ite_not, ne_eq, Bool.true_eq_false, Bool.false_eq_true, reduceCtorEq, decide_true, decide_false, Bool.and_true, Bool.and_false, Bool.true_and, Bool.false_and, Bool.or_true, Bool.or_false, Bool.not_true, Bool.not_false, Nat.add_zero, Nat.zero_add, eq_self, Nat.not_lt_zero, Nat.reduceAdd, Nat.reduceMul, Nat.reduceSub, Nat.reduceDiv, Nat.reduceMod, Nat.reduceAnd, Nat.reduceXor, Nat.reduceEqDiff, Nat.reducePow, lt_T, lt_F, le_T, le_F, eq_F, gs, C1]
theorem heK {B : Nat → Nat} {n : Nat} (g i : Nat) (F : fl) (h : qm_H) (C : fC B n F h) (f1 : F.2.1 ≠ 1) (k1 : tK B n F.1 ≠ 0) (hi : i < 600) : qX3_read_59 (g + 1) 31 (nI 3) (nI i) h = (qX3_readCluesLine 31 h).bind fun h3 => (qX3_readStop 31 h3).bind fun h1 => qX3_read_59 g 31 (nI 3) (nI (i + 1)) h1 := by
  have gs := c_goes C
  rw [if_neg f1] at gs
  have C1 := C.2.2.1.1
  have tk := t_K B n F.1
  conv => { lhs; unfold qX3_read_59 qX3_read_137 }
  simp (disch := omega) only [↓reduceIte, ↓q_m1, ↓q_m2, k_o, k_0, k_1, k_2, k_3, k_4, k_5, k_6, k_7, k_8, k_9, k_10, k_11, k_16, k_17, k_19, k_20, k_24, k_26, k_27, k_30, k_32, k_33, k_35, k_40, k_43, k_48, k_50, k_57, k_60, k_64, k_81, k_86, k_34, k_66, k_322, k_97, k_99, k_100, k_122, k_128, k_160, k_161, k_255, k_256, k_512, k_580, k_600, k_1000, k_4096, k_far, k_o, nI_add, n_mul, n_sub, n_div, n_rem, n_lt, n_le, n_eq, n_cl, n_and, n_or, n_xor, m1_lt, lt_m1, m1_eq, eq_m1, le_m1, m1_le, m2_eq, up_eq, up_ne, n_shl, n_shr, b2_some, let_e, ob_some, bI_0, bI_a, bI_t, bI_f, if_true, if_false, ite_true, ite_false, true_and, and_true, false_and, and_false, true_or, or_true, false_or, or_false, not_true_eq_false, not_false_eq_true, ite_not, ne_eq, Bool.true_eq_false, Bool.false_eq_true, reduceCtorEq, decide_true, decide_false, Bool.and_true, Bool.and_false, Bool.true_and, Bool.false_and, Bool.or_true, Bool.or_false, Bool.not_true, Bool.not_false, Nat.add_zero, Nat.zero_add, eq_self, Nat.not_lt_zero, Nat.reduceAdd, Nat.reduceMul, Nat.reduceSub, Nat.reduceDiv, Nat.reduceMod, Nat.reduceAnd, Nat.reduceXor, Nat.reduceEqDiff, Nat.reducePow, lt_T, lt_F, le_T, le_F, eq_F, gs, C1]
def yW (s : Nat) : Nat := if s = 0 then 43 else if s = 1 then 161 else if s = 2 then 17 else 33
/-- both sides read a text of sort s alike -/
def yBoth (s : Nat) : Prop := ∀ (B : Nat → Nat) (n : Nat) (h : qm_H), n ≤ 600 → (∀ j, j < n → ytB (h.1 2 j) (B j)) → ∃ (f q : Nat) (h1 : qm_H) (OC : Nat → qm_H → Prop) (OM : qm_H → Prop), f ≤ 4 ∧ q ≤ 600 ∧ qX3_read 31 (nI s) (nI n) h = some h1 ∧ h1.1 31 5 = nI f ∧ h1.1 31 6 = (if f = 0 then m1 else nI q) ∧ qFr cP h h1 ∧ (f = 0 → ∀ i, i < 2 → ∃ h2, qX9_keep 1 (nI s) (nI i) 31 h1 = some h2 ∧ OC i h2 ∧ qFr (fun a _ => yOwn s i a) h1 h2) ∧ (∀ hm : qm_H, hm.1 62 11 = nI n → (∀ j, j < n → ytB (hm.1 63 j) (B j)) → ∃ h3, qX12_readText 62 (nI s) hm = some (nI (if f = 0 then 1 else 0), h3) ∧ h3.1 65 0 = nI f ∧ h3.1 66 0 = (if f = 0 then m1 else nI q) ∧ (f = 0 → OM h3) ∧ qFr (fun a k => rP a k ∨ ((a = 65 ∨ a = 66) ∧ k = 0)) hm h3) ∧ ∀ i h2 h3 g, i < 2 → OC i h2 → OM h3 → (∀ a k, yOwn s i a → g.1 a k = h2.1 a k ∧ g.2 a k = h2.2 a k) → (∀ k, k < yW s → g.1 (68 + s) (yW s * i + k) = h3.1 72 k) → yObj s i g
theorem HDB {F : fl} {d : dB} {h h' : qm_H} (D : DmB F d h) (e : qFr mP h h') : DmB F d h' := fun z => ⟨(D z).1.mv (fun k => (e _ _ (by unfold mP; omega)).1), by rw [(e _ _ (by unfold mP; omega)).1]; exact (D z).2.1, by rw [(e _ _ (by unfold mP; omega)).1]; exact (D z).2.2⟩
theorem fEnd_f {n w g fx fy : Nat} {F : fl} (h : (fEnd n w g fx fy F).2.1 = 0) : F.2.1 = 0 ∧ fx < w ∧ fy < g := by
  unfold fEnd at h
  by_cases q : fx < w ∧ fy < g
  · rw [if_pos q] at h
    exact ⟨h, q⟩
  · rw [if_neg q] at h
    unfold fNote at h
    by_cases z : F.2.1 = 0
    · rw [if_pos z] at h
      exact absurd h (by show ¬ (4 = 0); omega)
    · rw [if_neg z] at h
      exact absurd h z
theorem fEnd_1 {n w g fx fy : Nat} {F : fl} (h : F.2.1 = 1) : fEnd n w g fx fy F = F := by
  unfold fEnd fNote
  split
  · rfl
  · rw [if_neg (by omega)]
theorem fEnd_q {n w g fx fy : Nat} {F : fl} : (fEnd n w g fx fy F).2.1 = 1 → F.2.1 = 1 := by
  unfold fEnd fNote
  split
  · exact fun z => z
  · split
    · exact fun z => absurd z (by show ¬ (4 = 1); omega)
    · exact fun z => z
theorem both0 : yBoth 0 := by
  intro B n h hn T
  obtain ⟨k, F, d, h1, a0, a1, a2, a3, a4, a5, a6, a7⟩ := c_read (s := 0) (Dc := DcB) (Ln := LnB B n) (ln := qX3_readBasketLine 31) (d0 := dB0) (E := fun F d => fEnd n (bw d.1) (bh d.1) d.2.1 d.2.2 F) hn T (fun F d h C f1 D => c_lineB C f1 D) (fun F d F' d' => hpB F d F' d') (fun d h h' D e => D.fp e) (fun g i F h => heB g i F h) (fun h x _ _ _ => x) (fun F d h C D => by
    obtain ⟨p1, p2, p3, p4, p5, p6, p7, p8, p9, q3, q4, q5, qT, qRr, qO, q7, q8⟩ := D.un
    obtain ⟨h', b1, b2, b3⟩ := yc_look C q7 q8 ⟨show bw d.1 < 100 by omega, show bh d.1 < 100 by omega, by omega, by omega⟩
    refine ⟨h', ?_, b2, D.fp b3, b3.mono (fun _ _ z => z.c)⟩
    unfold qX3_read_147
    simp (disch := omega) only [↓reduceIte, ↓q_m1, ↓q_m2, k_o, k_0, k_1, k_2, k_3, k_4, k_5, k_6, k_7, k_8, k_9, k_10, k_11, k_16, k_17, k_19, k_20, k_24, k_26, k_27, k_30, k_32, k_33, k_35, k_40, k_43, k_48, k_50, k_57, k_60, k_64, k_81, k_86, k_34, k_66, k_322, k_97, k_99, k_100, k_122, k_128, k_160, k_161, k_255, k_256, k_512, k_580, k_600, k_1000, k_4096, k_far, k_o, nI_add, n_mul, n_sub, n_div, n_rem, n_lt, n_le, n_eq, n_cl, n_and, n_or, n_xor, m1_lt, lt_m1, m1_eq, eq_m1, le_m1, m1_le, m2_eq, up_eq, up_ne, n_shl, n_shr, b2_some, let_e, ob_some, bI_0, bI_a, bI_t, bI_f, if_true, if_false, ite_true, ite_false, true_and, and_true, false_and, and_false, true_or, or_true, false_or, or_false, not_true_eq_false, not_false_eq_true, ite_not, ne_eq, Bool.true_eq_false, Bool.false_eq_true, reduceCtorEq, decide_true, decide_false, Bool.and_true, Bool.and_false, Bool.true_and, Bool.false_and, Bool.or_true, Bool.or_false, Bool.not_true, Bool.not_false, Nat.add_zero, Nat.zero_add, eq_self, Nat.not_lt_zero, Nat.reduceAdd, Nat.reduceMul, Nat.reduceSub, Nat.reduceDiv, Nat.reduceMod, Nat.reduceAnd, Nat.reduceXor, Nat.reduceEqDiff, Nat.reducePow, lt_T, lt_F, le_T, le_F, eq_F, q3, q4, b1])
  have hF : F.2.1 = 1 → F.2.2 ≤ 600 := fun z => by
    have := a5.2.2.2.2.1
    rw [fEnd_1 z] at this
    exact this
  obtain ⟨p1, p2, p3, p4, p5, p6, p7, p8, p9, q3, q4, q5, qT, qRr, qO, q7, q8⟩ := a6.un
  refine ⟨(fEnd n (bw d.1) (bh d.1) d.2.1 d.2.2 F).2.1, (fEnd n (bw d.1) (bh d.1) d.2.1 d.2.2 F).2.2, h1, fun i g => bOK d.1 ∧ bC (8 + 11 * i) d.1 g, fun g => dMb d.1 g, a5.2.2.2.1, a5.2.2.2.2.1, a1, a5.2.2.2.2.2.1, a5.2.2.2.2.2.2, a7, fun z i hi => ?_, fun hm e11 T3 => ?_, fun i h2 h3 g hi o1 o2 e1 e2 => Or.inl ⟨rfl, d.1, o1.1, ?_, ?_⟩⟩
  · obtain ⟨y1, y2, y3⟩ := fEnd_f z
    have ok : bOK d.1 := ⟨p1, p2, p3, p4, p5, p6, fun r c o => by have := p7 r c o; omega⟩
    obtain ⟨h2, b1, b2, b3⟩ := c_btake (b0 := 8 + 11 * i) (b1 := 32) ok a6.2.1 (by omega)
    refine ⟨h2, ?_, ⟨ok, b2⟩, b3.mono (fun a k z => by unfold yOwn; omega)⟩
    unfold qX9_keep
    simp (disch := omega) only [↓reduceIte, ↓q_m1, ↓q_m2, k_o, k_0, k_1, k_2, k_3, k_4, k_5, k_6, k_7, k_8, k_9, k_10, k_11, k_16, k_17, k_19, k_20, k_24, k_26, k_27, k_30, k_32, k_33, k_35, k_40, k_43, k_48, k_50, k_57, k_60, k_64, k_81, k_86, k_34, k_66, k_322, k_97, k_99, k_100, k_122, k_128, k_160, k_161, k_255, k_256, k_512, k_580, k_600, k_1000, k_4096, k_far, k_o, nI_add, n_mul, n_sub, n_div, n_rem, n_lt, n_le, n_eq, n_cl, n_and, n_or, n_xor, m1_lt, lt_m1, m1_eq, eq_m1, le_m1, m1_le, m2_eq, up_eq, up_ne, n_shl, n_shr, b2_some, let_e, ob_some, bI_0, bI_a, bI_t, bI_f, if_true, if_false, ite_true, ite_false, true_and, and_true, false_and, and_false, true_or, or_true, false_or, or_false, not_true_eq_false, not_false_eq_true, ite_not, ne_eq, Bool.true_eq_false, Bool.false_eq_true, reduceCtorEq, decide_true, decide_false, Bool.and_true, Bool.and_false, Bool.true_and, Bool.false_and, Bool.or_true, Bool.or_false, Bool.not_true, Bool.not_false, Nat.add_zero, Nat.zero_add, eq_self, Nat.not_lt_zero, Nat.reduceAdd, Nat.reduceMul, Nat.reduceSub, Nat.reduceDiv, Nat.reduceMod, Nat.reduceAnd, Nat.reduceXor, Nat.reduceEqDiff, Nat.reducePow, lt_T, lt_F, le_T, le_F, eq_F, b1]
  · obtain ⟨h3, h7, b1, b2, b3, b4, b5, b6⟩ := m_read (s := 0) (Dm := DmB) (Ln := LnB B n) (E := fun F d => fEnd n (bw d.1) (bh d.1) d.2.1 d.2.2 F) (by omega) hn e11 T3 a0 a2 a3 hF (fun F d F' d' h M D gd L => m_lineB M D gd L) (fun F d h h' D e => HDB D e) (fun F d h D => D) (fun h e x y => fun _ => ⟨dMb.mk (e 0 (by omega)) (e 1 (by omega)) (e 2 (by omega)) (fun k hk => by rw [e _ (by omega)]; unfold blk bl0; rw [if_neg (by omega), if_neg (by omega), if_pos (by omega)]) (fun k hk => by rw [e _ (by omega)]; unfold blk bl0; rw [if_neg (by omega), if_neg (by omega), if_neg (by omega)]) (fun k hk => by rw [e _ (by omega)]; unfold blk bl0; rw [if_neg (by omega), if_neg (by omega), if_pos (by omega)]) (fun k hk => by rw [e _ (by omega)]; unfold blk bl0; rw [if_neg (by omega), if_neg (by omega), if_neg (by omega)]) (fun k hk => by rw [e _ (by omega)]; unfold blk bl0; rw [if_neg (by omega), if_neg (by omega), if_neg (by omega)]; rfl), ⟨by show (0 : Nat) < 100; omega, Or.inr ⟨x, rfl⟩⟩, ⟨by show (0 : Nat) < 100; omega, Or.inr ⟨y, rfl⟩⟩⟩) (fun z => fEnd_1 z) (fun h M D => m_fin1 M (Or.inl rfl) (by have := M.2.2.1; omega) ⟨by omega, by omega, by omega, by omega⟩ (fun z0 => ⟨(D z0).1.1, (D z0).1.2.1, (D z0).2.1, (D z0).2.2⟩))
    refine ⟨h3, b1, b2, b3, fun z => ?_, b6⟩
    have f0 := (fEnd_f z).1
    exact ((b4 (by omega)) f0).1.mv b5
  · exact o1.2.mv (fun a k h1 h2 => (e1 a k (by unfold yOwn; omega)).1) (e1 _ _ (by unfold yOwn; omega)).2
  · obtain ⟨x1, x2, x3, x4, x5, x6, x7, x8⟩ := o2
    have e2 : ∀ k, k < 43 → g.1 68 (43 * i + k) = h3.1 72 k := e2
    refine ⟨by rw [← x1, ← e2 0 (by omega)]; rfl, by rw [e2 1 (by omega)]; exact x2, by rw [e2 2 (by omega)]; exact x3, fun k hk => ?_⟩
    rw [e2 _ (by omega), e2 _ (by omega), e2 _ (by omega), e2 _ (by omega), e2 _ (by omega)]
    exact ⟨x4 k hk, x5 k hk, x6 k hk, x7 k hk, x8 k hk⟩
