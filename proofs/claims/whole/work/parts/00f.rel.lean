/-! THE RELATION between the class's heap and the reference's. -/
/-- a BASKET: wide, high, wet, thick, wear, open (row, column) -/
abbrev qB : Type := Nat × Nat × Nat × (Nat → Nat) × (Nat → Nat) × (Nat → Nat → Bool)
def bw (β : qB) : Nat := β.1
def bh (β : qB) : Nat := β.2.1
def bx (β : qB) : Nat := β.2.2.1
def bT (β : qB) : Nat → Nat := β.2.2.2.1
def bR (β : qB) : Nat → Nat := β.2.2.2.2.1
def bO (β : qB) : Nat → Nat → Bool := β.2.2.2.2.2
def bOK (β : qB) : Prop := 2 ≤ bw β ∧ bw β ≤ 8 ∧ 2 ≤ bh β ∧ bh β ≤ 8 ∧ bx β ≤ 1 ∧ (∀ i, i < 16 → bT β i ≤ 9 ∧ bR β i ≤ 9) ∧ ∀ r c, bO β r c = true → r < bh β ∧ c < bw β
/-- a row's bits -/
def rowB (f : Nat → Bool) : Nat := fb_sm (fun c => if f c then 2 ^ c else 0) 8
theorem rowB_lt (f : Nat → Bool) : rowB f < 256 := by
  have : ∀ a b c d e g i j : Bool, (((((((0 + if a then 2 ^ 0 else 0) + if b then 2 ^ 1 else 0) + if c then 2 ^ 2 else 0) + if d then 2 ^ 3 else 0) + if e then 2 ^ 4 else 0) + if g then 2 ^ 5 else 0) + if i then 2 ^ 6 else 0) + (if j then 2 ^ 7 else 0) < 256 := by decide
  exact this (f 0) (f 1) (f 2) (f 3) (f 4) (f 5) (f 6) (f 7)
theorem rowB_bit (f : Nat → Bool) {k : Nat} (hk : k < 8) : (rowB f).testBit k = f k := by
  have : ∀ a b c d e g i j : Bool, ∀ k : Fin 8, (((((((((0 + if a then 2 ^ 0 else 0) + if b then 2 ^ 1 else 0) + if c then 2 ^ 2 else 0) + if d then 2 ^ 3 else 0) + if e then 2 ^ 4 else 0) + if g then 2 ^ 5 else 0) + if i then 2 ^ 6 else 0) + (if j then 2 ^ 7 else 0) : Nat)).testBit k.val = [a, b, c, d, e, g, i, j].getD k.val false := by decide +kernel
  have h := this (f 0) (f 1) (f 2) (f 3) (f 4) (f 5) (f 6) (f 7) ⟨k, hk⟩
  have e : rowB f = ((((((((0 + if f 0 then 2 ^ 0 else 0) + if f 1 then 2 ^ 1 else 0) + if f 2 then 2 ^ 2 else 0) + if f 3 then 2 ^ 3 else 0) + if f 4 then 2 ^ 4 else 0) + if f 5 then 2 ^ 5 else 0) + if f 6 then 2 ^ 6 else 0) + (if f 7 then 2 ^ 7 else 0) : Nat) := rfl
  rw [e, h]
  match k, hk with
  | 0, _ => rfl
  | 1, _ => rfl
  | 2, _ => rfl
  | 3, _ => rfl
  | 4, _ => rfl
  | 5, _ => rfl
  | 6, _ => rfl
  | 7, _ => rfl
  | k + 8, h => exact absurd h (by omega)
/-- a long's bits -/
def lb (x : Int64) (i : Nat) : Bool := x.toBitVec.getLsbD i
/-- the class's BASKET at b -/
def bC (b : Nat) (β : qB) (h : qm_H) : Prop := h.1 b 3 = nI (bw β) ∧ h.1 b 4 = nI (bh β) ∧ h.1 b 5 = nI (bx β) ∧ (∀ i, i < 16 → h.1 (b + 1) i = nI (bT β i) ∧ h.1 (b + 2) i = nI (bR β i)) ∧ ∀ r c, r < 8 → c < 8 → lb (h.2 b 6) (8 * r + c) = bO β r c
/-- the reference's BASKET in hand -/
def bM (β : qB) (h : qm_H) : Prop := h.1 62 25 = nI (bw β) ∧ h.1 62 26 = nI (bh β) ∧ h.1 62 27 = nI (bw β * bh β) ∧ h.1 62 28 = nI (bx β) ∧ (∀ i, i < 16 → h.1 74 i = nI (bT β i) ∧ h.1 75 i = nI (bR β i)) ∧ ∀ r, r < 8 → h.1 76 r = nI (rowB (bO β r))
/-- the reference's row of a BASKET -/
def bS (i : Nat) (β : qB) (h : qm_H) : Prop := h.1 68 (43 * i) = nI (bw β) ∧ h.1 68 (43 * i + 1) = nI (bh β) ∧ h.1 68 (43 * i + 2) = nI (bx β) ∧ ∀ k, k < 8 → h.1 68 (43 * i + (3 + k)) = nI (bT β k) ∧ h.1 68 (43 * i + (11 + k)) = nI (bR β k) ∧ h.1 68 (43 * i + (19 + k)) = nI (bT β (8 + k)) ∧ h.1 68 (43 * i + (27 + k)) = nI (bR β (8 + k)) ∧ h.1 68 (43 * i + (35 + k)) = nI (rowB (bO β k))
/-- a DEED's four numbers -/
def deedOK (a b c d : Int32) : Prop := (∃ x y z : Nat, a = nI 0 ∧ b = nI x ∧ c = nI y ∧ d = nI z ∧ 1 ≤ x ∧ x ≤ 8 ∧ 1 ≤ y ∧ y ≤ 8 ∧ z ≤ 99) ∨ (∃ t s k : Nat, (t = 1 ∨ t = 2) ∧ a = nI t ∧ b = nI s ∧ c = nI k ∧ s ≤ 1 ∧ k ≤ 7 ∧ d = m1) ∨ (∃ x y : Nat, a = nI 3 ∧ b = nI x ∧ c = nI y ∧ x ≤ 7 ∧ y ≤ 7 ∧ d = m1) ∨ (∃ t : Nat, 4 ≤ t ∧ t ≤ 6 ∧ a = nI t ∧ b = m1 ∧ c = m1 ∧ d = m1)
def qYr (h : qm_H) (a m : Nat) : Prop := ∃ n, n ≤ 40 ∧ h.1 a 1 = nI n ∧ h.1 69 m = nI n ∧ ∀ k, k < n → (∀ p, p < 4 → h.1 (a + 1) (4 * k + p) = h.1 69 (m + 1 + 4 * k + p)) ∧ deedOK (h.1 69 (m + 1 + 4 * k + 0)) (h.1 69 (m + 1 + 4 * k + 1)) (h.1 69 (m + 1 + 4 * k + 2)) (h.1 69 (m + 1 + 4 * k + 3))
def qPa (h : qm_H) (a m : Nat) : Prop := ∃ (n p c : Nat) (R P : Nat → Nat), n ≤ 6 ∧ p ≤ 8 ∧ 1 ≤ c ∧ c ≤ 9 ∧ h.1 a 2 = nI n ∧ h.1 a 3 = nI p ∧ h.1 a 4 = nI c ∧ h.1 70 m = nI n ∧ h.1 70 (m + 1) = nI p ∧ h.1 70 (m + 2) = nI c ∧ (∀ k, k < n → 1 ≤ R k ∧ R k ≤ 60 ∧ h.1 (a + 1) k = nI (R k) ∧ h.1 70 (m + (3 + k)) = nI (R k)) ∧ ∀ k, k < p → 1 ≤ P k ∧ P k ≤ 60 ∧ h.1 (a + 2) k = nI (P k) ∧ h.1 70 (m + (9 + k)) = nI (P k)
def qCl (h : qm_H) (a m : Nat) : Prop := ∃ (w g n : Nat) (T X Y : Nat → Nat), 2 ≤ w ∧ w ≤ 8 ∧ 2 ≤ g ∧ g ≤ 8 ∧ n ≤ 10 ∧ h.1 a 1 = nI w ∧ h.1 a 2 = nI g ∧ h.1 a 3 = nI n ∧ h.1 71 m = nI w ∧ h.1 71 (m + 1) = nI g ∧ h.1 71 (m + 2) = nI n ∧ ∀ k, k < n → T k ≤ 3 ∧ X k ≤ 8 ∧ Y k ≤ 8 ∧ (h.1 (a + 1) (3 * k) = nI (T k) ∧ h.1 (a + 1) (3 * k + 1) = nI (X k) ∧ h.1 (a + 1) (3 * k + 2) = nI (Y k)) ∧ h.1 71 (m + (3 + 3 * k)) = nI (T k) ∧ h.1 71 (m + (4 + 3 * k)) = nI (X k) ∧ h.1 71 (m + (5 + 3 * k)) = nI (Y k)
/-- all that is told: the class's object at t, the reference's slot s; m: how many of each sort -/
def qTo (h : qm_H) (t s : Nat) (m : Nat → Nat) : Prop := (∀ j, j < 4 → m j ≤ 2 ∧ h.1 (t + 2) j = nI (m j) ∧ h.1 67 (4 * s + j) = nI (m j)) ∧ (∀ i, i < m 0 → ∃ β, bOK β ∧ bC (t + 7 + 11 * i) β h ∧ bS (2 * s + i) β h) ∧ (∀ i, i < m 1 → qYr h (t + 11 + 11 * i) (161 * (2 * s + i))) ∧ (∀ i, i < m 2 → qPa h (t + 13 + 11 * i) (17 * (2 * s + i))) ∧ (∀ i, i < m 3 → qCl h (t + 16 + 11 * i) (33 * (2 * s + i))) ∧ ∀ i, i < 2 → h.1 (t + 7 + 11 * i) 5 &&& 1 = h.1 (t + 7 + 11 * i) 5
/-- the tape, the FAULT -/
def qTp (h : qm_H) (t s : Nat) : Prop := (∃ n, n ≤ 600 ∧ h.1 t 6 = nI n ∧ h.1 64 s = nI n) ∧ h.1 t 7 = h.1 65 s ∧ h.1 t 8 = h.1 66 s ∧ ∀ j, j < 600 → h.1 (t + 1) j = h.1 63 (600 * s + j) ∧ fits .byte (.int (h.1 (t + 1) j)) = true
def qS (h : qm_H) (t s : Nat) : Prop := qTp h t s ∧ ∃ m, qTo h t s m
/-- sums over nothing are 0 -/
def qZb (a : Nat) (h : qm_H) : Prop := ∀ c, c ≤ 8 → h.1 a c = nI 0 ∧ h.1 a (9 * c) = nI 0
def qZ (h : qm_H) : Prop := qZb 11 h ∧ qZb 22 h ∧ qZb 48 h
theorem qZ.mv {h h' : qm_H} (z : qZ h) (e : ∀ a k, a = 11 ∨ a = 22 ∨ a = 48 → h'.1 a k = h.1 a k) : qZ h' := by
  obtain ⟨z1, z2, z3⟩ := z
  refine ⟨fun c hc => ?_, fun c hc => ?_, fun c hc => ?_⟩
  · rw [e _ _ (by omega), e _ _ (by omega)]; exact z1 c hc
  · rw [e _ _ (by omega), e _ _ (by omega)]; exact z2 c hc
  · rw [e _ _ (by omega), e _ _ (by omega)]; exact z3 c hc
def qIm (h : qm_H) : Prop := ∀ k, k < 3 → (h.1 30 k = 0 ∧ h.1 87 k = 0) ∨ (h.1 30 k ≠ 0 ∧ h.1 87 k = nI 1 ∧ qS h (1000 * (k + 1)) (k + 1))
def qR (h : qm_H) : Prop := qS h 1 0 ∧ qIm h ∧ qZ h
/-- what the relation doesn't speak of (but sums' borders) -/
def qScr (a _k : Nat) : Prop := a = 11 ∨ a = 22 ∨ (31 ≤ a ∧ a ≤ 62) ∨ (72 ≤ a ∧ a ≤ 86)
abbrev qE (h h' : qm_H) : Prop := qFr qScr h h'
theorem qE.g1 {h h' : qm_H} (e : qE h h') {a k : Nat} (n : a ≠ 11 ∧ a ≠ 22 ∧ (a < 31 ∨ 62 < a) ∧ (a < 72 ∨ 86 < a)) : h'.1 a k = h.1 a k := (e a k (by unfold qScr; omega)).1
theorem qE.g2 {h h' : qm_H} (e : qE h h') {a k : Nat} (n : a ≠ 11 ∧ a ≠ 22 ∧ (a < 31 ∨ 62 < a) ∧ (a < 72 ∨ 86 < a)) : h'.2 a k = h.2 a k := (e a k (by unfold qScr; omega)).2
theorem bC.mv {h h' : qm_H} {b : Nat} {β : qB} (H : bC b β h) (e1 : ∀ a k, b ≤ a → a ≤ b + 2 → h'.1 a k = h.1 a k) (e2 : h'.2 b 6 = h.2 b 6) : bC b β h' := by
  obtain ⟨a1, a2, a3, a4, a5⟩ := H
  refine ⟨by rw [e1 _ _ (by omega) (by omega)]; exact a1, by rw [e1 _ _ (by omega) (by omega)]; exact a2, by rw [e1 _ _ (by omega) (by omega)]; exact a3, fun i hi => ⟨by rw [e1 _ _ (by omega) (by omega)]; exact (a4 i hi).1, by rw [e1 _ _ (by omega) (by omega)]; exact (a4 i hi).2⟩, by rw [e2]; exact a5⟩
theorem bS.mv {h h' : qm_H} {i : Nat} {β : qB} (H : bS i β h) (e1 : ∀ k, h'.1 68 k = h.1 68 k) : bS i β h' := by
  unfold bS
  simp only [e1]
  exact H
theorem bM.mv {h h' : qm_H} {β : qB} (H : bM β h) (e1 : ∀ k, 25 ≤ k → k ≤ 28 → h'.1 62 k = h.1 62 k) (e2 : ∀ a k, 74 ≤ a → a ≤ 76 → h'.1 a k = h.1 a k) : bM β h' := by
  obtain ⟨a1, a2, a3, a4, a5, a6⟩ := H
  refine ⟨by rw [e1 _ (by omega) (by omega)]; exact a1, by rw [e1 _ (by omega) (by omega)]; exact a2, by rw [e1 _ (by omega) (by omega)]; exact a3, by rw [e1 _ (by omega) (by omega)]; exact a4, fun i hi => ⟨by rw [e2 _ _ (by omega) (by omega)]; exact (a5 i hi).1, by rw [e2 _ _ (by omega) (by omega)]; exact (a5 i hi).2⟩, fun r hr => by rw [e2 _ _ (by omega) (by omega)]; exact a6 r hr⟩
theorem qYr.mv {h h' : qm_H} {a m : Nat} (H : qYr h a m) (e1 : ∀ k, h'.1 69 k = h.1 69 k) (e2 : ∀ k, h'.1 a k = h.1 a k) (e3 : ∀ k, h'.1 (a + 1) k = h.1 (a + 1) k) : qYr h' a m := by
  unfold qYr
  simp only [e1, e2, e3]
  exact H
theorem qPa.mv {h h' : qm_H} {a m : Nat} (H : qPa h a m) (e1 : ∀ k, h'.1 70 k = h.1 70 k) (e2 : ∀ k, h'.1 a k = h.1 a k) (e3 : ∀ k, h'.1 (a + 1) k = h.1 (a + 1) k) (e4 : ∀ k, h'.1 (a + 2) k = h.1 (a + 2) k) : qPa h' a m := by
  unfold qPa
  simp only [e1, e2, e3, e4]
  exact H
theorem qCl.mv {h h' : qm_H} {a m : Nat} (H : qCl h a m) (e1 : ∀ k, h'.1 71 k = h.1 71 k) (e2 : ∀ k, h'.1 a k = h.1 a k) (e3 : ∀ k, h'.1 (a + 1) k = h.1 (a + 1) k) : qCl h' a m := by
  unfold qCl
  simp only [e1, e2, e3]
  exact H
theorem qTo.mv {h h' : qm_H} {t s : Nat} {m : Nat → Nat} (H : qTo h t s m) (e1 : ∀ a k, (t + 2 ≤ a ∧ a ≤ t + 28 ∧ a ≠ t + 10 ∧ a ≠ t + 21) ∨ (67 ≤ a ∧ a ≤ 71) → h'.1 a k = h.1 a k) (e2 : ∀ i, i < 2 → h'.2 (t + 7 + 11 * i) 6 = h.2 (t + 7 + 11 * i) 6) : qTo h' t s m := by
  obtain ⟨a1, a2, a3, a4, a5, a6⟩ := H
  have m0 := (a1 0 (by omega)).1
  have m1 := (a1 1 (by omega)).1
  have m2 := (a1 2 (by omega)).1
  have m3 := (a1 3 (by omega)).1
  refine ⟨fun j hj => ?_, fun i hi => ?_, fun i hi => ?_, fun i hi => ?_, fun i hi => ?_, fun i hi => by rw [e1 _ _ (by omega)]; exact a6 i hi⟩
  · rw [e1 _ _ (by omega), e1 _ _ (by omega)]
    exact a1 j hj
  · obtain ⟨β, b1, b2, b3⟩ := a2 i hi
    exact ⟨β, b1, b2.mv (fun a k h1 h2 => e1 a k (by omega)) (e2 i (by omega)), b3.mv (fun k => e1 _ k (by omega))⟩
  · exact (a3 i hi).mv (fun k => e1 _ k (by omega)) (fun k => e1 _ k (by omega)) (fun k => e1 _ k (by omega))
  · exact (a4 i hi).mv (fun k => e1 _ k (by omega)) (fun k => e1 _ k (by omega)) (fun k => e1 _ k (by omega)) (fun k => e1 _ k (by omega))
  · exact (a5 i hi).mv (fun k => e1 _ k (by omega)) (fun k => e1 _ k (by omega)) (fun k => e1 _ k (by omega))
theorem qTp.mv {h h' : qm_H} {t s : Nat} (H : qTp h t s) (e1 : ∀ a k, (t ≤ a ∧ a ≤ t + 1) ∨ (a = 63 ∧ 600 * s ≤ k) ∨ (64 ≤ a ∧ a ≤ 66 ∧ k = s) → h'.1 a k = h.1 a k) : qTp h' t s := by
  obtain ⟨⟨n, b1, b2, b3⟩, a2, a3, a4⟩ := H
  refine ⟨⟨n, b1, by rw [e1 _ _ (by omega)]; exact b2, by rw [e1 _ _ (by omega)]; exact b3⟩, by rw [e1 _ _ (by omega), e1 _ _ (by omega)]; exact a2, by rw [e1 _ _ (by omega), e1 _ _ (by omega)]; exact a3, fun j hj => ?_⟩
  rw [e1 _ _ (by omega), e1 _ _ (by omega)]
  exact a4 j hj
theorem qS.mv {h h' : qm_H} {t s : Nat} (H : qS h t s) (ht : t = 1 ∨ 1000 ≤ t) (e : qE h h') : qS h' t s := by
  obtain ⟨a1, m, a2⟩ := H
  exact ⟨a1.mv (fun a k hk => e.g1 (by omega)), m, a2.mv (fun a k hk => e.g1 (by omega)) (fun i hi => e.g2 (by omega))⟩
theorem qIm.mv {h h' : qm_H} (H : qIm h) (e : qE h h') : qIm h' := by
  intro k hk
  rw [e.g1 (a := 30) (by omega), e.g1 (a := 87) (by omega)]
  rcases H k hk with q | ⟨q1, q2, q3⟩
  · exact Or.inl q
  · exact Or.inr ⟨q1, q2, q3.mv (by omega) e⟩
theorem qR.mv {h h' : qm_H} (H : qR h) (e : qE h h') (z : qZ h') : qR h' := ⟨H.1.mv (by omega) e, H.2.1.mv e, z⟩
/-- what the reference alone may write -/
def qMs (a _k : Nat) : Prop := a = 62 ∨ (72 ≤ a ∧ a ≤ 86)
abbrev qEm (h h' : qm_H) : Prop := qFr qMs h h'
theorem qEm.e {h h' : qm_H} (e : qEm h h') : qE h h' := e.mono (fun a k q => by unfold qMs at q; unfold qScr; omega)
theorem qEm.g1 {h h' : qm_H} (e : qEm h h') {a k : Nat} (n : a ≠ 62 ∧ (a < 72 ∨ 86 < a)) : h'.1 a k = h.1 a k := (e a k (by unfold qMs; omega)).1
theorem qEm.z {h h' : qm_H} (e : qEm h h') (z : qZ h) : qZ h' := by
  unfold qZ qZb
  simp only [e.g1 (a := 11) (by omega), e.g1 (a := 22) (by omega), e.g1 (a := 48) (by omega)]
  exact z
theorem qR.mvm {h h' : qm_H} (H : qR h) (e : qEm h h') : qR h' := H.mv e.e (e.z H.2.2)
theorem qEm.s {h : qm_H} {a k : Nat} {x : Int32} (i : a = 62 ∨ (72 ≤ a ∧ a ≤ 86)) : qEm h (qm_seti h a k x) := qFr.seti i
theorem qEm.sl {h : qm_H} {a k : Nat} {x : Int64} (i : a = 62 ∨ (72 ≤ a ∧ a ≤ 86)) : qEm h (qm_setl h a k x) := qFr.setl i
/-! negative ints -/
theorem ng_lt {x : Int32} (hx : x < 0) {k : Nat} (hk : k < 2147483648) : (x < nI k) = True := by
  rw [Int32.lt_iff_toInt_lt] at hx ⊢
  rw [nI_toInt hk]
  have : (0 : Int32).toInt = 0 := rfl
  exact eq_true (by omega)
theorem ng_gt {x : Int32} (hx : x < 0) {k : Nat} (hk : k < 2147483648) : (nI k < x) = False := by
  rw [Int32.lt_iff_toInt_lt] at hx ⊢
  rw [nI_toInt hk]
  have : (0 : Int32).toInt = 0 := rfl
  exact eq_false (by omega)
theorem ng_le {x : Int32} (hx : x < 0) {k : Nat} (hk : k < 2147483648) : (nI k ≤ x) = False := by
  rw [Int32.lt_iff_toInt_lt] at hx
  rw [Int32.le_iff_toInt_le, nI_toInt hk]
  have : (0 : Int32).toInt = 0 := rfl
  exact eq_false (by omega)
theorem ng_eq {x : Int32} (hx : x < 0) {k : Nat} (hk : k < 2147483648) : (x = nI k) = False := by
  rw [Int32.lt_iff_toInt_lt] at hx
  rw [← Int32.toInt_inj, nI_toInt hk]
  have : (0 : Int32).toInt = 0 := rfl
  exact eq_false (by omega)
/-- an int is negative, or small -/
theorem i_cases (x : Int32) : x < 0 ∨ ∃ j, j < 2147483648 ∧ x = nI j := by
  by_cases h : x < 0
  · exact Or.inl h
  · exact Or.inr (nI_of h)
theorem sub1_r {j m : Nat} (hm : m < 1000000) (hj : j < 2147483648) : (nI j ≤ nI m - nI 1) = (j < m) := by
  cases m with
  | zero =>
    rw [show nI 0 - nI 1 = m1 from rfl, Int32.le_iff_toInt_le, nI_toInt hj, show m1.toInt = -1 from rfl]
    exact propext ⟨fun q => by omega, fun q => by omega⟩
  | succ m =>
    rw [n_sub (by omega), n_le hj (by omega)]
    exact propext ⟨fun q => by omega, fun q => by omega⟩
/-- a number of a sort: is there such a one? the class's and the reference's answer -/
theorem s_is {h : qm_H} (R : qR h) : ∃ m, qTo h 1 0 m ∧ ∀ h', qE h h' → ∀ s, s < 4 → (∀ x : Int32, x < 0 → qX12_is 62 (nI s) x h' = some (bI false, h')) ∧ ∀ j, j < 2147483648 → qX12_is 62 (nI s) (nI j) h' = some (bI (decide (j < m s)), h') := by
  obtain ⟨⟨_, m, T⟩, _, _⟩ := R
  refine ⟨m, T, fun h' e s hs => ?_⟩
  have e1 : h'.1 67 s = nI (m s) := by
    rw [e.g1 (by omega)]
    have := (T.1 s hs).2.2
    simp only [Nat.mul_zero, Nat.zero_add] at this
    exact this
  have hm := (T.1 s hs).1
  refine ⟨fun x hx => ?_, fun j hj => ?_⟩
  · unfold qX12_is
    simp (disch := omega) only [↓q_m1, ↓q_m2, k_o, k_0, k_1, k_2, k_3, k_4, k_5, k_6, k_7, k_8, k_9, k_10, k_11, k_16, k_17, k_19, k_20, k_24, k_26, k_27, k_30, k_32, k_33, k_35, k_40, k_43, k_48, k_50, k_57, k_60, k_64, k_81, k_86, k_34, k_66, k_322, k_97, k_99, k_100, k_122, k_128, k_160, k_161, k_255, k_256, k_512, k_580, k_600, k_1000, k_4096, k_far, k_o, nI_add, n_mul, n_sub, n_div, n_rem, n_lt, n_le, n_eq, n_cl, n_and, n_or, n_xor, m1_lt, lt_m1, m1_eq, eq_m1, le_m1, m1_le, m2_eq, up_eq, up_ne, n_shl, n_shr, b2_some, let_e, ob_some, bI_0, bI_a, bI_t, bI_f, if_true, if_false, ite_true, ite_false, true_and, and_true, false_and, and_false, true_or, or_true, false_or, or_false, not_true_eq_false, not_false_eq_true, ite_not, ne_eq, Bool.true_eq_false, Bool.false_eq_true, reduceCtorEq, decide_true, decide_false, Bool.and_true, Bool.and_false, Bool.true_and, Bool.false_and, Bool.or_true, Bool.or_false, Bool.not_true, Bool.not_false, Nat.add_zero, Nat.zero_add, eq_self, Nat.not_lt_zero, Nat.reduceAdd, Nat.reduceMul, Nat.reduceSub, Nat.reduceDiv, Nat.reduceMod, Nat.reduceAnd, Nat.reduceXor, Nat.reduceEqDiff, Nat.reducePow, lt_T, lt_F, le_T, le_F, eq_F, m_in, e1, ng_le hx]
  · unfold qX12_is
    simp (disch := omega) only [↓q_m1, ↓q_m2, k_o, k_0, k_1, k_2, k_3, k_4, k_5, k_6, k_7, k_8, k_9, k_10, k_11, k_16, k_17, k_19, k_20, k_24, k_26, k_27, k_30, k_32, k_33, k_35, k_40, k_43, k_48, k_50, k_57, k_60, k_64, k_81, k_86, k_34, k_66, k_322, k_97, k_99, k_100, k_122, k_128, k_160, k_161, k_255, k_256, k_512, k_580, k_600, k_1000, k_4096, k_far, k_o, nI_add, n_mul, n_sub, n_div, n_rem, n_lt, n_le, n_eq, n_cl, n_and, n_or, n_xor, m1_lt, lt_m1, m1_eq, eq_m1, le_m1, m1_le, m2_eq, up_eq, up_ne, n_shl, n_shr, b2_some, let_e, ob_some, bI_0, bI_a, bI_t, bI_f, if_true, if_false, ite_true, ite_false, true_and, and_true, false_and, and_false, true_or, or_true, false_or, or_false, not_true_eq_false, not_false_eq_true, ite_not, ne_eq, Bool.true_eq_false, Bool.false_eq_true, reduceCtorEq, decide_true, decide_false, Bool.and_true, Bool.and_false, Bool.true_and, Bool.false_and, Bool.or_true, Bool.or_false, Bool.not_true, Bool.not_false, Nat.add_zero, Nat.zero_add, eq_self, Nat.not_lt_zero, Nat.reduceAdd, Nat.reduceMul, Nat.reduceSub, Nat.reduceDiv, Nat.reduceMod, Nat.reduceAnd, Nat.reduceXor, Nat.reduceEqDiff, Nat.reducePow, lt_T, lt_F, le_T, le_F, eq_F, m_in, e1, sub1_r]
