/-! image, again: all that is told is copied. -/
/-- cells of a Told that are copied -/
def cpd (δ k : Nat) : Prop := (δ = 0 ∧ 6 ≤ k ∧ k ≤ 8) ∨ (δ = 1 ∧ k < 600) ∨ (δ = 2 ∧ k < 4) ∨ ∃ i, i < 2 ∧ ((δ = 7 + 11 * i ∧ 3 ≤ k ∧ k ≤ 5) ∨ ((δ = 8 + 11 * i ∨ δ = 9 + 11 * i) ∧ k < 16) ∨ (δ = 11 + 11 * i ∧ k = 1) ∨ (δ = 12 + 11 * i ∧ k < 160) ∨ (δ = 13 + 11 * i ∧ 2 ≤ k ∧ k ≤ 4) ∨ (δ = 14 + 11 * i ∧ k < 6) ∨ (δ = 15 + 11 * i ∧ k < 8) ∨ (δ = 16 + 11 * i ∧ 1 ≤ k ∧ k ≤ 3) ∨ (δ = 17 + 11 * i ∧ k < 30))
/-- a slot of the class's and one of the reference's are copies of others -/
def cpC (t t' : Nat) (h h' : qm_H) : Prop := (∀ δ k, cpd δ k → h'.1 (t' + δ) k = h.1 (t + δ) k) ∧ ∀ i, i < 2 → h'.2 (t' + 7 + 11 * i) 6 = h.2 (t + 7 + 11 * i) 6
def cpM (s s' : Nat) (h h' : qm_H) : Prop := (∀ k, k < 600 → h'.1 63 (600 * s' + k) = h.1 63 (600 * s + k)) ∧ h'.1 64 s' = h.1 64 s ∧ h'.1 65 s' = h.1 65 s ∧ h'.1 66 s' = h.1 66 s ∧ (∀ k, k < 4 → h'.1 67 (4 * s' + k) = h.1 67 (4 * s + k)) ∧ (∀ k, k < 86 → h'.1 68 (86 * s' + k) = h.1 68 (86 * s + k)) ∧ (∀ k, k < 322 → h'.1 69 (322 * s' + k) = h.1 69 (322 * s + k)) ∧ (∀ k, k < 34 → h'.1 70 (34 * s' + k) = h.1 70 (34 * s + k)) ∧ ∀ k, k < 66 → h'.1 71 (66 * s' + k) = h.1 71 (66 * s + k)
theorem cpd_b {i δ k : Nat} (hi : i < 2) (h : (δ = 7 + 11 * i ∧ 3 ≤ k ∧ k ≤ 5) ∨ ((δ = 8 + 11 * i ∨ δ = 9 + 11 * i) ∧ k < 16) ∨ (δ = 11 + 11 * i ∧ k = 1) ∨ (δ = 12 + 11 * i ∧ k < 160) ∨ (δ = 13 + 11 * i ∧ 2 ≤ k ∧ k ≤ 4) ∨ (δ = 14 + 11 * i ∧ k < 6) ∨ (δ = 15 + 11 * i ∧ k < 8) ∨ (δ = 16 + 11 * i ∧ 1 ≤ k ∧ k ≤ 3) ∨ (δ = 17 + 11 * i ∧ k < 30)) : cpd δ k := Or.inr (Or.inr (Or.inr ⟨i, hi, h⟩))
theorem qS.copy {h h' : qm_H} {t s t' s' : Nat} (S : qS h t s) (c : cpC t t' h h') (m : cpM s s' h h') : qS h' t' s' := by
  obtain ⟨⟨⟨n, n1, n2, n3⟩, f1, f2, f3⟩, mm, a1, a2, a3, a4, a5, a6⟩ := S
  obtain ⟨c1, c2⟩ := c
  obtain ⟨e63, e64, e65, e66, e67, e68, e69, e70, e71⟩ := m
  have z0 : ∀ k, 6 ≤ k → k ≤ 8 → h'.1 t' k = h.1 t k := fun k h1 h2 => c1 0 k (Or.inl ⟨rfl, h1, h2⟩)
  have hm : ∀ j, j < 4 → mm j ≤ 2 := fun j hj => (a1 j hj).1
  have m0 := hm 0 (by omega)
  have m1 := hm 1 (by omega)
  have m2 := hm 2 (by omega)
  have m3 := hm 3 (by omega)
  refine ⟨⟨⟨n, n1, by rw [z0 6 (by omega) (by omega)]; exact n2, by rw [e64]; exact n3⟩, by rw [z0 7 (by omega) (by omega), e65]; exact f1, by rw [z0 8 (by omega) (by omega), e66]; exact f2, fun j hj => ?_⟩, mm, fun j hj => ?_, fun i hi => ?_, fun i hi => ?_, fun i hi => ?_, fun i hi => ?_, fun i hi => ?_⟩
  · rw [c1 1 j (Or.inr (Or.inl ⟨rfl, hj⟩)), e63 j hj]
    exact f3 j hj
  · rw [c1 2 j (Or.inr (Or.inr (Or.inl ⟨rfl, hj⟩))), e67 j hj]
    exact a1 j hj
  · have hi2 : i < 2 := by omega
    obtain ⟨β, b1, ⟨b2, b3, b4, b5, b6⟩, b7, b8, b9, b10⟩ := a2 i hi
    have g : ∀ k, k < 43 → h'.1 68 (43 * (2 * s' + i) + k) = h.1 68 (43 * (2 * s + i) + k) := fun k hk => by
      have := e68 (43 * i + k) (by omega)
      rw [show 43 * (2 * s' + i) + k = 86 * s' + (43 * i + k) by omega, this, show 86 * s + (43 * i + k) = 43 * (2 * s + i) + k by omega]
    have g0 := g 0 (by omega)
    rw [Nat.add_zero, Nat.add_zero] at g0
    refine ⟨β, b1, ⟨?_, ?_, ?_, fun q hq => ⟨?_, ?_⟩, ?_⟩, ?_, ?_, ?_, fun q hq => ?_⟩
    · rw [show t' + 7 + 11 * i = t' + (7 + 11 * i) by omega, c1 _ _ (cpd_b hi2 (by omega)), show t + (7 + 11 * i) = t + 7 + 11 * i by omega]
      exact b2
    · rw [show t' + 7 + 11 * i = t' + (7 + 11 * i) by omega, c1 _ _ (cpd_b hi2 (by omega)), show t + (7 + 11 * i) = t + 7 + 11 * i by omega]
      exact b3
    · rw [show t' + 7 + 11 * i = t' + (7 + 11 * i) by omega, c1 _ _ (cpd_b hi2 (by omega)), show t + (7 + 11 * i) = t + 7 + 11 * i by omega]
      exact b4
    · rw [show t' + 7 + 11 * i + 1 = t' + (8 + 11 * i) by omega, c1 _ _ (cpd_b hi2 (by omega)), show t + (8 + 11 * i) = t + 7 + 11 * i + 1 by omega]
      exact (b5 q hq).1
    · rw [show t' + 7 + 11 * i + 2 = t' + (9 + 11 * i) by omega, c1 _ _ (cpd_b hi2 (by omega)), show t + (9 + 11 * i) = t + 7 + 11 * i + 2 by omega]
      exact (b5 q hq).2
    · rw [c2 i hi2]
      exact b6
    · rw [g0]; exact b7
    · rw [g 1 (by omega)]; exact b8
    · rw [g 2 (by omega)]; exact b9
    · rw [g (3 + q) (by omega), g (11 + q) (by omega), g (19 + q) (by omega), g (27 + q) (by omega), g (35 + q) (by omega)]
      exact b10 q hq
  · have hi2 : i < 2 := by omega
    obtain ⟨n, b1, b2, b3, b4⟩ := a3 i hi
    have g : ∀ k, k < 161 → h'.1 69 (161 * (2 * s' + i) + k) = h.1 69 (161 * (2 * s + i) + k) := fun k hk => by
      have := e69 (161 * i + k) (by omega)
      rw [show 161 * (2 * s' + i) + k = 322 * s' + (161 * i + k) by omega, this, show 322 * s + (161 * i + k) = 161 * (2 * s + i) + k by omega]
    have g0 := g 0 (by omega)
    rw [Nat.add_zero, Nat.add_zero] at g0
    have g' : ∀ q p, 4 * q + p < 160 → h'.1 69 (161 * (2 * s' + i) + 1 + 4 * q + p) = h.1 69 (161 * (2 * s + i) + 1 + 4 * q + p) := fun q p hq => by
      have := g (1 + 4 * q + p) (by omega)
      rw [show 161 * (2 * s' + i) + 1 + 4 * q + p = 161 * (2 * s' + i) + (1 + 4 * q + p) by omega, this, show 161 * (2 * s + i) + (1 + 4 * q + p) = 161 * (2 * s + i) + 1 + 4 * q + p by omega]
    refine ⟨n, b1, ?_, ?_, fun q hq => ⟨fun p hp => ?_, ?_⟩⟩
    · rw [show t' + 11 + 11 * i = t' + (11 + 11 * i) by omega, c1 _ _ (cpd_b hi2 (by omega)), show t + (11 + 11 * i) = t + 11 + 11 * i by omega]
      exact b2
    · rw [g0]; exact b3
    · rw [g' q p (by omega), show t' + 11 + 11 * i + 1 = t' + (12 + 11 * i) by omega, c1 _ _ (cpd_b hi2 (by omega)), show t + (12 + 11 * i) = t + 11 + 11 * i + 1 by omega]
      exact (b4 q hq).1 p hp
    · rw [g' q 0 (by omega), g' q 1 (by omega), g' q 2 (by omega), g' q 3 (by omega)]
      exact (b4 q hq).2
  · have hi2 : i < 2 := by omega
    obtain ⟨n, p, c, R, P, b1, b2, b3, b4, b5, b6, b7, b8, b9, b10, b11, b12⟩ := a4 i hi
    have g : ∀ k, k < 17 → h'.1 70 (17 * (2 * s' + i) + k) = h.1 70 (17 * (2 * s + i) + k) := fun k hk => by
      have := e70 (17 * i + k) (by omega)
      rw [show 17 * (2 * s' + i) + k = 34 * s' + (17 * i + k) by omega, this, show 34 * s + (17 * i + k) = 17 * (2 * s + i) + k by omega]
    have g0 := g 0 (by omega)
    rw [Nat.add_zero, Nat.add_zero] at g0
    refine ⟨n, p, c, R, P, b1, b2, b3, b4, ?_, ?_, ?_, ?_, ?_, ?_, fun q hq => ⟨(b11 q hq).1, (b11 q hq).2.1, ?_, ?_⟩, fun q hq => ⟨(b12 q hq).1, (b12 q hq).2.1, ?_, ?_⟩⟩
    · rw [show t' + 13 + 11 * i = t' + (13 + 11 * i) by omega, c1 _ _ (cpd_b hi2 (by omega)), show t + (13 + 11 * i) = t + 13 + 11 * i by omega]
      exact b5
    · rw [show t' + 13 + 11 * i = t' + (13 + 11 * i) by omega, c1 _ _ (cpd_b hi2 (by omega)), show t + (13 + 11 * i) = t + 13 + 11 * i by omega]
      exact b6
    · rw [show t' + 13 + 11 * i = t' + (13 + 11 * i) by omega, c1 _ _ (cpd_b hi2 (by omega)), show t + (13 + 11 * i) = t + 13 + 11 * i by omega]
      exact b7
    · rw [g0]; exact b8
    · rw [g 1 (by omega)]; exact b9
    · rw [g 2 (by omega)]; exact b10
    · rw [show t' + 13 + 11 * i + 1 = t' + (14 + 11 * i) by omega, c1 _ _ (cpd_b hi2 (by omega)), show t + (14 + 11 * i) = t + 13 + 11 * i + 1 by omega]
      exact (b11 q hq).2.2.1
    · rw [g (3 + q) (by omega)]; exact (b11 q hq).2.2.2
    · rw [show t' + 13 + 11 * i + 2 = t' + (15 + 11 * i) by omega, c1 _ _ (cpd_b hi2 (by omega)), show t + (15 + 11 * i) = t + 13 + 11 * i + 2 by omega]
      exact (b12 q hq).2.2.1
    · rw [g (9 + q) (by omega)]; exact (b12 q hq).2.2.2
  · have hi2 : i < 2 := by omega
    obtain ⟨w, gg, n, T, X, Y, b1, b2, b3, b4, b5, b6, b7, b8, b9, b10, b11, b12⟩ := a5 i hi
    have g : ∀ k, k < 33 → h'.1 71 (33 * (2 * s' + i) + k) = h.1 71 (33 * (2 * s + i) + k) := fun k hk => by
      have := e71 (33 * i + k) (by omega)
      rw [show 33 * (2 * s' + i) + k = 66 * s' + (33 * i + k) by omega, this, show 66 * s + (33 * i + k) = 33 * (2 * s + i) + k by omega]
    have g0 := g 0 (by omega)
    rw [Nat.add_zero, Nat.add_zero] at g0
    refine ⟨w, gg, n, T, X, Y, b1, b2, b3, b4, b5, ?_, ?_, ?_, ?_, ?_, ?_, fun q hq => ⟨(b12 q hq).1, (b12 q hq).2.1, (b12 q hq).2.2.1, ⟨?_, ?_, ?_⟩, ?_, ?_, ?_⟩⟩
    · rw [show t' + 16 + 11 * i = t' + (16 + 11 * i) by omega, c1 _ _ (cpd_b hi2 (by omega)), show t + (16 + 11 * i) = t + 16 + 11 * i by omega]
      exact b6
    · rw [show t' + 16 + 11 * i = t' + (16 + 11 * i) by omega, c1 _ _ (cpd_b hi2 (by omega)), show t + (16 + 11 * i) = t + 16 + 11 * i by omega]
      exact b7
    · rw [show t' + 16 + 11 * i = t' + (16 + 11 * i) by omega, c1 _ _ (cpd_b hi2 (by omega)), show t + (16 + 11 * i) = t + 16 + 11 * i by omega]
      exact b8
    · rw [g0]; exact b9
    · rw [g 1 (by omega)]; exact b10
    · rw [g 2 (by omega)]; exact b11
    · rw [show t' + 16 + 11 * i + 1 = t' + (17 + 11 * i) by omega, c1 _ _ (cpd_b hi2 (by omega)), show t + (17 + 11 * i) = t + 16 + 11 * i + 1 by omega]
      exact (b12 q hq).2.2.2.1.1
    · rw [show t' + 16 + 11 * i + 1 = t' + (17 + 11 * i) by omega, c1 _ _ (cpd_b hi2 (by omega)), show t + (17 + 11 * i) = t + 16 + 11 * i + 1 by omega]
      exact (b12 q hq).2.2.2.1.2.1
    · rw [show t' + 16 + 11 * i + 1 = t' + (17 + 11 * i) by omega, c1 _ _ (cpd_b hi2 (by omega)), show t + (17 + 11 * i) = t + 16 + 11 * i + 1 by omega]
      exact (b12 q hq).2.2.2.1.2.2
    · rw [g (3 + 3 * q) (by omega)]; exact (b12 q hq).2.2.2.2.1
    · rw [g (4 + 3 * q) (by omega)]; exact (b12 q hq).2.2.2.2.2.1
    · rw [g (5 + 3 * q) (by omega)]; exact (b12 q hq).2.2.2.2.2.2
  · rw [show t' + 7 + 11 * i = t' + (7 + 11 * i) by omega, c1 _ _ (cpd_b hi (by omega)), show t + (7 + 11 * i) = t + 7 + 11 * i by omega]
    exact a6 i hi
/-! the class's take -/
def bk (t : Nat) (a _k : Nat) : Prop := t ≤ a ∧ a < t + 29 ∧ a ≠ t + 10 ∧ a ≠ t + 21
/-- so far copied: D (ints), L (longs) -/
def tI (t1 t0 : Nat) (h0 : qm_H) (D : Nat → Nat → Prop) (L : Nat → Prop) (h : qm_H) : Prop := qFr (bk t0) h0 h ∧ (∀ δ k, D δ k → h.1 (t0 + δ) k = h0.1 (t1 + δ) k) ∧ ∀ i, L i → h.2 (t0 + 7 + 11 * i) 6 = h0.2 (t1 + 7 + 11 * i) 6
section TK
variable {t1 t0 : Nat} {h0 h : qm_H} {D : Nat → Nat → Prop} {L : Nat → Prop}
theorem tI.seti (dj : t1 + 29 ≤ t0 ∨ t0 + 29 ≤ t1) (I : tI t1 t0 h0 D L h) {δ k : Nat} (hδ : δ < 29 ∧ δ ≠ 10 ∧ δ ≠ 21) : tI t1 t0 h0 (fun d q => D d q ∨ (d = δ ∧ q = k)) L (qm_seti h (t0 + δ) k (h.1 (t1 + δ) k)) := by
  obtain ⟨a1, a2, a3⟩ := I
  refine ⟨a1.trans (qFr.seti (by unfold bk; omega)), fun d q hd => ?_, a3⟩
  have e : h.1 (t1 + δ) k = h0.1 (t1 + δ) k := (a1 _ _ (by unfold bk; omega)).1
  by_cases z : d = δ ∧ q = k
  · rw [z.1, z.2, sI_eq, e]
  · rw [sI_ne (by omega)]
    rcases hd with hd | hd
    · exact a2 d q hd
    · exact absurd hd z
theorem tI.setl (dj : t1 + 29 ≤ t0 ∨ t0 + 29 ≤ t1) (I : tI t1 t0 h0 D L h) {i : Nat} (hi : i < 2) : tI t1 t0 h0 D (fun j => L j ∨ j = i) (qm_setl h (t0 + (7 + 11 * i)) 6 (h.2 (t1 + (7 + 11 * i)) 6)) := by
  obtain ⟨a1, a2, a3⟩ := I
  refine ⟨a1.trans (qFr.setl (by unfold bk; omega)), a2, fun j hj => ?_⟩
  have e : h.2 (t1 + (7 + 11 * i)) 6 = h0.2 (t1 + (7 + 11 * i)) 6 := (a1 _ _ (by unfold bk; omega)).2
  show qm_up h.2 (t0 + (7 + 11 * i)) 6 _ (t0 + 7 + 11 * j) 6 = _
  by_cases z : j = i
  · subst z
    rw [show t0 + 7 + 11 * j = t0 + (7 + 11 * j) by omega, up_eq, e, show t1 + (7 + 11 * j) = t1 + 7 + 11 * j by omega]
  · rw [up_ne (by omega)]
    rcases hj with hj | hj
    · exact a3 j hj
    · exact absurd hj z
theorem tI.cp (dj : t1 + 29 ≤ t0 ∨ t0 + 29 ≤ t1) (I : tI t1 t0 h0 D L h) {δ n s : Nat} (hδ : δ < 29 ∧ δ ≠ 10 ∧ δ ≠ 21) (hn : n < 1000) (hs : s = 1 ∨ s = 2 ∧ ∀ i, i < n → fits .byte (.int (h0.1 (t1 + δ) i)) = true) : ∃ h', qm_cp s n (t1 + δ) (nI 0) s n (t0 + δ) (nI 0) (nI n) h = some h' ∧ tI t1 t0 h0 (fun d q => D d q ∨ (d = δ ∧ q < n)) L h' := by
  obtain ⟨a1, a2, a3⟩ := I
  have e : ∀ k, h.1 (t1 + δ) k = h0.1 (t1 + δ) k := fun k => (a1 _ _ (by unfold bk; omega)).1
  have hn0 : (nI 0).toNatClampNeg = 0 := n_cl (by omega)
  have hnn : (nI n).toNatClampNeg = n := n_cl (by omega)
  refine ⟨(fun b j => if b = t0 + δ then va_cpy (h.1 (t1 + δ)) (h.1 (t0 + δ)) 0 0 n j else h.1 b j, h.2), ?_, ?_⟩
  · unfold qm_cp
    rw [if_pos, hn0, hnn]
    refine ⟨rfl, ?_, by decide, by decide, ?_, ?_, ?_⟩
    · rcases hs with hs | ⟨hs, hb⟩
      · exact Or.inl hs
      · refine Or.inr ⟨hs, fun i hi => ?_⟩
        rw [hnn] at hi
        rw [hn0, Nat.zero_add, e]
        exact hb i hi
    · rw [k_0, n_lt (by omega) (by omega)]
      omega
    · rw [hn0, hnn]; omega
    · rw [hn0, hnn]; omega
  · refine ⟨fun a k hk => ?_, fun d q hd => ?_, a3⟩
    · refine ⟨?_, (a1 a k hk).2⟩
      show (if a = t0 + δ then _ else h.1 a k) = _
      rw [if_neg (by unfold bk at hk; omega)]
      exact (a1 a k hk).1
    · show (if t0 + d = t0 + δ then va_cpy (h.1 (t1 + δ)) (h.1 (t0 + δ)) 0 0 n q else h.1 (t0 + d) q) = _
      by_cases z : d = δ
      · subst z
        rw [if_pos rfl]
        unfold va_cpy
        by_cases y : q < n
        · rw [if_pos (by omega), e, show 0 + (q - 0) = q by omega]
        · rw [if_neg (by omega)]
          rcases hd with hd | hd
          · exact a2 d q hd
          · omega
      · rw [if_neg (by omega)]
        rcases hd with hd | hd
        · exact a2 d q hd
        · exact absurd hd.1 z
theorem tI.mono {D' : Nat → Nat → Prop} {L' : Nat → Prop} (I : tI t1 t0 h0 D L h) (hD : ∀ d q, D' d q → D d q) (hL : ∀ i, L' i → L i) : tI t1 t0 h0 D' L' h := ⟨I.1, fun d q z => I.2.1 d q (hD d q z), fun i z => I.2.2 i (hL i z)⟩
theorem tk_b (dj : t1 + 29 ≤ t0 ∨ t0 + 29 ≤ t1) (I : tI t1 t0 h0 D L h) {i : Nat} (hi : i < 2) (hb : h0.1 (t1 + (7 + 11 * i)) 5 &&& 1 = h0.1 (t1 + (7 + 11 * i)) 5) : ∃ h', qX0_take (t0 + (7 + 11 * i)) (t1 + (7 + 11 * i)) h = some h' ∧ tI t1 t0 h0 (fun d q => D d q ∨ (d = 7 + 11 * i ∧ 3 ≤ q ∧ q ≤ 5) ∨ ((d = 8 + 11 * i ∨ d = 9 + 11 * i) ∧ q < 16)) (fun j => L j ∨ j = i) h' := by
  have I1 := I.seti dj (δ := 7 + 11 * i) (k := 3) (by omega)
  have I2 := I1.seti dj (δ := 7 + 11 * i) (k := 4) (by omega)
  have I3 := I2.seti dj (δ := 7 + 11 * i) (k := 5) (by omega)
  have I4 := I3.setl dj hi
  obtain ⟨h5, e5, I5⟩ := I4.cp dj (δ := 8 + 11 * i) (n := 16) (s := 1) (by omega) (by omega) (Or.inl rfl)
  obtain ⟨h6, e6, I6⟩ := I5.cp dj (δ := 9 + 11 * i) (n := 16) (s := 1) (by omega) (by omega) (Or.inl rfl)
  refine ⟨h6, ?_, I6.mono (fun d q z => ?_) (fun j z => z)⟩
  · have e : ∀ k, (qm_seti (qm_seti h (t0 + (7 + 11 * i)) 3 (h.1 (t1 + (7 + 11 * i)) 3)) (t0 + (7 + 11 * i)) 4 ((qm_seti h (t0 + (7 + 11 * i)) 3 (h.1 (t1 + (7 + 11 * i)) 3)).1 (t1 + (7 + 11 * i)) 4)).1 (t1 + (7 + 11 * i)) k = h0.1 (t1 + (7 + 11 * i)) k := fun k => (I2.1 _ _ (by unfold bk; omega)).1
    unfold qX0_take
    simp only [let_e]
    rw [if_pos (by have z := e 5; simp only [qm_seti] at z; rw [z]; exact hb), k_16, k_0, show t1 + (7 + 11 * i) + 1 = t1 + (8 + 11 * i) by omega, show t0 + (7 + 11 * i) + 1 = t0 + (8 + 11 * i) by omega, show t1 + (7 + 11 * i) + 2 = t1 + (9 + 11 * i) by omega, show t0 + (7 + 11 * i) + 2 = t0 + (9 + 11 * i) by omega, e5, ob_some, e6, ob_some]
  · rcases z with z | z | ⟨z | z, w⟩
    · exact Or.inl (Or.inl (Or.inl (Or.inl (Or.inl z))))
    · have : q = 3 ∨ q = 4 ∨ q = 5 := by omega
      rcases this with y | y | y
      · exact Or.inl (Or.inl (Or.inl (Or.inl (Or.inr ⟨z.1, y⟩))))
      · exact Or.inl (Or.inl (Or.inl (Or.inr ⟨z.1, y⟩)))
      · exact Or.inl (Or.inl (Or.inr ⟨z.1, y⟩))
    · exact Or.inl (Or.inr ⟨z, w⟩)
    · exact Or.inr ⟨z, w⟩
theorem tk_y (dj : t1 + 29 ≤ t0 ∨ t0 + 29 ≤ t1) (I : tI t1 t0 h0 D L h) {i : Nat} (hi : i < 2) : ∃ h', qX10_take (t0 + (11 + 11 * i)) (t1 + (11 + 11 * i)) h = some h' ∧ tI t1 t0 h0 (fun d q => D d q ∨ (d = 11 + 11 * i ∧ q = 1) ∨ (d = 12 + 11 * i ∧ q < 160)) L h' := by
  obtain ⟨h5, e5, I5⟩ := I.cp dj (δ := 12 + 11 * i) (n := 160) (s := 1) (by omega) (by omega) (Or.inl rfl)
  have I6 := I5.seti dj (δ := 11 + 11 * i) (k := 1) (by omega)
  refine ⟨_, ?_, I6.mono (fun d q z => ?_) (fun j z => z)⟩
  · unfold qX10_take
    rw [k_160, k_0, show t1 + (11 + 11 * i) + 1 = t1 + (12 + 11 * i) by omega, show t0 + (11 + 11 * i) + 1 = t0 + (12 + 11 * i) by omega, e5, ob_some, let_e]
  · rcases z with z | z | z
    · exact Or.inl (Or.inl z)
    · exact Or.inr z
    · exact Or.inl (Or.inr z)
theorem tk_p (dj : t1 + 29 ≤ t0 ∨ t0 + 29 ≤ t1) (I : tI t1 t0 h0 D L h) {i : Nat} (hi : i < 2) : ∃ h', qX2_take (t0 + (13 + 11 * i)) (t1 + (13 + 11 * i)) h = some h' ∧ tI t1 t0 h0 (fun d q => D d q ∨ (d = 13 + 11 * i ∧ 2 ≤ q ∧ q ≤ 4) ∨ (d = 14 + 11 * i ∧ q < 6) ∨ (d = 15 + 11 * i ∧ q < 8)) L h' := by
  obtain ⟨h5, e5, I5⟩ := I.cp dj (δ := 14 + 11 * i) (n := 6) (s := 1) (by omega) (by omega) (Or.inl rfl)
  obtain ⟨h6, e6, I6⟩ := I5.cp dj (δ := 15 + 11 * i) (n := 8) (s := 1) (by omega) (by omega) (Or.inl rfl)
  have I7 := I6.seti dj (δ := 13 + 11 * i) (k := 2) (by omega)
  have I8 := I7.seti dj (δ := 13 + 11 * i) (k := 3) (by omega)
  have I9 := I8.seti dj (δ := 13 + 11 * i) (k := 4) (by omega)
  refine ⟨_, ?_, I9.mono (fun d q z => ?_) (fun j z => z)⟩
  · unfold qX2_take
    rw [k_6, k_8, k_0, show t1 + (13 + 11 * i) + 1 = t1 + (14 + 11 * i) by omega, show t0 + (13 + 11 * i) + 1 = t0 + (14 + 11 * i) by omega, show t1 + (13 + 11 * i) + 2 = t1 + (15 + 11 * i) by omega, show t0 + (13 + 11 * i) + 2 = t0 + (15 + 11 * i) by omega, e5, ob_some, e6, ob_some]
    simp only [let_e]
  · rcases z with z | z | z | z
    · exact Or.inl (Or.inl (Or.inl (Or.inl (Or.inl z))))
    · have : q = 2 ∨ q = 3 ∨ q = 4 := by omega
      rcases this with y | y | y
      · exact Or.inl (Or.inl (Or.inr ⟨z.1, y⟩))
      · exact Or.inl (Or.inr ⟨z.1, y⟩)
      · exact Or.inr ⟨z.1, y⟩
    · exact Or.inl (Or.inl (Or.inl (Or.inl (Or.inr z))))
    · exact Or.inl (Or.inl (Or.inl (Or.inr z)))
theorem tk_c (dj : t1 + 29 ≤ t0 ∨ t0 + 29 ≤ t1) (I : tI t1 t0 h0 D L h) {i : Nat} (hi : i < 2) : ∃ h', qX1_take (t0 + (16 + 11 * i)) (t1 + (16 + 11 * i)) h = some h' ∧ tI t1 t0 h0 (fun d q => D d q ∨ (d = 16 + 11 * i ∧ 1 ≤ q ∧ q ≤ 3) ∨ (d = 17 + 11 * i ∧ q < 30)) L h' := by
  obtain ⟨h5, e5, I5⟩ := I.cp dj (δ := 17 + 11 * i) (n := 30) (s := 1) (by omega) (by omega) (Or.inl rfl)
  have I7 := I5.seti dj (δ := 16 + 11 * i) (k := 1) (by omega)
  have I8 := I7.seti dj (δ := 16 + 11 * i) (k := 2) (by omega)
  have I9 := I8.seti dj (δ := 16 + 11 * i) (k := 3) (by omega)
  refine ⟨_, ?_, I9.mono (fun d q z => ?_) (fun j z => z)⟩
  · unfold qX1_take
    rw [k_30, k_0, show t1 + (16 + 11 * i) + 1 = t1 + (17 + 11 * i) by omega, show t0 + (16 + 11 * i) + 1 = t0 + (17 + 11 * i) by omega, e5, ob_some]
    simp only [let_e]
  · rcases z with z | z | z
    · exact Or.inl (Or.inl (Or.inl (Or.inl z)))
    · have : q = 1 ∨ q = 2 ∨ q = 3 := by omega
      rcases this with y | y | y
      · exact Or.inl (Or.inl (Or.inr ⟨z.1, y⟩))
      · exact Or.inl (Or.inr ⟨z.1, y⟩)
      · exact Or.inr ⟨z.1, y⟩
    · exact Or.inl (Or.inl (Or.inl (Or.inr z)))
end TK
def cpd4 (i d q : Nat) : Prop := (d = 7 + 11 * i ∧ 3 ≤ q ∧ q ≤ 5) ∨ ((d = 8 + 11 * i ∨ d = 9 + 11 * i) ∧ q < 16) ∨ (d = 11 + 11 * i ∧ q = 1) ∨ (d = 12 + 11 * i ∧ q < 160) ∨ (d = 13 + 11 * i ∧ 2 ≤ q ∧ q ≤ 4) ∨ (d = 14 + 11 * i ∧ q < 6) ∨ (d = 15 + 11 * i ∧ q < 8) ∨ (d = 16 + 11 * i ∧ 1 ≤ q ∧ q ≤ 3) ∨ (d = 17 + 11 * i ∧ q < 30)
theorem tk_56 {t1 t0 : Nat} {h0 : qm_H} (dj : t1 + 29 ≤ t0 ∨ t0 + 29 ≤ t1) (hb : ∀ i, i < 2 → h0.1 (t1 + (7 + 11 * i)) 5 &&& 1 = h0.1 (t1 + (7 + 11 * i)) 5) : ∀ d i h fuel (D : Nat → Nat → Prop) (L : Nat → Prop), i + d = 2 → d < fuel → tI t1 t0 h0 D L h → (∀ j, j < i → L j) → (∀ j, j < i → ∀ δ k, cpd4 j δ k → D δ k) → ∃ h', qX9_take_56 fuel t0 t1 (nI i) h = some h' ∧ tI t1 t0 h0 (fun δ k => D δ k ∨ ∃ j, j < 2 ∧ cpd4 j δ k) (fun j => j < 2) h' := by
  intro d
  induction d with
  | zero =>
    intro i h fuel D L hi hf I hL hD
    obtain ⟨g, rfl⟩ : ∃ g, fuel = g + 1 := ⟨fuel - 1, by omega⟩
    refine ⟨h, ?_, I.mono (fun δ k z => ?_) (fun j z => hL j (by omega))⟩
    · unfold qX9_take_56
      simp (disch := omega) only [↓reduceIte, ↓q_m1, ↓q_m2, k_o, k_0, k_1, k_2, k_3, k_4, k_5, k_6, k_7, k_8, k_9, k_10, k_11, k_16, k_17, k_19, k_20, k_24, k_26, k_27, k_30, k_32, k_33, k_35, k_40, k_43, k_48, k_50, k_57, k_60, k_64, k_81, k_86, k_34, k_66, k_322, k_97, k_99, k_100, k_122, k_128, k_160, k_161, k_255, k_256, k_512, k_580, k_600, k_1000, k_4096, k_far, k_o, nI_add, n_mul, n_sub, n_div, n_rem, n_lt, n_le, n_eq, n_cl, n_and, n_or, n_xor, m1_lt, lt_m1, m1_eq, eq_m1, le_m1, m1_le, m2_eq, up_eq, up_ne, n_shl, n_shr, b2_some, let_e, ob_some, bI_0, bI_a, bI_t, bI_f, if_true, if_false, ite_true, ite_false, true_and, and_true, false_and, and_false, true_or, or_true, false_or, or_false, not_true_eq_false, not_false_eq_true, ite_not, ne_eq, Bool.true_eq_false, Bool.false_eq_true, reduceCtorEq, decide_true, decide_false, Bool.and_true, Bool.and_false, Bool.true_and, Bool.false_and, Bool.or_true, Bool.or_false, Bool.not_true, Bool.not_false, Nat.add_zero, Nat.zero_add, eq_self, Nat.not_lt_zero, Nat.reduceAdd, Nat.reduceMul, Nat.reduceSub, Nat.reduceDiv, Nat.reduceMod, Nat.reduceAnd, Nat.reduceXor, Nat.reduceEqDiff, Nat.reducePow, lt_T, lt_F, le_T, le_F, eq_F]
    · rcases z with z | ⟨j, hj, z⟩
      · exact z
      · exact hD j (by omega) δ k z
  | succ d ih =>
    intro i h fuel D L hi hf I hL hD
    obtain ⟨g, rfl⟩ : ∃ g, fuel = g + 1 := ⟨fuel - 1, by omega⟩
    have hi2 : i < 2 := by omega
    obtain ⟨h1, e1, I1⟩ := tk_b dj I hi2 (hb i hi2)
    obtain ⟨h2, e2, I2⟩ := tk_y dj I1 hi2
    obtain ⟨h3, e3, I3⟩ := tk_p dj I2 hi2
    obtain ⟨h4, e4, I4⟩ := tk_c dj I3 hi2
    have I5 : tI t1 t0 h0 (fun δ k => D δ k ∨ cpd4 i δ k) (fun j => L j ∨ j = i) h4 := I4.mono (fun δ k z => by
      rcases z with z | z
      · exact Or.inl (Or.inl (Or.inl (Or.inl z)))
      · unfold cpd4 at z
        rcases z with z | z | z | z | z | z | z | z | z
        · exact Or.inl (Or.inl (Or.inl (Or.inr (Or.inl z))))
        · exact Or.inl (Or.inl (Or.inl (Or.inr (Or.inr z))))
        · exact Or.inl (Or.inl (Or.inr (Or.inl z)))
        · exact Or.inl (Or.inl (Or.inr (Or.inr z)))
        · exact Or.inl (Or.inr (Or.inl z))
        · exact Or.inl (Or.inr (Or.inr (Or.inl z)))
        · exact Or.inl (Or.inr (Or.inr (Or.inr z)))
        · exact Or.inr (Or.inl z)
        · exact Or.inr (Or.inr z)) (fun j z => z)
    obtain ⟨h5, e5, I6⟩ := ih (i + 1) h4 g _ _ (by omega) (by omega) I5 (fun j hj => by
      by_cases z : j = i
      · exact Or.inr z
      · exact Or.inl (hL j (by omega))) (fun j hj δ k z => by
      by_cases y : j = i
      · subst y
        exact Or.inr z
      · exact Or.inl (hD j (by omega) δ k z))
    refine ⟨h5, ?_, I6.mono (fun δ k z => ?_) (fun j z => z)⟩
    · unfold qX9_take_56
      rw [show t0 + (7 + 11 * i) = t0 + 3 + 4 + 11 * i by omega, show t1 + (7 + 11 * i) = t1 + 3 + 4 + 11 * i by omega] at e1
      rw [show t0 + (11 + 11 * i) = t0 + 4 + 7 + 11 * i by omega, show t1 + (11 + 11 * i) = t1 + 4 + 7 + 11 * i by omega] at e2
      rw [show t0 + (13 + 11 * i) = t0 + 5 + 8 + 11 * i by omega, show t1 + (13 + 11 * i) = t1 + 5 + 8 + 11 * i by omega] at e3
      rw [show t0 + (16 + 11 * i) = t0 + 6 + 10 + 11 * i by omega, show t1 + (16 + 11 * i) = t1 + 6 + 10 + 11 * i by omega] at e4
      simp (disch := omega) only [↓reduceIte, ↓q_m1, ↓q_m2, k_o, k_0, k_1, k_2, k_3, k_4, k_5, k_6, k_7, k_8, k_9, k_10, k_11, k_16, k_17, k_19, k_20, k_24, k_26, k_27, k_30, k_32, k_33, k_35, k_40, k_43, k_48, k_50, k_57, k_60, k_64, k_81, k_86, k_34, k_66, k_322, k_97, k_99, k_100, k_122, k_128, k_160, k_161, k_255, k_256, k_512, k_580, k_600, k_1000, k_4096, k_far, k_o, nI_add, n_mul, n_sub, n_div, n_rem, n_lt, n_le, n_eq, n_cl, n_and, n_or, n_xor, m1_lt, lt_m1, m1_eq, eq_m1, le_m1, m1_le, m2_eq, up_eq, up_ne, n_shl, n_shr, b2_some, let_e, ob_some, bI_0, bI_a, bI_t, bI_f, if_true, if_false, ite_true, ite_false, true_and, and_true, false_and, and_false, true_or, or_true, false_or, or_false, not_true_eq_false, not_false_eq_true, ite_not, ne_eq, Bool.true_eq_false, Bool.false_eq_true, reduceCtorEq, decide_true, decide_false, Bool.and_true, Bool.and_false, Bool.true_and, Bool.false_and, Bool.or_true, Bool.or_false, Bool.not_true, Bool.not_false, Nat.add_zero, Nat.zero_add, eq_self, Nat.not_lt_zero, Nat.reduceAdd, Nat.reduceMul, Nat.reduceSub, Nat.reduceDiv, Nat.reduceMod, Nat.reduceAnd, Nat.reduceXor, Nat.reduceEqDiff, Nat.reducePow, lt_T, lt_F, le_T, le_F, eq_F, e1, e2, e3, e4]
      exact e5
    · rcases z with z | z
      · exact Or.inl (Or.inl z)
      · exact Or.inr z
theorem c_take {t1 t0 : Nat} {h : qm_H} (dj : t1 + 29 ≤ t0 ∨ t0 + 29 ≤ t1) (hb : ∀ i, i < 2 → h.1 (t1 + 7 + 11 * i) 5 &&& 1 = h.1 (t1 + 7 + 11 * i) 5) (hf : ∀ j, j < 600 → fits .byte (.int (h.1 (t1 + 1) j)) = true) : ∃ h', qX9_take t0 t1 h = some h' ∧ qFr (bk t0) h h' ∧ cpC t1 t0 h h' := by
  have I0 : tI t1 t0 h (fun _ _ => False) (fun _ => False) h := ⟨qFr.refl _ _, fun _ _ z => z.elim, fun _ z => z.elim⟩
  obtain ⟨h1, e1, I1⟩ := I0.cp dj (δ := 1) (n := 600) (s := 2) (by omega) (by omega) (Or.inr ⟨rfl, hf⟩)
  obtain ⟨h2, e2, I2⟩ := I1.cp dj (δ := 2) (n := 4) (s := 1) (by omega) (by omega) (Or.inl rfl)
  have I3 := I2.seti dj (δ := 0) (k := 6) (by omega)
  have I4 := I3.seti dj (δ := 0) (k := 7) (by omega)
  have I5 := I4.seti dj (δ := 0) (k := 8) (by omega)
  obtain ⟨h6, e6, I6⟩ := tk_56 dj (fun i hi => by
    have := hb i hi
    rw [show t1 + 7 + 11 * i = t1 + (7 + 11 * i) by omega] at this
    exact this) 2 0 _ qm_N _ _ (by omega) (by unfold qm_N; omega) I5 (fun j hj => absurd hj (Nat.not_lt_zero j)) (fun j hj => absurd hj (Nat.not_lt_zero j))
  refine ⟨h6, ?_, I6.1, fun δ k z => I6.2.1 δ k ?_, fun i hi => I6.2.2 i hi⟩
  · unfold qX9_take
    rw [k_600, k_4, k_0, e1, ob_some, e2, ob_some]
    simp only [let_e]
    exact e6
  · rcases z with z | z | z | ⟨i, hi, z⟩
    · have : k = 6 ∨ k = 7 ∨ k = 8 := by omega
      rcases this with y | y | y
      · exact Or.inl (Or.inl (Or.inl (Or.inr ⟨z.1, y⟩)))
      · exact Or.inl (Or.inl (Or.inr ⟨z.1, y⟩))
      · exact Or.inl (Or.inr ⟨z.1, y⟩)
    · exact Or.inl (Or.inl (Or.inl (Or.inl (Or.inl (Or.inr z)))))
    · exact Or.inl (Or.inl (Or.inl (Or.inl (Or.inr z))))
    · exact Or.inr ⟨i, hi, z⟩
