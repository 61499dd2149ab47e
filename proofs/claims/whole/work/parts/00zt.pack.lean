/-! cutting: ways to share pieces out among rods. -/
/-- s is a and b, which have nothing in common -/
def spl (s a b : Nat) : Prop := ∀ i, s.testBit i = (a.testBit i || b.testBit i) ∧ (a.testBit i && b.testBit i) = false
theorem spl.symm {s a b : Nat} (S : spl s a b) : spl s b a := fun i => ⟨by rw [(S i).1, Bool.or_comm], by rw [Bool.and_comm]; exact (S i).2⟩
theorem spl_0 (s : Nat) : spl s s 0 := fun i => ⟨by rw [Nat.zero_testBit, Bool.or_false], by rw [Nat.zero_testBit, Bool.and_false]⟩
theorem spl.eq0 {s a : Nat} (S : spl s a 0) : s = a := Nat.eq_of_testBit_eq (fun i => by rw [(S i).1, Nat.zero_testBit, Bool.or_false])
theorem spl.eq1 {s a : Nat} (S : spl s 0 a) : s = a := S.symm.eq0
theorem spl.asc {s a b c d : Nat} (S : spl s a b) (T : spl b c d) : spl (a ||| c) a c ∧ spl s (a ||| c) d := by
  refine ⟨fun i => ⟨Nat.testBit_or .., ?_⟩, fun i => ?_⟩
  · have h1 := S i
    have h2 := T i
    revert h1 h2
    cases s.testBit i <;> cases a.testBit i <;> cases b.testBit i <;> cases c.testBit i <;> cases d.testBit i <;> decide
  · have h1 := S i
    have h2 := T i
    rw [Nat.testBit_or]
    revert h1 h2
    cases s.testBit i <;> cases a.testBit i <;> cases b.testBit i <;> cases c.testBit i <;> cases d.testBit i <;> decide
theorem spl.asc' {s a b c d : Nat} (S : spl s a b) (T : spl a c d) : spl (d ||| b) d b ∧ spl s c (d ||| b) := by
  have o := S.symm.asc T.symm
  rw [Nat.or_comm] at o
  exact ⟨o.1.symm, o.2.symm⟩
def AtP (C : Nat → Nat → Nat → Prop) : Nat → Nat → Nat → Prop
  | 0, s, v => s = 0 ∧ v = 0
  | r + 1, s, v => ∃ a t v1 v2, spl s a t ∧ AtP C r a v1 ∧ C r t v2 ∧ v = v1 + v2
def AtS (C : Nat → Nat → Nat → Prop) (n : Nat) : Nat → Nat → Nat → Prop
  | 0, s, v => s = 0 ∧ v = 0
  | d + 1, s, v => ∃ t a v1 v2, spl s t a ∧ C (n - (d + 1)) t v1 ∧ AtS C n d a v2 ∧ v = v1 + v2
theorem At_mid {C : Nat → Nat → Nat → Prop} {n s v : Nat} : ∀ d, d ≤ n → (AtP C n s v ↔ ∃ a b v1 v2, spl s a b ∧ AtP C (n - d) a v1 ∧ AtS C n d b v2 ∧ v = v1 + v2) := by
  intro d
  induction d with
  | zero =>
    intro _
    constructor
    · intro h
      exact ⟨s, 0, v, 0, spl_0 s, h, ⟨rfl, rfl⟩, rfl⟩
    · rintro ⟨a, b, v1, v2, S, h1, ⟨rfl, rfl⟩, rfl⟩
      rw [S.eq0]
      exact h1
  | succ d ih =>
    intro hd
    rw [ih (by omega), show n - d = (n - (d + 1)) + 1 by omega]
    constructor
    · rintro ⟨a, b, v1, v2, S, ⟨a', t, w1, w2, T, h1, h2, rfl⟩, h3, rfl⟩
      obtain ⟨o1, o2⟩ := S.asc' T
      exact ⟨a', t ||| b, w1, w2 + v2, o2, h1, ⟨t, b, w2, v2, o1, h2, h3, rfl⟩, by omega⟩
    · rintro ⟨a, b, v1, v2, S, h1, ⟨t, b', w1, w2, T, h2, h3, rfl⟩, rfl⟩
      obtain ⟨o1, o2⟩ := S.asc T
      exact ⟨a ||| t, b', v1 + w1, w2, o2, ⟨a, t, v1, w1, o1, h1, h2, rfl⟩, h3, by omega⟩
/-- from either end the same can be had -/
theorem At_eq {C : Nat → Nat → Nat → Prop} {n s v : Nat} : AtP C n s v ↔ AtS C n n s v := by
  rw [At_mid n (Nat.le_refl n), Nat.sub_self]
  constructor
  · rintro ⟨a, b, v1, v2, S, ⟨rfl, rfl⟩, h, rfl⟩
    rw [S.eq1, Nat.zero_add]
    exact h
  · intro h
    exact ⟨0, s, 0, v, (spl_0 s).symm, ⟨rfl, rfl⟩, h, (Nat.zero_add v).symm⟩
/-- a price more at each rod is their sum more -/
theorem AtP_add {C C' : Nat → Nat → Nat → Prop} {m n : Nat} {p : Nat → Nat} (H : ∀ r t v, r < n → (∀ i, t.testBit i = true → m.testBit i = true) → (C' r t v ↔ ∃ v0, C r t v0 ∧ v = v0 + p r)) : ∀ r, r ≤ n → ∀ s v, (∀ i, s.testBit i = true → m.testBit i = true) → (AtP C' r s v ↔ ∃ v0, AtP C r s v0 ∧ v = v0 + fb_sm p r) := by
  intro r
  induction r with
  | zero =>
    intro _ s v _
    constructor
    · rintro ⟨h1, h2⟩
      exact ⟨0, ⟨h1, rfl⟩, h2⟩
    · rintro ⟨v0, ⟨h1, rfl⟩, h2⟩
      exact ⟨h1, h2⟩
  | succ r ih =>
    intro hr s v hs
    constructor
    · rintro ⟨a, t, v1, v2, S, h1, h2, rfl⟩
      obtain ⟨w1, k1, rfl⟩ := (ih (by omega) a v1 (fun i hi => hs i (by rw [(S i).1, hi]; rfl))).mp h1
      obtain ⟨w2, k2, rfl⟩ := (H r t v2 (by omega) (fun i hi => hs i (by rw [(S i).1, hi, Bool.or_true]))).mp h2
      exact ⟨w1 + w2, ⟨a, t, w1, w2, S, k1, k2, rfl⟩, by rw [fb_sm_succ]; omega⟩
    · rintro ⟨v0, ⟨a, t, v1, v2, S, h1, h2, rfl⟩, e⟩
      refine ⟨a, t, v1 + fb_sm p r, v2 + p r, S, (ih (by omega) a _ (fun i hi => hs i (by rw [(S i).1, hi]; rfl))).mpr ⟨v1, h1, rfl⟩, (H r t _ (by omega) (fun i hi => hs i (by rw [(S i).1, hi, Bool.or_true]))).mpr ⟨v2, h2, rfl⟩, ?_⟩
      rw [e, fb_sm_succ]
      omega
/-- the least that can be had, at most a million -/
def lea (A : Nat → Prop) (x : Nat) : Prop := x ≤ 1000000 ∧ (∀ v, A v → x ≤ v) ∧ (x < 1000000 → A x)
theorem lea.one {A B : Nat → Prop} {x y : Nat} (L : lea A x) (M : lea B y) (H : ∀ v, A v ↔ B v) : x = y := by
  obtain ⟨l1, l2, l3⟩ := L
  obtain ⟨m1, m2, m3⟩ := M
  by_cases q : x < 1000000
  · have := m2 x ((H x).mp (l3 q))
    have := l2 y ((H y).mpr (m3 (by omega)))
    omega
  · by_cases q2 : y < 1000000
    · have := l2 y ((H y).mpr (m3 q2))
      omega
    · omega
/-- the part of s that comes after t -/
theorem sub_next : ∀ s t u : Nat, (∀ i, t.testBit i = true → s.testBit i = true) → (∀ i, u.testBit i = true → s.testBit i = true) → u < t → u ≤ (t - 1) &&& s := by
  intro s
  induction s using Nat.strongRecOn with
  | ind s ih =>
    intro t u ht hu hut
    have hs0 : s ≠ 0 := fun e => by
      subst e
      have : t = 0 := Nat.eq_of_testBit_eq (fun i => by
        rw [Nat.zero_testBit]
        cases q : t.testBit i
        · rfl
        · have := ht i q
          rw [Nat.zero_testBit] at this
          cases this)
      omega
    have h0 : ∀ x : Nat, (x % 2 = 1) = (x.testBit 0 = true) := fun x => by rw [Nat.testBit_zero, decide_eq_true_iff]
    have hd : ∀ x i : Nat, (x / 2).testBit i = x.testBit (i + 1) := fun x i => (Nat.testBit_succ x i).symm
    have et := Nat.div_add_mod t 2
    have eu := Nat.div_add_mod u 2
    have u0 : u % 2 ≤ s % 2 := by
      by_cases q : u % 2 = 1
      · have := hu 0 (by rw [← h0]; exact q)
        rw [← h0] at this
        omega
      · omega
    have a2 : ((t - 1) &&& s) / 2 = (t - 1) / 2 &&& s / 2 := Nat.eq_of_testBit_eq (fun i => by rw [hd, Nat.testBit_and, Nat.testBit_and, hd, hd])
    have ea := Nat.div_add_mod ((t - 1) &&& s) 2
    rw [a2] at ea
    by_cases b : t % 2 = 1
    · have e1 : (t - 1) / 2 = t / 2 := by omega
      have e2 : t / 2 &&& s / 2 = t / 2 := Nat.eq_of_testBit_eq (fun i => by
        rw [Nat.testBit_and, hd, hd]
        cases q : t.testBit (i + 1)
        · rfl
        · rw [ht _ q]
          rfl)
      rw [e1, e2] at ea
      omega
    · have e1 : (t - 1) / 2 = t / 2 - 1 := by omega
      have o := ih (s / 2) (by omega) (t / 2) (u / 2) (fun i hi => by rw [hd] at hi ⊢; exact ht _ hi) (fun i hi => by rw [hd] at hi ⊢; exact hu _ hi) (by omega)
      rw [e1] at ea
      have a0 : ((t - 1) &&& s) % 2 = s % 2 := by
        have z : (((t - 1) &&& s).testBit 0) = (s.testBit 0) := by
          rw [Nat.testBit_and, show (t - 1).testBit 0 = true by rw [← h0]; omega, Bool.true_and]
        have z1 := h0 ((t - 1) &&& s)
        have z2 := h0 s
        rw [z, ← z2] at z1
        have := z1 ▸ Iff.rfl (a := ((t - 1) &&& s) % 2 = 1)
        have y1 := Nat.mod_two_eq_zero_or_one ((t - 1) &&& s)
        have y2 := Nat.mod_two_eq_zero_or_one s
        rcases y1 with y1 | y1 <;> rcases y2 with y2 | y2
        · omega
        · have := z1 ▸ y2
          omega
        · have := z1 ▸ y1
          omega
        · omega
      omega
