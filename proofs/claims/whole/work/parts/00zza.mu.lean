/-! cutting: pieces that are cut already. -/
theorem Wt_spl {P : Nat → Nat} {s a t : Nat} (S : spl s a t) : Wt P s = Wt P a + Wt P t := by
  unfold Wt
  rw [← fb_sm_add]
  refine fb_sm_cong (fun i _ => ?_)
  show (if s.testBit i then P i else 0) = (if a.testBit i then P i else 0) + (if t.testBit i then P i else 0)
  have := S i
  revert this
  cases s.testBit i <;> cases a.testBit i <;> cases t.testBit i <;> simp
section MU
variable {π : qQ} {mu : Nat → Nat}
def lfm (π : qQ) (mu : Nat → Nat) (r : Nat) : Nat := pR π r - Wt (pO π 0) (mu r)
def pcm (mu : Nat → Nat) (r : Nat) : Nat := if mu r = 0 then 1 else 0
def spm (mu : Nat → Nat) (r : Nat) : Nat := if mu r = 0 then 0 else 1
def djn (t m : Nat) : Prop := ∀ i, (t.testBit i && m.testBit i) = false
theorem djn_spl {t m : Nat} (d : djn t m) : spl (t ||| m) t m := fun i => ⟨Nat.testBit_or .., d i⟩
theorem rC_mu {r t v : Nat} (hw : Wt (pO π 0) (mu r) ≤ pR π r) (d : djn t (mu r)) : rC π mu 0 r t v ↔ ∃ v0, cC (pO π 0) (lfm π mu) (pcm mu) r t v0 ∧ v = v0 + spm mu r := by
  have ew := Wt_spl (P := pO π 0) (djn_spl d)
  unfold rC cC kRd pri lfm pcm spm
  rw [if_pos rfl, ew]
  by_cases q : t = 0
  · subst q
    rw [Nat.zero_or, Wt_0]
    constructor
    · rintro ⟨_, h⟩
      exact ⟨0, Or.inl ⟨rfl, rfl⟩, by rw [h, Nat.zero_add]⟩
    · rintro ⟨v0, (⟨_, rfl⟩ | ⟨h, _⟩), e⟩
      · exact ⟨by omega, by rw [e, Nat.zero_add]⟩
      · exact absurd rfl h
  · have q2 : ¬ (t ||| mu r = 0) := fun e => q (Nat.eq_of_testBit_eq (fun i => by
      have := congrArg (fun x => Nat.testBit x i) e
      simp only [Nat.testBit_or, Nat.zero_testBit] at this ⊢
      revert this
      cases t.testBit i <;> simp))
    rw [if_neg q2]
    by_cases z : mu r = 0
    · rw [if_pos z, if_pos z]
      constructor
      · rintro ⟨h1, h2⟩
        exact ⟨1, Or.inr ⟨q, by omega, rfl⟩, h2⟩
      · rintro ⟨v0, (⟨h, _⟩ | ⟨_, h1, rfl⟩), e⟩
        · exact absurd h q
        · exact ⟨by omega, e⟩
    · rw [if_neg z, if_neg z]
      constructor
      · rintro ⟨h1, h2⟩
        exact ⟨0, Or.inr ⟨q, by omega, rfl⟩, by omega⟩
      · rintro ⟨v0, (⟨h, _⟩ | ⟨_, h1, rfl⟩), e⟩
        · exact absurd h q
        · exact ⟨by omega, by omega⟩
/-- with pieces cut already: what they cost, and the rest -/
theorem At_mu {s v : Nat} (hw : ∀ r, r < pn π → Wt (pO π 0) (mu r) ≤ pR π r) (d : ∀ r, r < pn π → djn s (mu r)) : AtP (rC π mu 0) (pn π) s v ↔ ∃ v0, AtP (cC (pO π 0) (lfm π mu) (pcm mu)) (pn π) s v0 ∧ v = v0 + fb_sm (spm mu) (pn π) := by
  have H : ∀ r t v, r < pn π → (∀ i, t.testBit i = true → s.testBit i = true) → (rC π mu 0 r t v ↔ ∃ v0, cC (pO π 0) (lfm π mu) (pcm mu) r t v0 ∧ v = v0 + spm mu r) := by
    intro r t v hr ht
    refine rC_mu (hw r hr) (fun i => ?_)
    have h1 := ht i
    have h2 := d r hr i
    revert h1 h2
    cases t.testBit i <;> cases s.testBit i <;> cases (mu r).testBit i <;> decide
  exact AtP_add (C := cC (pO π 0) (lfm π mu) (pcm mu)) (C' := rC π mu 0) (m := s) (n := pn π) (p := spm mu) H (pn π) (Nat.le_refl _) s v (fun i hi => hi)
end MU
theorem AtP_cong {C C' : Nat → Nat → Nat → Prop} : ∀ {n : Nat}, (∀ r t v, r < n → (C r t v ↔ C' r t v)) → ∀ {s v : Nat}, AtP C n s v ↔ AtP C' n s v := by
  intro n
  induction n with
  | zero =>
    intro _ s v
    exact Iff.rfl
  | succ n ih =>
    intro H s v
    have e := fun a v => ih (fun r t v hr => H r t v (by omega)) (s := a) (v := v)
    constructor
    · rintro ⟨a, t, v1, v2, S, h1, h2, h3⟩
      exact ⟨a, t, v1, v2, S, (e a v1).mp h1, (H n t v2 (by omega)).mp h2, h3⟩
    · rintro ⟨a, t, v1, v2, S, h1, h2, h3⟩
      exact ⟨a, t, v1, v2, S, (e a v1).mpr h1, (H n t v2 (by omega)).mpr h2, h3⟩
section MV
variable {π : qQ} {f : Nat}
def upm (mu : Nat → Nat) (r J x : Nat) : Nat := if x = r then mu x ||| J else mu x
theorem rC_ne {mu : Nat → Nat} {r x J t v : Nat} (h : x ≠ r) : rC π mu f x t v ↔ rC π (upm mu r J) f x t v := by
  have e : upm mu r J x = mu x := by unfold upm; rw [if_neg h]
  unfold rC kRd
  rw [e]
theorem rC_eq {mu : Nat → Nat} {r J t t' v : Nat} (S : spl t t' J) : rC π mu f r t v ↔ rC π (upm mu r J) f r t' v := by
  have e : t' ||| upm mu r J r = t ||| mu r := Nat.eq_of_testBit_eq (fun i => by
    unfold upm
    rw [if_pos rfl, Nat.testBit_or, Nat.testBit_or, Nat.testBit_or, (S i).1]
    cases t'.testBit i <;> cases J.testBit i <;> cases (mu r).testBit i <;> rfl)
  unfold rC kRd
  rw [e]
theorem cut_bits {s a t s' J : Nat} (S : spl s a t) (T : spl s s' J) (p : prt J t) : spl t (t ^^^ J) J ∧ spl s' a (t ^^^ J) := by
  refine ⟨prt_x p, fun i => ?_⟩
  have h1 := S i
  have h2 := T i
  have h3 := p i
  rw [Nat.testBit_xor]
  revert h1 h2 h3
  cases s.testBit i <;> cases a.testBit i <;> cases t.testBit i <;> cases s'.testBit i <;> cases J.testBit i <;> decide
theorem bit_in {s a t s' j : Nat} (S : spl s a t) (T : spl s s' (2 ^ j)) : prt (2 ^ j) a ∨ prt (2 ^ j) t := by
  have hb : s.testBit j = true := by rw [(T j).1, Nat.testBit_two_pow_self, Bool.or_true]
  rw [(S j).1, Bool.or_eq_true] at hb
  have P : ∀ x : Nat, x.testBit j = true → prt (2 ^ j) x := fun x hx i hi => by
    rw [Nat.testBit_two_pow, decide_eq_true_iff] at hi
    rw [← hi]
    exact hx
  rcases hb with y | y
  · exact Or.inl (P a y)
  · exact Or.inr (P t y)
/-- the piece j comes from some rod -/
theorem At_cut {mu : Nat → Nat} {j : Nat} : ∀ {n s s' v : Nat}, spl s s' (2 ^ j) → AtP (rC π mu f) n s v → ∃ r, r < n ∧ AtP (rC π (upm mu r (2 ^ j)) f) n s' v := by
  intro n
  induction n with
  | zero =>
    intro s s' v T h
    have := (T j).1
    rw [h.1, Nat.zero_testBit, Nat.testBit_two_pow_self, Bool.or_true] at this
    cases this
  | succ n ih =>
    rintro s s' v T ⟨a, t, v1, v2, S, h1, h2, h3⟩
    rcases bit_in S T with p | p
    · obtain ⟨o1, o2⟩ := cut_bits S.symm T p
      obtain ⟨r, hr, k⟩ := ih o1 h1
      exact ⟨r, by omega, a ^^^ 2 ^ j, t, v1, v2, o2.symm, k, (rC_ne (by omega)).mp h2, h3⟩
    · obtain ⟨o1, o2⟩ := cut_bits S T p
      exact ⟨n, by omega, a, t ^^^ 2 ^ j, v1, v2, o2, (AtP_cong (fun r t v hr => rC_ne (by omega))).mp h1, (rC_eq o1).mp h2, h3⟩
theorem uncut_bits {s s' a t J : Nat} (T : spl s s' J) (S : spl s' a t) : spl (t ||| J) t J ∧ spl s a (t ||| J) := by
  refine ⟨fun i => ?_, fun i => ?_⟩
  all_goals
    have h1 := S i
    have h2 := T i
    rw [Nat.testBit_or]
    revert h1 h2
    cases s.testBit i <;> cases a.testBit i <;> cases t.testBit i <;> cases s'.testBit i <;> cases J.testBit i <;> decide
/-- a piece cut from a rod is a piece -/
theorem At_uncut {mu : Nat → Nat} {J : Nat} : ∀ {n s s' v r : Nat}, r < n → spl s s' J → AtP (rC π (upm mu r J) f) n s' v → AtP (rC π mu f) n s v := by
  intro n
  induction n with
  | zero =>
    intro s s' v r hr
    exact absurd hr (Nat.not_lt_zero r)
  | succ n ih =>
    rintro s s' v r hr T ⟨a, t, v1, v2, S, h1, h2, h3⟩
    by_cases q : r = n
    · subst q
      obtain ⟨o1, o2⟩ := uncut_bits T S
      exact ⟨a, t ||| J, v1, v2, o2, (AtP_cong (fun r' t v hr => rC_ne (by omega))).mpr h1, (rC_eq o1).mpr h2, h3⟩
    · obtain ⟨o1, o2⟩ := uncut_bits T S.symm
      exact ⟨a ||| J, t, v1, v2, o2.symm, ih (by omega) o1 h1, (rC_ne (fun e => q e.symm)).mpr h2, h3⟩
end MV
