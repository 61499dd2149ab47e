/-! cutting: the rod of the next piece. -/
section GD
variable {π : qQ} {mu : Nat → Nat} {j K r : Nat}
/-- the pieces from j on -/
def rsM (π : qQ) (j : Nat) : Nat := (2 ^ (pp π - j) - 1) <<< j
theorem rsM_b {i : Nat} : (rsM π j).testBit i = decide (j ≤ i ∧ i < pp π) := by
  unfold rsM
  by_cases q : i < j
  · rw [sh_lo q, decide_eq_false (by omega)]
  · obtain ⟨e, rfl⟩ : ∃ e, i = j + e := ⟨i - j, by omega⟩
    rw [sh_hi, Nat.testBit_two_pow_sub_one]
    exact decide_eq_decide.mpr (by omega)
theorem rsM_spl (hj : j < pp π) : spl (rsM π j) (rsM π (j + 1)) (2 ^ j) := fun i => by
  rw [rsM_b, rsM_b, Nat.testBit_two_pow]
  by_cases q : j = i
  · rw [decide_eq_true q, decide_eq_true (by omega), decide_eq_false (by omega)]
    exact ⟨rfl, rfl⟩
  · rw [decide_eq_false q, Bool.or_false, Bool.and_false]
    exact ⟨decide_eq_decide.mpr (by omega), rfl⟩
def stt (π : qQ) (mu : Nat → Nat) (j K : Nat) : Prop := (∀ r, r < pn π → mu r < 256 ∧ Wt (pO π 0) (mu r) ≤ pR π r ∧ ∀ i, (mu r).testBit i = true → i < j) ∧ K < 1000000 ∧ AtP (rC π mu 0) (pn π) (rsM π j) K ∧ ∀ v, AtP (rC π mu 0) (pn π) (rsM π j) v → K ≤ v
def gd (π : qQ) (mu : Nat → Nat) (j K r : Nat) : Prop := AtP (rC π (upm mu r (2 ^ j)) 0) (pn π) (rsM π (j + 1)) K
theorem stt_ex (S : stt π mu j K) (hj : j < pp π) : ∃ r, r < pn π ∧ gd π mu j K r := At_cut (rsM_spl hj) S.2.2.1
theorem Wt_or (P : Nat → Nat) (t m : Nat) : Wt P m ≤ Wt P (t ||| m) := fb_sm_le (fun i _ => by
  show (if m.testBit i then P i else 0) ≤ if (t ||| m).testBit i then P i else 0
  rw [Nat.testBit_or]
  cases t.testBit i <;> cases m.testBit i <;> simp)
theorem At_W {f : Nat} : ∀ {n s v : Nat}, AtP (rC π mu f) n s v → ∀ r, r < n → Wt (pO π 0) (mu r) ≤ pR π r := by
  intro n
  induction n with
  | zero =>
    intro s v _ r hr
    exact absurd hr (Nat.not_lt_zero r)
  | succ n ih =>
    rintro s v ⟨a, t, v1, v2, S, h1, h2, _⟩ r hr
    by_cases q : r = n
    · subst q
      exact Nat.le_trans (Wt_or _ t _) h2.1
    · exact ih h1 r (by omega)
theorem gd_low (S : stt π mu j K) (hj : j < pp π) (hr : r < pn π) {v : Nat} (a : AtP (rC π (upm mu r (2 ^ j)) 0) (pn π) (rsM π (j + 1)) v) : K ≤ v := S.2.2.2 v (At_uncut hr (rsM_spl hj) a)
theorem upm_b (k : pOK π) (S : stt π mu j K) (hj : j < pp π) {x : Nat} (hx : x < pn π) : upm mu r (2 ^ j) x < 256 ∧ ∀ i, (upm mu r (2 ^ j) x).testBit i = true → i < j + 1 := by
  have hp : pp π ≤ 8 := k.2.1
  have s := S.1 x hx
  unfold upm
  split
  · refine ⟨?_, fun i hi => ?_⟩
    · have h2 : 2 ^ j < 2 ^ 8 := Nat.pow_lt_pow_right (by omega) (by omega)
      have := Nat.or_lt_two_pow (n := 8) (show mu x < 2 ^ 8 by omega) h2
      omega
    · rw [Nat.testBit_or, Bool.or_eq_true, Nat.testBit_two_pow, decide_eq_true_iff] at hi
      rcases hi with y | y
      · have := s.2.2 i y
        omega
      · omega
  · exact ⟨s.1, fun i hi => by have := s.2.2 i hi; omega⟩
theorem stt_next (k : pOK π) (S : stt π mu j K) (hj : j < pp π) (hr : r < pn π) (g : gd π mu j K r) : stt π (upm mu r (2 ^ j)) (j + 1) K := ⟨fun x hx => ⟨(upm_b k S hj hx).1, At_W g x hx, (upm_b k S hj hx).2⟩, S.2.1, g, fun v hv => gd_low S hj hr hv⟩
/-- the reference's test -/
theorem gd_D (S : stt π mu j K) (hj : j < pp π) (hr : r < pn π) {D : Nat} (l : lea (AtS (rC π (upm mu r (2 ^ j)) 0) (pn π) (pn π) (rsM π (j + 1))) D) : D = K ↔ gd π mu j K r := by
  have hK := S.2.1
  constructor
  · rintro rfl
    exact At_eq.mpr (l.2.2 hK)
  · intro g
    have h1 := l.2.1 K (At_eq.mp g)
    have h2 := gd_low S hj hr (At_eq.mpr (l.2.2 (by omega)))
    omega
theorem Wt_one {P : Nat → Nat} (hj : j < 8) : Wt P (2 ^ j) = P j := by
  have o := fb_sm_upd (fun _ => 0) (P j) hj
  rw [fb_sm_const] at o
  have e : Wt P (2 ^ j) = fb_sm (fun k => if k = j then P j else 0) 8 := fb_sm_cong (fun i _ => by
    show (if (2 ^ j).testBit i then P i else 0) = if i = j then P j else 0
    rw [Nat.testBit_two_pow]
    by_cases q : j = i
    · subst q
      rw [decide_eq_true rfl, if_pos rfl, if_pos rfl]
    · rw [decide_eq_false q, if_neg (show ¬ i = j by omega)]
      rfl)
  rw [e]
  omega
theorem djn_up (S : stt π mu j K) {x : Nat} (hx : x < pn π) : spl (mu x ||| 2 ^ j) (mu x) (2 ^ j) := djn_spl (fun i => by
  have := (S.1 x hx).2.2 i
  rw [Nat.testBit_two_pow]
  by_cases q : j = i
  · subst q
    cases y : (mu x).testBit j
    · rfl
    · have := this y
      omega
  · rw [decide_eq_false q, Bool.and_false])
theorem W_up (k : pOK π) (S : stt π mu j K) (hj : j < pp π) (hr : r < pn π) : Wt (pO π 0) (upm mu r (2 ^ j) r) = Wt (pO π 0) (mu r) + pP π j := by
  have hp : pp π ≤ 8 := k.2.1
  have e : upm mu r (2 ^ j) r = mu r ||| 2 ^ j := by unfold upm; rw [if_pos rfl]
  rw [e, Wt_spl (djn_up S hr), Wt_one (by omega)]
  unfold pO
  rw [Nat.zero_add, if_pos hj]
theorem up_ne0 {x : Nat} : mu x ||| 2 ^ j ≠ 0 := fun e => by
  have := congrArg (fun y => Nat.testBit y j) e
  simp only [Nat.testBit_or, Nat.zero_testBit, Nat.testBit_two_pow_self, Bool.or_true] at this
  cases this
theorem sp_up (hr : r < pn π) : fb_sm (spm (upm mu r (2 ^ j))) (pn π) = fb_sm (spm mu) (pn π) + pcm mu r := by
  have o := fb_sm_upd (spm mu) 1 hr
  have e : fb_sm (spm (upm mu r (2 ^ j))) (pn π) = fb_sm (fun k => if k = r then 1 else spm mu k) (pn π) := fb_sm_cong (fun i _ => by
    show spm (upm mu r (2 ^ j)) i = if i = r then 1 else spm mu i
    unfold spm upm
    by_cases q : i = r
    · rw [if_pos q, if_pos q, if_neg up_ne0]
    · rw [if_neg q, if_neg q])
  rw [e]
  have : pcm mu r + spm mu r = 1 := by unfold pcm spm; split <;> rfl
  omega
/-- the class's test -/
theorem gd_E (k : pOK π) (S : stt π mu j K) (hj : j < pp π) (hr : r < pn π) (hw : Wt (pO π 0) (mu r) + pP π j ≤ pR π r) {E : Nat} (l : lea (AtP (cC (pO π (j + 1)) (lfm π (upm mu r (2 ^ j))) (pcm (upm mu r (2 ^ j)))) (pn π) (2 ^ (pp π - (j + 1)) - 1)) E) : (E + pcm mu r + fb_sm (spm mu) (pn π) ≤ K) ↔ gd π mu j K r := by
  have hK := S.2.1
  have es := sp_up (j := j) (mu := mu) hr
  have A : ∀ v, AtP (rC π (upm mu r (2 ^ j)) 0) (pn π) (rsM π (j + 1)) v ↔ ∃ v0, AtP (cC (pO π 0) (lfm π (upm mu r (2 ^ j))) (pcm (upm mu r (2 ^ j)))) (pn π) (rsM π (j + 1)) v0 ∧ v = v0 + fb_sm (spm (upm mu r (2 ^ j))) (pn π) := fun v => At_mu (fun x hx => by
    by_cases q : x = r
    · rw [q, W_up k S hj hr]
      exact hw
    · have e : upm mu r (2 ^ j) x = mu x := by unfold upm; rw [if_neg q]
      rw [e]
      exact (S.1 x hx).2.1) (fun x hx i => by
    rw [rsM_b]
    cases y : (upm mu r (2 ^ j) x).testBit i
    · rw [Bool.and_false]
    · have := (upm_b k S hj hx).2 i y
      rw [decide_eq_false (by omega)]
      rfl)
  have B : ∀ v, AtP (cC (pO π (j + 1)) (lfm π (upm mu r (2 ^ j))) (pcm (upm mu r (2 ^ j)))) (pn π) (2 ^ (pp π - (j + 1)) - 1) v ↔ AtP (cC (pO π 0) (lfm π (upm mu r (2 ^ j))) (pcm (upm mu r (2 ^ j)))) (pn π) (rsM π (j + 1)) v := fun v => At_shl k (by omega)
  constructor
  · intro h
    have a := (B E).mp (l.2.2 (by omega))
    have c := (A _).mpr ⟨E, a, rfl⟩
    have d := gd_low S hj hr c
    have e : E + fb_sm (spm (upm mu r (2 ^ j))) (pn π) = K := by omega
    rw [e] at c
    exact c
  · intro g
    obtain ⟨v0, a, e⟩ := (A K).mp g
    have := l.2.1 v0 ((B v0).mpr a)
    omega
end GD
