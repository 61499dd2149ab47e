/-! cutting: pieces from o on. -/
section SH
variable {π : qQ} {L c : Nat → Nat} {o : Nat}
theorem sh_lo {m i : Nat} (h : i < o) : (m <<< o).testBit i = false := by
  rw [Nat.testBit_shiftLeft, decide_eq_false (by omega), Bool.false_and]
theorem sh_hi {m i : Nat} : (m <<< o).testBit (o + i) = m.testBit i := by
  rw [Nat.testBit_shiftLeft, decide_eq_true (by omega), Bool.true_and, Nat.add_sub_cancel_left]
theorem Wt_shl (k : pOK π) (ho : o ≤ pp π) (t : Nat) : Wt (pO π 0) (t <<< o) = Wt (pO π o) t := by
  have hp : pp π ≤ 8 := k.2.1
  have s1 := fb_sm_split (fun i => if (t <<< o).testBit i then pO π 0 i else 0) o (8 - o)
  have s2 := fb_sm_split (fun i => if t.testBit i then pO π o i else 0) (8 - o) o
  rw [show o + (8 - o) = 8 by omega] at s1
  rw [show 8 - o + o = 8 by omega] at s2
  have z1 : fb_sm (fun i => if (t <<< o).testBit i then pO π 0 i else 0) o = 0 := by
    rw [fb_sm_cong (g := fun _ => 0) (fun i hi => by
      show (if (t <<< o).testBit i then pO π 0 i else 0) = 0
      rw [sh_lo hi]
      rfl), fb_sm_const]
    omega
  have z2 : fb_sm (fun i => if t.testBit (8 - o + i) then pO π o (8 - o + i) else 0) o = 0 := by
    rw [fb_sm_cong (g := fun _ => 0) (fun i hi => by
      show (if t.testBit (8 - o + i) then pO π o (8 - o + i) else 0) = 0
      unfold pO
      rw [if_neg (show ¬ o + (8 - o + i) < pp π by omega)]
      split <;> rfl), fb_sm_const]
    omega
  have z3 : fb_sm (fun i => if (t <<< o).testBit (o + i) then pO π 0 (o + i) else 0) (8 - o) = fb_sm (fun i => if t.testBit i then pO π o i else 0) (8 - o) := fb_sm_cong (fun i hi => by
    show (if (t <<< o).testBit (o + i) then pO π 0 (o + i) else 0) = if t.testBit i then pO π o i else 0
    rw [sh_hi]
    unfold pO
    rw [Nat.zero_add])
  unfold Wt
  rw [s1, s2]
  show fb_sm (fun i => if (t <<< o).testBit i then pO π 0 i else 0) o + fb_sm (fun i => if (t <<< o).testBit (o + i) then pO π 0 (o + i) else 0) (8 - o) = fb_sm (fun i => if t.testBit i then pO π o i else 0) (8 - o) + fb_sm (fun i => if t.testBit (8 - o + i) then pO π o (8 - o + i) else 0) o
  rw [z1, z2, z3]
  omega
theorem spl_shl {s a t : Nat} : spl s a t → spl (s <<< o) (a <<< o) (t <<< o) := fun S i => by
  by_cases q : i < o
  · rw [sh_lo q, sh_lo q, sh_lo q]
    exact ⟨rfl, rfl⟩
  · obtain ⟨j, rfl⟩ : ∃ j, i = o + j := ⟨i - o, by omega⟩
    rw [sh_hi, sh_hi, sh_hi]
    exact S j
/-- a part of a shifted set is a shifted set -/
theorem prt_shl {s a : Nat} (p : prt a (s <<< o)) : ∃ a', a = a' <<< o := ⟨a >>> o, Nat.eq_of_testBit_eq (fun i => by
  by_cases q : i < o
  · rw [sh_lo q]
    cases y : a.testBit i
    · rfl
    · have := p i y
      rw [sh_lo q] at this
      cases this
  · obtain ⟨j, rfl⟩ : ∃ j, i = o + j := ⟨i - o, by omega⟩
    rw [sh_hi, Nat.testBit_shiftRight])⟩
theorem spl_unshl {s a t : Nat} (S : spl (s <<< o) (a <<< o) (t <<< o)) : spl s a t := fun i => by
  have := S (o + i)
  rw [sh_hi, sh_hi, sh_hi] at this
  exact this
theorem sh_0 {t : Nat} : (t <<< o = 0) ↔ t = 0 := by
  constructor
  · intro e
    exact Nat.eq_of_testBit_eq (fun i => by rw [← sh_hi (o := o), e, Nat.zero_testBit, Nat.zero_testBit])
  · rintro rfl
    exact Nat.zero_shiftLeft o
theorem cC_shl (k : pOK π) (ho : o ≤ pp π) {r t v : Nat} : cC (pO π o) L c r t v ↔ cC (pO π 0) L c r (t <<< o) v := by
  unfold cC
  rw [Wt_shl k ho, sh_0, Ne, Ne, sh_0]
theorem At_shl (k : pOK π) (ho : o ≤ pp π) : ∀ {r m v : Nat}, AtP (cC (pO π o) L c) r m v ↔ AtP (cC (pO π 0) L c) r (m <<< o) v := by
  intro r
  induction r with
  | zero =>
    intro m v
    show (m = 0 ∧ v = 0) ↔ (m <<< o = 0 ∧ v = 0)
    rw [sh_0]
  | succ r ih =>
    intro m v
    constructor
    · rintro ⟨a, t, v1, v2, S, h1, h2, h3⟩
      exact ⟨a <<< o, t <<< o, v1, v2, spl_shl S, ih.mp h1, (cC_shl k ho).mp h2, h3⟩
    · rintro ⟨a, t, v1, v2, S, h1, h2, h3⟩
      obtain ⟨a', rfl⟩ := prt_shl (spl_prt S.symm)
      obtain ⟨t', rfl⟩ := prt_shl (spl_prt S)
      exact ⟨a', t', v1, v2, spl_unshl S, ih.mpr h1, (cC_shl k ho).mpr h2, h3⟩
end SH
