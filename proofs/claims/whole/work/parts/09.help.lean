/-! WORDS of the methods' clean functions. -/
theorem qm_b2e {α β : Type} {x : Option (α × qm_H)} {k : α → qm_H → Option β} {r : β} (h : qm_b2 x k = some r) : ∃ a g, x = some (a, g) ∧ k a g = some r := by
  cases x with
  | none => cases h
  | some q => exact ⟨q.1, q.2, rfl, h⟩
theorem qm_mp {α : Type} {x : Option α} {a : α} {G : α → qm_O} (h : x = some a) : x.map G = some (G a) := by rw [h]; rfl
theorem qm_Ret.lets {M : qm_M} {α β : Type} {v : α} {k : α → Option β} {F : α → qm_F} {G : β → qm_O} {r : β} (ho : qm_let v k = some r) (H : ∀ x, k x = some r → qm_Ret M (F x) (G r)) : qm_Ret M (F v) (G r) := H v ho
theorem qm_cpy_ok {s0 n0 a0 : Nat} {sp : Int32} {s1 n1 a1 : Nat} {dp n : Int32} {h h' : qm_H} (hc : qm_cp s0 n0 a0 sp s1 n1 a1 dp n h = some h') : qm_cpy [qm_r s0 n0 a0, qm_i sp, qm_r s1 n1 a1, qm_i dp, qm_i n] h = some (none, h') := by
  unfold qm_cp at hc
  unfold qm_cpy
  split at hc
  · rename_i q
    cases hc
    simp only
    rw [if_pos q]
  · cases hc
theorem qm_e8n {M : qm_M} {f : qm_F} {c : Prop} [Decidable c] {h : qm_H} {a j pc : Nat} {L : List (Option qm_V)} {T : List qm_V} (hc : h.1 a j = 0) (hs : qm_stp M f = (if c then none else some (.inl (pc, L, .inr (.inr (qm_elv h 8 a j)) :: T, h)))) : qm_stp M f = (if c then none else some (.inl (pc, L, qm_0 :: T, h))) := by
  have e : qm_elv h 8 a j = none := if_pos ⟨rfl, hc⟩
  rw [hs, e]
theorem qm_e8s {M : qm_M} {f : qm_F} {c : Prop} [Decidable c] {h : qm_H} {a j pc : Nat} {L : List (Option qm_V)} {T : List qm_V} (hc : ¬ h.1 a j = 0) (hs : qm_stp M f = (if c then none else some (.inl (pc, L, .inr (.inr (qm_elv h 8 a j)) :: T, h)))) : qm_stp M f = (if c then none else some (.inl (pc, L, qm_r 0 9 (1000 * (j + 1)) :: T, h))) := by
  have e : qm_elv h 8 a j = some (0, 9, 1000 * (j + 1)) := if_neg (fun q => hc q.2)
  rw [hs, e]
