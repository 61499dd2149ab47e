/-! WORDS of the methods' clean functions. -/
def qm_N : Nat := 100000
def qm_irem (x y : Int32) : Int32 := x - x / y * y
def qm_lrem (x y : Int64) : Int64 := x - x / y * y
def qm_ishl (x y : Int32) : Int32 := x <<< (y &&& 31)
def qm_ishr (x y : Int32) : Int32 := x >>> (y &&& 31)
def qm_iushr (x y : Int32) : Int32 := (x.toUInt32 >>> (y.toUInt32 &&& Int32.toUInt32 31)).toInt32
def qm_lshl (x : Int64) (y : Int32) : Int64 := x <<< (y.toInt64 &&& 63)
def qm_lushr (x : Int64) (y : Int32) : Int64 := (x.toUInt64 >>> (y.toInt64.toUInt64 &&& Int64.toUInt64 63)).toInt64
def qm_b2 {α β : Type} (x : Option (α × qm_H)) (k : α → qm_H → Option β) : Option β := match x with
  | some q => k q.1 q.2
  | none => none
theorem qm_b2e {α β : Type} {x : Option (α × qm_H)} {k : α → qm_H → Option β} {r : β} (h : qm_b2 x k = some r) : ∃ a g, x = some (a, g) ∧ k a g = some r := by
  cases x with
  | none => cases h
  | some q => exact ⟨q.1, q.2, rfl, h⟩
def qm_om {α β : Type} (x : Option α) (a : β) (b : α → β) : β := match x with
  | none => a
  | some y => b y
theorem qm_mp {α : Type} {x : Option α} {a : α} {G : α → qm_O} (h : x = some a) : x.map G = some (G a) := by rw [h]; rfl
theorem qm_Ret.lets {M : qm_M} {α β : Type} {v : α} {k : α → Option β} {F : α → qm_F} {G : β → qm_O} {r : β} (ho : qm_let v k = some r) (H : ∀ x, k x = some r → qm_Ret M (F x) (G r)) : qm_Ret M (F v) (G r) := H v ho
/-- System.arraycopy, as the methods' functions have it -/
def qm_cp (s0 n0 a0 : Nat) (sp : Int32) (s1 n1 a1 : Nat) (dp n : Int32) (h : qm_H) : Option qm_H :=
  if s0 = s1 ∧ (s0 = 1 ∨ s0 = 2 ∧ ∀ i, i < n.toNatClampNeg → fits .byte (.int (h.1 a0 (sp.toNatClampNeg + i))) = true) ∧ ¬ sp < 0 ∧ ¬ dp < 0 ∧ ¬ n < 0 ∧ sp.toNatClampNeg + n.toNatClampNeg ≤ n0 ∧ dp.toNatClampNeg + n.toNatClampNeg ≤ n1 then
    some (fun b j => if b = a1 then va_cpy (h.1 a0) (h.1 a1) sp.toNatClampNeg dp.toNatClampNeg n.toNatClampNeg j else h.1 b j, h.2)
  else none
theorem qm_cpy_ok {s0 n0 a0 : Nat} {sp : Int32} {s1 n1 a1 : Nat} {dp n : Int32} {h h' : qm_H} (hc : qm_cp s0 n0 a0 sp s1 n1 a1 dp n h = some h') : qm_cpy [qm_r s0 n0 a0, qm_i sp, qm_r s1 n1 a1, qm_i dp, qm_i n] h = some (none, h') := by
  unfold qm_cp at hc
  unfold qm_cpy
  split at hc
  · rename_i q
    cases hc
    simp only
    rw [if_pos q]
  · cases hc
theorem qm_e8n {M : qm_M} {f : qm_F} {c : Prop} [Decidable c] {h : qm_H} {a j pc : Nat} {L : List (Option qm_V)} {T : List qm_V} (hc : h.1 a j = 0) (hs : qm_stp M f = (if c then none else some (.inl (pc, L, .inr (.inr (qm_elv h 8 a j)) :: T, h)))) : qm_stp M f = (if c then none else some (.inl (pc, L, qm_0 :: T, h))) := by
  have e : qm_elv h 8 a j = none := if_pos ⟨rfl, hc⟩
  rw [hs, e]
theorem qm_e8s {M : qm_M} {f : qm_F} {c : Prop} [Decidable c] {h : qm_H} {a j pc : Nat} {L : List (Option qm_V)} {T : List qm_V} (hc : ¬ h.1 a j = 0) (hs : qm_stp M f = (if c then none else some (.inl (pc, L, .inr (.inr (qm_elv h 8 a j)) :: T, h)))) : qm_stp M f = (if c then none else some (.inl (pc, L, qm_r 0 9 (1000 * (j + 1)) :: T, h))) := by
  have e : qm_elv h 8 a j = some (0, 9, 1000 * (j + 1)) := if_neg (fun q => hc q.2)
  rw [hs, e]
