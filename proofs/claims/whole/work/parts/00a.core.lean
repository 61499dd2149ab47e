/-! WORDS of the methods' functions. -/
abbrev qm_V : Type := Int32 ⊕ (Int64 ⊕ Option (Nat × Nat × Nat))
abbrev qm_i (x : Int32) : qm_V := .inl x
abbrev qm_l (x : Int64) : qm_V := .inr (.inl x)
abbrev qm_r (s n a : Nat) : qm_V := .inr (.inr (some (s, n, a)))
abbrev qm_0 : qm_V := .inr (.inr none)
abbrev qm_H : Type := (Nat → Nat → Int32) × (Nat → Nat → Int64)
abbrev qm_O : Type := Option qm_V × qm_H
abbrev qm_F : Type := Nat × List (Option qm_V) × List qm_V × qm_H
abbrev qm_C : Type := List qm_V → qm_H → Option qm_O
def qm_up {α : Type} (f : Nat → Nat → α) (a k : Nat) (x : α) : Nat → Nat → α := fun b j => if b = a ∧ j = k then x else f b j
abbrev qm_seti (h : qm_H) (a k : Nat) (x : Int32) : qm_H := (qm_up h.1 a k x, h.2)
abbrev qm_setl (h : qm_H) (a k : Nat) (x : Int64) : qm_H := (h.1, qm_up h.2 a k x)
def qm_let {α β : Type} (v : α) (k : α → β) : β := k v
def qm_N : Nat := 100000
def qm_irem (x y : Int32) : Int32 := x - x / y * y
def qm_lrem (x y : Int64) : Int64 := x - x / y * y
def qm_ishl (x y : Int32) : Int32 := x <<< (y &&& 31)
def qm_ishr (x y : Int32) : Int32 := x >>> (y &&& 31)
def qm_iushr (x y : Int32) : Int32 := (x.toUInt32 >>> (y.toUInt32 &&& Int32.toUInt32 31)).toInt32
def qm_lshl (x : Int64) (y : Int32) : Int64 := x <<< (y.toInt64 &&& 63)
def qm_lushr (x : Int64) (y : Int32) : Int64 := (x.toUInt64 >>> (y.toInt64.toUInt64 &&& Int64.toUInt64 63)).toInt64
def qm_b2 {α β : Type} (x : Option (α × qm_H)) (k : α → qm_H → Option β) : Option β := match x with
  | some q => k q.1 q.2
  | none => none
def qm_om {α β : Type} (x : Option α) (a : β) (b : α → β) : β := match x with
  | none => a
  | some y => b y
/-- System.arraycopy, as the methods' functions have it -/
def qm_cp (s0 n0 a0 : Nat) (sp : Int32) (s1 n1 a1 : Nat) (dp n : Int32) (h : qm_H) : Option qm_H :=
  if s0 = s1 ∧ (s0 = 1 ∨ s0 = 2 ∧ ∀ i, i < n.toNatClampNeg → fits .byte (.int (h.1 a0 (sp.toNatClampNeg + i))) = true) ∧ ¬ sp < 0 ∧ ¬ dp < 0 ∧ ¬ n < 0 ∧ sp.toNatClampNeg + n.toNatClampNeg ≤ n0 ∧ dp.toNatClampNeg + n.toNatClampNeg ≤ n1 then
    some (fun b j => if b = a1 then va_cpy (h.1 a0) (h.1 a1) sp.toNatClampNeg dp.toNatClampNeg n.toNatClampNeg j else h.1 b j, h.2)
  else none
/-- the String constants of Reader's pool: entry, text -/
def qm_strs : List (Nat × String) := [(106, "size"), (116, "open"), (132, "rod"), (137, "stake"), (139, "wet"), (157, "deed"), (162, "mend"), (167, "grow"), (169, "weave"), (171, "winter"), (173, "dry"), (181, "need"), (189, "cut"), (200, "shut"), (202, "slips"), (204, "held")]
/-- the length of a text, its bytes -/
def qm_slen : List Nat := qm_strs.map fun q => q.2.length
def qm_sbyt : List (List Int32) := qm_strs.map fun q => q.2.toList.map fun ch => Int32.ofNat ch.toNat
/-- the heap behind the two constructors -/
def qL_h0 : qm_H := (fun a => match a with
  | 1 => fun k => if k = 8 then -1 else 0
  | 8 => fun k => match k with | 3 => 6 | 4 => 6 | _ => 0
  | 19 => fun k => match k with | 3 => 6 | 4 => 6 | _ => 0
  | 32 => fun k => match k with | 3 => 6 | 4 => 6 | _ => 0
  | 45 => fun k => match k with | 3 => 6 | 4 => 6 | _ => 0
  | 17 => fun k => match k with | 1 => 6 | 2 => 6 | _ => 0
  | 28 => fun k => match k with | 1 => 6 | 2 => 6 | _ => 0
  | 41 => fun k => match k with | 1 => 6 | 2 => 6 | _ => 0
  | 14 => fun k => if k = 4 then 3 else 0
  | 25 => fun k => if k = 4 then 3 else 0
  | 38 => fun k => if k = 4 then 3 else 0
  | 66 => upd (fun _ => 0) 0 (-1)
  | _ => fun _ => 0, fun _ _ => 0)
def qL_b (x : Int32) : Int32 := if x = 0 then 0 else 1
