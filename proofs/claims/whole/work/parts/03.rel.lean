/-! HOW THE CLEAN MACHINE STANDS TO THE JVM: the launch's own numbers (classes, array classes, addresses), the relation of heaps, of locals, of frames. -/
abbrev qm_G : Type := va_G × (Nat → ClassId) × (Nat → Nat) × (Nat → Nat) × (Nat → Nat → Nat → Prop) × Nat × Heap
def qm_D (g : qm_G) : va_G := g.1
def qm_dA (g : qm_G) : Nat → ClassId := g.2.1
def qm_ad (g : qm_G) : Nat → Nat := g.2.2.1
def qm_aS (g : qm_G) : Nat → Nat := g.2.2.2.1
def qm_ok (g : qm_G) : Nat → Nat → Nat → Prop := g.2.2.2.2.1
def qm_b (g : qm_G) : Nat := g.2.2.2.2.2.1
def qm_H0 (g : qm_G) : Heap := g.2.2.2.2.2.2
def qm_tr (g : qm_G) (v : qm_V) : Value := match v with
  | .inl x => .int x
  | .inr (.inl x) => .long x
  | .inr (.inr none) => .null
  | .inr (.inr (some (s, n, a))) => .ref (if s = 10 then qm_aS g n else qm_ad g a)
def qm_okv (g : qm_G) (v : qm_V) : Prop := match v with
  | .inr (.inr (some (s, n, a))) => if s = 10 then n < 16 else qm_ok g s n a
  | _ => True
def qm_cell (g : qm_G) (h : qm_H) (s n a : Nat) : va_E := match s with
  | 0 => .inr (n, (List.range (qm_nf n)).map fun k => qm_tr g (qm_getf h n k a))
  | 1 => .inl (qm_dA g 1, n, .inl (h.1 a))
  | 2 => .inl (qm_dA g 2, n, .inl (h.1 a))
  | 3 => .inl (qm_dA g 3, n, .inl (h.1 a))
  | 4 => .inl (qm_dA g 4, n, .inr (.inl (h.2 a)))
  | s => .inl (qm_dA g s, n, .inr (.inr (.inr (.inr fun j => (qm_elv h s a j).map fun r => qm_ad g r.2.2))))
def qm_HR (g : qm_G) (h : qm_H) (H : Heap) : Prop := qm_b g ≤ H.size ∧ (∀ q : Nat, q < qm_b g → H[q]? = (qm_H0 g)[q]?) ∧ (∀ s n a, qm_ok g s n a → va_at (qm_D g) vwCl (qm_ad g a, qm_cell g h s n a) H) ∧ ∀ n a j, qm_ok g 8 n a → j < n → ¬ h.1 a j = 0 → qm_ok g 0 9 (1000 * (j + 1))
def qm_GO (g : qm_G) : Prop := (∀ s n a, qm_ok g s n a → s ≤ 9 ∧ qm_b g ≤ qm_ad g a) ∧ (∀ c a, qm_ok g 0 c a → c < 13) ∧ (∀ c k a, qm_ok g 0 c a → k < qm_nf c → qm_ft c k = 2 → qm_ok g (qm_ref c k a).1 (qm_ref c k a).2.1 (qm_ref c k a).2.2) ∧ (∀ s n a j, qm_ok g s n a → 5 ≤ s → ¬ s = 8 → j < n → qm_ok g 0 (qm_el s a j).1 (qm_el s a j).2) ∧ ∀ s n a s' n' a', qm_ok g s n a → qm_ok g s' n' a' → qm_ad g a = qm_ad g a' → s = s' ∧ n = n' ∧ a = a'
def qm_ety (s : Nat) : FieldType := match s with
  | 1 => .int | 2 => .byte | 3 => .boolean | 4 => .long | 5 => .object RX0 | 6 => .object RX1 | 7 => .object RX2 | 8 => .object RX9 | _ => .object RX10
def qm_tys (g : qm_G) : List (ClassId × FieldType) := (List.range 9).map fun k => (qm_dA g (k + 1), qm_ety (k + 1))
/-- the String constants: their entries of the pool of Reader, their texts -/
def qm_LR (g : qm_G) (ls : Array Slot) (nL : Nat) (L : List (Option qm_V)) : Prop := ls.size = nL ∧ L.length = nL ∧ lv_wf ls ∧ ∀ (i : Nat) (v : qm_V), L[i]? = some (some v) → qm_okv g v ∧ ls[i]? = some (Slot.val (qm_tr g v))
theorem qm_okv_i (g : qm_G) (x : Int32) : qm_okv g (qm_i x) := trivial
theorem qm_okv_l (g : qm_G) (x : Int64) : qm_okv g (qm_l x) := trivial
theorem qm_okv_0 (g : qm_G) : qm_okv g qm_0 := trivial
theorem qm_ca {g : qm_G} {v : qm_V} {S : List qm_V} (h : qm_okv g v) (hS : ∀ w ∈ S, qm_okv g w) : ∀ w ∈ v :: S, qm_okv g w := fun w hw => (List.mem_cons.mp hw).elim (fun e => e ▸ h) (hS w)
theorem qm_tl {g : qm_G} {v : qm_V} {S : List qm_V} (hS : ∀ w ∈ v :: S, qm_okv g w) : ∀ w ∈ S, qm_okv g w := fun w hw => hS w (List.mem_cons_of_mem _ hw)
theorem qm_hd {g : qm_G} {v : qm_V} {S : List qm_V} (hS : ∀ w ∈ v :: S, qm_okv g w) : qm_okv g v := hS v List.mem_cons_self
theorem qm_tr_ref {g : qm_G} {s n a : Nat} (h : s ≤ 9) : qm_tr g (qm_r s n a) = .ref (qm_ad g a) := by
  show Value.ref (if s = 10 then _ else _) = _
  rw [if_neg (by omega)]
theorem qm_okv_ref {g : qm_G} {s n a : Nat} (h : s ≤ 9) (ho : qm_okv g (qm_r s n a)) : qm_ok g s n a := by
  have h1 : (if s = 10 then n < 16 else qm_ok g s n a) := ho
  rwa [if_neg (by omega)] at h1
theorem qm_okv_of {g : qm_G} {s n a : Nat} (h : s ≤ 9) (ho : qm_ok g s n a) : qm_okv g (qm_r s n a) := by
  show (if s = 10 then n < 16 else qm_ok g s n a)
  rwa [if_neg (by omega)]
theorem qm_cat_tr (g : qm_G) (v : qm_V) : (qm_tr g v).category = qm_cat v := by
  rcases v with x | x | x
  · rfl
  · rfl
  · cases x with
    | none => rfl
    | some q => rfl
def qm_prs (g : qm_G) (L : List (Option qm_V)) : List (Nat × Value) := (List.range L.length).filterMap fun i => (L.getD i none).map fun v => (i, qm_tr g v)
theorem qm_prs_mem {g : qm_G} {L : List (Option qm_V)} {i : Nat} {v : qm_V} (h : L[i]? = some (some v)) : (i, qm_tr g v) ∈ qm_prs g L := by
  have hl : i < L.length := (List.getElem?_eq_some_iff.mp h).1
  refine List.mem_filterMap.mpr ⟨i, List.mem_range.mpr hl, ?_⟩
  rw [List.getD_eq_getElem?_getD, h]
  rfl
theorem qm_prs_of {g : qm_G} {L : List (Option qm_V)} {q : Nat × Value} (h : q ∈ qm_prs g L) : ∃ v, L[q.1]? = some (some v) ∧ q.2 = qm_tr g v := by
  obtain ⟨i, hi, he⟩ := List.mem_filterMap.mp h
  rw [List.getD_eq_getElem?_getD] at he
  cases hv : L[i]? with
  | none => rw [hv] at he; cases he
  | some o =>
    cases o with
    | none => rw [hv] at he; cases he
    | some v => rw [hv] at he; cases he; exact ⟨v, hv, rfl⟩
theorem qm_LR.has {g : qm_G} {ls : Array Slot} {nL : Nat} {L : List (Option qm_V)} (h : qm_LR g ls nL L) : lv_has ls nL (qm_prs g L) := by
  refine ⟨h.1, h.2.2.1, fun q hq => ?_⟩
  obtain ⟨v, h1, h2⟩ := qm_prs_of hq
  rw [h2]
  exact (h.2.2.2 q.1 v h1).2
theorem qm_getD {L : List (Option qm_V)} {i : Nat} {v : qm_V} (h : L.getD i none = some v) : L[i]? = some (some v) := by
  rw [List.getD_eq_getElem?_getD] at h
  cases hv : L[i]? with
  | none => rw [hv] at h; cases h
  | some o => rw [hv] at h; exact congrArg some h
theorem qm_kill_len (L : List (Option qm_V)) (i : Nat) : (qm_kill L i).length = L.length := by
  cases i with
  | zero => rfl
  | succ j =>
    show (if _ then _ else _ : List (Option qm_V)).length = _
    split <;> simp
theorem qm_kill_of {L : List (Option qm_V)} {i j : Nat} {v : qm_V} (h : (qm_kill L i)[j]? = some (some v)) : L[j]? = some (some v) ∧ ¬ (j + 1 = i ∧ qm_cat v = 2) := by
  cases i with
  | zero => exact ⟨h, by omega⟩
  | succ k =>
    replace h : (if qm_wide (L.getD k none) = true then L.set k none else L)[j]? = some (some v) := h
    split at h
    · by_cases e : k = j
      · subst e
        rw [List.getElem?_set] at h
        simp at h
      · rw [List.getElem?_set_ne e] at h
        exact ⟨h, fun q => e (by omega)⟩
    · rename_i hw
      refine ⟨h, fun q => hw ?_⟩
      have e : j = k := by omega
      subst e
      rw [List.getD_eq_getElem?_getD, h]
      have hc := q.2
      rcases v with x | x | x
      · cases hc
      · rfl
      · cases hc
theorem qm_LR.st1 {g : qm_G} {ls ls' : Array Slot} {nL i : Nat} {L : List (Option qm_V)} {v : qm_V} (h : qm_LR g ls nL L) (hv : qm_okv g v) (h' : lv_has ls' nL ((i, qm_tr g v) :: (qm_prs g L).filter (fun q => !(q.1 == i) && !(q.1 + 1 == i && q.2.category == 2)))) : qm_LR g ls' nL (qm_st1 L i v) := by
  refine ⟨h'.1, by unfold qm_st1; rw [List.length_set, qm_kill_len]; exact h.2.1, h'.2.1, fun j w hw => ?_⟩
  unfold qm_st1 at hw
  by_cases e : i = j
  · subst e
    rw [List.getElem?_set] at hw
    by_cases hl : i < (qm_kill L i).length
    · rw [if_pos rfl, if_pos hl] at hw
      cases hw
      exact ⟨hv, h'.2.2 _ List.mem_cons_self⟩
    · rw [if_pos rfl, if_neg hl] at hw
      cases hw
  · rw [List.getElem?_set_ne e] at hw
    obtain ⟨h1, h2⟩ := qm_kill_of hw
    refine ⟨(h.2.2.2 j w h1).1, h'.2.2 _ (List.mem_cons_of_mem _ (List.mem_filter.mpr ⟨qm_prs_mem h1, ?_⟩))⟩
    rw [qm_cat_tr]
    simp
    exact ⟨fun q => e q.symm, Decidable.not_and_iff_or_not.mp h2⟩
theorem qm_LR.st2 {g : qm_G} {ls ls' : Array Slot} {nL i : Nat} {L : List (Option qm_V)} {v : qm_V} (h : qm_LR g ls nL L) (hv : qm_okv g v) (h' : lv_has ls' nL ((i, qm_tr g v) :: (qm_prs g L).filter (fun q => !(q.1 == i) && (!(q.1 == i + 1) && !(q.1 + 1 == i && q.2.category == 2))))) : qm_LR g ls' nL (qm_st2 L i v) := by
  refine ⟨h'.1, by unfold qm_st2; rw [List.length_set, List.length_set, qm_kill_len]; exact h.2.1, h'.2.1, fun j w hw => ?_⟩
  unfold qm_st2 at hw
  by_cases e2 : i + 1 = j
  · subst e2
    rw [List.getElem?_set] at hw
    simp at hw
  rw [List.getElem?_set_ne e2] at hw
  by_cases e : i = j
  · subst e
    rw [List.getElem?_set] at hw
    by_cases hl : i < (qm_kill L i).length
    · rw [if_pos rfl, if_pos hl] at hw
      cases hw
      exact ⟨hv, h'.2.2 _ List.mem_cons_self⟩
    · rw [if_pos rfl, if_neg hl] at hw
      cases hw
  · rw [List.getElem?_set_ne e] at hw
    obtain ⟨h1, h2⟩ := qm_kill_of hw
    refine ⟨(h.2.2.2 j w h1).1, h'.2.2 _ (List.mem_cons_of_mem _ (List.mem_filter.mpr ⟨qm_prs_mem h1, ?_⟩))⟩
    rw [qm_cat_tr]
    simp
    exact ⟨fun q => e q.symm, fun q => e2 q.symm, Decidable.not_and_iff_or_not.mp h2⟩
/-- writing an int behind the JVM's store of one cell -/
theorem qm_up_ne {α : Type} {f : Nat → Nat → α} {a k b : Nat} {x : α} (h : ¬ b = a) : qm_up f a k x b = f b := by
  funext j
  unfold qm_up
  rw [if_neg (fun q => h q.1)]
theorem qm_cell_seti {g : qm_G} {h : qm_H} {s n a b k : Nat} {x : Int32} (e : ¬ b = a) : qm_cell g (qm_seti h a k x) s n b = qm_cell g h s n b := by
  have e1 : qm_up h.1 a k x b = h.1 b := qm_up_ne e
  unfold qm_cell qm_getf qm_elv
  simp only [e1]
theorem qm_cell_setl {g : qm_G} {h : qm_H} {s n a b k : Nat} {x : Int64} (e : ¬ b = a) : qm_cell g (qm_setl h a k x) s n b = qm_cell g h s n b := by
  have e1 : qm_up h.2 a k x b = h.2 b := qm_up_ne e
  unfold qm_cell qm_getf qm_elv
  simp only [e1]
theorem qm_HR.seti {g : qm_G} {h : qm_H} {H H' : Heap} {s n a k : Nat} {x : Int32} (hG : qm_GO g) (hR : qm_HR g h H) (ho : qm_ok g s n a) (hs : ¬ s = 8) (hz : H'.size = H.size) (hq : ∀ q, q ≠ qm_ad g a → H'[q]? = H[q]?) (hc : va_at (qm_D g) vwCl (qm_ad g a, qm_cell g (qm_seti h a k x) s n a) H') : qm_HR g (qm_seti h a k x) H' := by
  refine ⟨by rw [hz]; exact hR.1, fun q hl => ?_, fun s' n' a' ho' => ?_, fun n' a' j ho' hj hf => ?_⟩
  · rw [hq q (fun e => ?_)]
    · exact hR.2.1 q hl
    · have := (hG.1 s n a ho).2
      omega
  · by_cases e : a' = a
    · subst e
      obtain ⟨e1, e2, -⟩ := hG.2.2.2.2 _ _ _ _ _ _ ho' ho rfl
      subst e1; subst e2
      exact hc
    · rw [qm_cell_seti e]
      exact (hR.2.2.1 s' n' a' ho').kept (hq _ (fun q => e (hG.2.2.2.2 _ _ _ _ _ _ ho' ho q).2.2))
  · have e : ¬ a' = a := fun e => by
      subst e
      exact hs (hG.2.2.2.2 _ _ _ _ _ _ ho ho' rfl).1
    refine hR.2.2.2 n' a' j ho' hj ?_
    rwa [show (qm_seti h a k x).1 a' = h.1 a' from qm_up_ne e] at hf
theorem qm_HR.setl {g : qm_G} {h : qm_H} {H H' : Heap} {s n a k : Nat} {x : Int64} (hG : qm_GO g) (hR : qm_HR g h H) (ho : qm_ok g s n a) (hz : H'.size = H.size) (hq : ∀ q, q ≠ qm_ad g a → H'[q]? = H[q]?) (hc : va_at (qm_D g) vwCl (qm_ad g a, qm_cell g (qm_setl h a k x) s n a) H') : qm_HR g (qm_setl h a k x) H' := by
  refine ⟨by rw [hz]; exact hR.1, fun q hl => ?_, fun s' n' a' ho' => ?_, hR.2.2.2⟩
  · rw [hq q (fun e => ?_)]
    · exact hR.2.1 q hl
    · have := (hG.1 s n a ho).2
      omega
  · by_cases e : a' = a
    · subst e
      obtain ⟨e1, e2, -⟩ := hG.2.2.2.2 _ _ _ _ _ _ ho' ho rfl
      subst e1; subst e2
      exact hc
    · rw [qm_cell_setl e]
      exact (hR.2.2.1 s' n' a' ho').kept (hq _ (fun q => e (hG.2.2.2.2 _ _ _ _ _ _ ho' ho q).2.2))
theorem qm_tys_at (g : qm_G) : ∀ s, 1 ≤ s → s ≤ 9 → (qm_tys g)[s - 1]? = some (qm_dA g s, qm_ety s) := by
  intro s h1 h2
  unfold qm_tys
  rw [List.getElem?_map, List.getElem?_range (by omega)]
  have : s - 1 + 1 = s := by omega
  simp [this]
