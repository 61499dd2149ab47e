/-! WillowLaw.image: it makes a Told where none is kept yet. -/
def qL_put (ai : Nat → Option Nat) (k q : Nat) : Nat → Option Nat := fun j => if j = k then some q else ai j
set_option maxRecDepth 100000 in
set_option maxHeartbeats 8000000 in
theorem qL_blk0 {D : va_G} {dA : Nat → ClassId} {aS : Nat → Nat} {b q : Nat} {H0 H : Heap} {ai : Nat → Option Nat} {h : qm_H} (g0 : qm_G) (hg : qm_dA g0 = dA) (hP : va_P D vwCl (zW9 g0 q) H) : ∀ x ∈ qL_tb, va_at D vwCl (q + x.2.2, qm_cell (qL_g D dA aS b H0 (qL_put ai 0 q)) (qL_fresh h 0) x.1 x.2.1 (1000 + x.2.2)) H := by
  subst hg
  exact List.forall_mem_cons.mpr ⟨(hP 0 _ rfl), List.forall_mem_cons.mpr ⟨(hP 1 _ rfl), List.forall_mem_cons.mpr ⟨(hP 2 _ rfl), List.forall_mem_cons.mpr ⟨(qL_two (hP 3 _ rfl) rfl rfl), List.forall_mem_cons.mpr ⟨(qL_two (hP 4 _ rfl) rfl rfl), List.forall_mem_cons.mpr ⟨(qL_two (hP 5 _ rfl) rfl rfl), List.forall_mem_cons.mpr ⟨(qL_two (hP 6 _ rfl) rfl rfl), List.forall_mem_cons.mpr ⟨(hP 7 _ rfl), List.forall_mem_cons.mpr ⟨(hP 8 _ rfl), List.forall_mem_cons.mpr ⟨(hP 9 _ rfl), List.forall_mem_cons.mpr ⟨(hP 10 _ rfl), List.forall_mem_cons.mpr ⟨(hP 11 _ rfl), List.forall_mem_cons.mpr ⟨(hP 12 _ rfl), List.forall_mem_cons.mpr ⟨(hP 13 _ rfl), List.forall_mem_cons.mpr ⟨(hP 14 _ rfl), List.forall_mem_cons.mpr ⟨(hP 15 _ rfl), List.forall_mem_cons.mpr ⟨(hP 16 _ rfl), List.forall_mem_cons.mpr ⟨(hP 17 _ rfl), List.forall_mem_cons.mpr ⟨(hP 18 _ rfl), List.forall_mem_cons.mpr ⟨(hP 19 _ rfl), List.forall_mem_cons.mpr ⟨(hP 20 _ rfl), List.forall_mem_cons.mpr ⟨(hP 21 _ rfl), List.forall_mem_cons.mpr ⟨(hP 22 _ rfl), List.forall_mem_cons.mpr ⟨(hP 23 _ rfl), List.forall_mem_cons.mpr ⟨(hP 24 _ rfl), List.forall_mem_cons.mpr ⟨(hP 25 _ rfl), List.forall_mem_cons.mpr ⟨(hP 26 _ rfl), List.forall_mem_cons.mpr ⟨(hP 27 _ rfl), List.forall_mem_cons.mpr ⟨(hP 28 _ rfl), fun _ hx => by cases hx⟩⟩⟩⟩⟩⟩⟩⟩⟩⟩⟩⟩⟩⟩⟩⟩⟩⟩⟩⟩⟩⟩⟩⟩⟩⟩⟩⟩⟩
set_option maxRecDepth 100000 in
set_option maxHeartbeats 8000000 in
theorem qL_blk1 {D : va_G} {dA : Nat → ClassId} {aS : Nat → Nat} {b q : Nat} {H0 H : Heap} {ai : Nat → Option Nat} {h : qm_H} (g0 : qm_G) (hg : qm_dA g0 = dA) (hP : va_P D vwCl (zW9 g0 q) H) : ∀ x ∈ qL_tb, va_at D vwCl (q + x.2.2, qm_cell (qL_g D dA aS b H0 (qL_put ai 1 q)) (qL_fresh h 1) x.1 x.2.1 (2000 + x.2.2)) H := by
  subst hg
  exact List.forall_mem_cons.mpr ⟨(hP 0 _ rfl), List.forall_mem_cons.mpr ⟨(hP 1 _ rfl), List.forall_mem_cons.mpr ⟨(hP 2 _ rfl), List.forall_mem_cons.mpr ⟨(qL_two (hP 3 _ rfl) rfl rfl), List.forall_mem_cons.mpr ⟨(qL_two (hP 4 _ rfl) rfl rfl), List.forall_mem_cons.mpr ⟨(qL_two (hP 5 _ rfl) rfl rfl), List.forall_mem_cons.mpr ⟨(qL_two (hP 6 _ rfl) rfl rfl), List.forall_mem_cons.mpr ⟨(hP 7 _ rfl), List.forall_mem_cons.mpr ⟨(hP 8 _ rfl), List.forall_mem_cons.mpr ⟨(hP 9 _ rfl), List.forall_mem_cons.mpr ⟨(hP 10 _ rfl), List.forall_mem_cons.mpr ⟨(hP 11 _ rfl), List.forall_mem_cons.mpr ⟨(hP 12 _ rfl), List.forall_mem_cons.mpr ⟨(hP 13 _ rfl), List.forall_mem_cons.mpr ⟨(hP 14 _ rfl), List.forall_mem_cons.mpr ⟨(hP 15 _ rfl), List.forall_mem_cons.mpr ⟨(hP 16 _ rfl), List.forall_mem_cons.mpr ⟨(hP 17 _ rfl), List.forall_mem_cons.mpr ⟨(hP 18 _ rfl), List.forall_mem_cons.mpr ⟨(hP 19 _ rfl), List.forall_mem_cons.mpr ⟨(hP 20 _ rfl), List.forall_mem_cons.mpr ⟨(hP 21 _ rfl), List.forall_mem_cons.mpr ⟨(hP 22 _ rfl), List.forall_mem_cons.mpr ⟨(hP 23 _ rfl), List.forall_mem_cons.mpr ⟨(hP 24 _ rfl), List.forall_mem_cons.mpr ⟨(hP 25 _ rfl), List.forall_mem_cons.mpr ⟨(hP 26 _ rfl), List.forall_mem_cons.mpr ⟨(hP 27 _ rfl), List.forall_mem_cons.mpr ⟨(hP 28 _ rfl), fun _ hx => by cases hx⟩⟩⟩⟩⟩⟩⟩⟩⟩⟩⟩⟩⟩⟩⟩⟩⟩⟩⟩⟩⟩⟩⟩⟩⟩⟩⟩⟩⟩
set_option maxRecDepth 100000 in
set_option maxHeartbeats 8000000 in
theorem qL_blk2 {D : va_G} {dA : Nat → ClassId} {aS : Nat → Nat} {b q : Nat} {H0 H : Heap} {ai : Nat → Option Nat} {h : qm_H} (g0 : qm_G) (hg : qm_dA g0 = dA) (hP : va_P D vwCl (zW9 g0 q) H) : ∀ x ∈ qL_tb, va_at D vwCl (q + x.2.2, qm_cell (qL_g D dA aS b H0 (qL_put ai 2 q)) (qL_fresh h 2) x.1 x.2.1 (3000 + x.2.2)) H := by
  subst hg
  exact List.forall_mem_cons.mpr ⟨(hP 0 _ rfl), List.forall_mem_cons.mpr ⟨(hP 1 _ rfl), List.forall_mem_cons.mpr ⟨(hP 2 _ rfl), List.forall_mem_cons.mpr ⟨(qL_two (hP 3 _ rfl) rfl rfl), List.forall_mem_cons.mpr ⟨(qL_two (hP 4 _ rfl) rfl rfl), List.forall_mem_cons.mpr ⟨(qL_two (hP 5 _ rfl) rfl rfl), List.forall_mem_cons.mpr ⟨(qL_two (hP 6 _ rfl) rfl rfl), List.forall_mem_cons.mpr ⟨(hP 7 _ rfl), List.forall_mem_cons.mpr ⟨(hP 8 _ rfl), List.forall_mem_cons.mpr ⟨(hP 9 _ rfl), List.forall_mem_cons.mpr ⟨(hP 10 _ rfl), List.forall_mem_cons.mpr ⟨(hP 11 _ rfl), List.forall_mem_cons.mpr ⟨(hP 12 _ rfl), List.forall_mem_cons.mpr ⟨(hP 13 _ rfl), List.forall_mem_cons.mpr ⟨(hP 14 _ rfl), List.forall_mem_cons.mpr ⟨(hP 15 _ rfl), List.forall_mem_cons.mpr ⟨(hP 16 _ rfl), List.forall_mem_cons.mpr ⟨(hP 17 _ rfl), List.forall_mem_cons.mpr ⟨(hP 18 _ rfl), List.forall_mem_cons.mpr ⟨(hP 19 _ rfl), List.forall_mem_cons.mpr ⟨(hP 20 _ rfl), List.forall_mem_cons.mpr ⟨(hP 21 _ rfl), List.forall_mem_cons.mpr ⟨(hP 22 _ rfl), List.forall_mem_cons.mpr ⟨(hP 23 _ rfl), List.forall_mem_cons.mpr ⟨(hP 24 _ rfl), List.forall_mem_cons.mpr ⟨(hP 25 _ rfl), List.forall_mem_cons.mpr ⟨(hP 26 _ rfl), List.forall_mem_cons.mpr ⟨(hP 27 _ rfl), List.forall_mem_cons.mpr ⟨(hP 28 _ rfl), fun _ hx => by cases hx⟩⟩⟩⟩⟩⟩⟩⟩⟩⟩⟩⟩⟩⟩⟩⟩⟩⟩⟩⟩⟩⟩⟩⟩⟩⟩⟩⟩⟩
theorem qL_fresh_ne {h : qm_H} {k a : Nat} (h1 : ¬ (1000 * (k + 1) ≤ a ∧ a < 1000 * (k + 1) + 29)) (h2 : ¬ a = 30) : (qL_fresh h k).1 a = h.1 a ∧ (qL_fresh h k).2 a = h.2 a := by
  refine ⟨funext fun j => ?_, funext fun j => ?_⟩
  · show (if _ then _ else if _ then _ else _) = _
    rw [if_neg h1, if_neg (fun q => h2 q.1)]
  · show (if _ then _ else _) = _
    rw [if_neg h1]
theorem qL_fresh_30 (h : qm_H) (k j : Nat) : (qL_fresh h k).1 30 j = if j = k then 1 else h.1 30 j := by
  have e0 : (qL_fresh h k).1 30 j = (if 1000 * (k + 1) ≤ 30 ∧ 30 < 1000 * (k + 1) + 29 then qL_h0.1 (30 - 1000 * (k + 1) + 1) j else if 30 = 30 ∧ j = k then 1 else h.1 30 j) := rfl
  rw [e0, if_neg (by omega)]
  by_cases e : j = k
  · rw [if_pos ⟨rfl, e⟩, if_pos e]
  · rw [if_neg (fun q => e q.2), if_neg e]
section QIM
variable {D : va_G} {dA : Nat → ClassId} {aS : Nat → Nat} {b : Nat} {H0 : Heap}
theorem qL_trr {ai ai' : Nat → Option Nat} (rr : Nat × Nat × Nat) (e : qm_ad (qL_g D dA aS b H0 ai') rr.2.2 = qm_ad (qL_g D dA aS b H0 ai) rr.2.2) : qm_tr (qL_g D dA aS b H0 ai') (.inr (.inr (some rr))) = qm_tr (qL_g D dA aS b H0 ai) (.inr (.inr (some rr))) := by
  obtain ⟨s, n, a⟩ := rr
  have e : qm_ad (qL_g D dA aS b H0 ai') a = qm_ad (qL_g D dA aS b H0 ai) a := e
  show Value.ref (if s = 10 then aS n else _) = Value.ref (if s = 10 then aS n else _)
  rw [e]
/-- a cell that has not changed, in a world that has grown -/
theorem qL_same {ai ai' : Nat → Option Nat} {h h' : qm_H} {H H' : Heap} {s n a p : Nat} (e1 : h'.1 a = h.1 a) (e2 : h'.2 a = h.2 a) (e3 : H'[p]? = H[p]?)
    (r0 : s = 0 → ∀ k, k < qm_nf n → qm_ft n k = 2 → qm_ad (qL_g D dA aS b H0 ai') (qm_ref n k a).2.2 = qm_ad (qL_g D dA aS b H0 ai) (qm_ref n k a).2.2)
    (r5 : 5 ≤ s → ∀ j, j < n → ¬ qm_elv h s a j = none → qm_ad (qL_g D dA aS b H0 ai') (qm_el s a j).2 = qm_ad (qL_g D dA aS b H0 ai) (qm_el s a j).2)
    (hat : va_at D vwCl (p, qm_cell (qL_g D dA aS b H0 ai) h s n a) H) : va_at D vwCl (p, qm_cell (qL_g D dA aS b H0 ai') h' s n a) H' := by
  have hat' : va_at D vwCl (p, qm_cell (qL_g D dA aS b H0 ai) h s n a) H' := hat.kept e3
  match s, r0, r5, hat' with
  | 0, r0, _, hat' =>
    have e : qm_cell (qL_g D dA aS b H0 ai') h' 0 n a = qm_cell (qL_g D dA aS b H0 ai) h 0 n a := by
      show Sum.inr (n, _) = Sum.inr (n, _)
      congr 2
      apply List.map_congr_left
      intro k hk
      have hk := List.mem_range.mp hk
      unfold qm_getf
      rw [e1, e2]
      split
      · rfl
      · rename_i hf
        exact qL_trr _ (r0 rfl k hk hf)
      · rfl
    rw [e]
    exact hat'
  | 1, _, _, hat' => unfold qm_cell at hat' ⊢; simp only at hat' ⊢; rw [e1]; exact hat'
  | 2, _, _, hat' => unfold qm_cell at hat' ⊢; simp only at hat' ⊢; rw [e1]; exact hat'
  | 3, _, _, hat' => unfold qm_cell at hat' ⊢; simp only at hat' ⊢; rw [e1]; exact hat'
  | 4, _, _, hat' => unfold qm_cell at hat' ⊢; simp only at hat' ⊢; rw [e2]; exact hat'
  | s + 5, _, r5, hat' =>
    show H'[p]? = some (vp_cell _ _)
    have hat' : H'[p]? = some (vp_cell _ _) := hat'
    rw [hat']
    congr 1
    refine qL_arr_eq (fun j hj => ?_)
    have e : qm_elv h' (s + 5) a j = qm_elv h (s + 5) a j := by
      unfold qm_elv
      rw [e1]
    rw [e]
    cases hv : qm_elv h (s + 5) a j with
    | none => rfl
    | some r =>
      have := r5 (by omega) j hj (by rw [hv]; intro q; cases q)
      unfold qm_elv at hv
      split at hv
      · cases hv
      · cases hv
        exact congrArg some this.symm
theorem qL_lt {ai : Nat → Option Nat} {h : qm_H} {H : Heap} (hR : qm_HR (qL_g D dA aS b H0 ai) h H) : b + 88 ≤ H.size ∧ ∀ k q, k < 3 → ai k = some q → q + 29 ≤ H.size := by
  refine ⟨?_, fun k q hk hq => ?_⟩
  · have h1 := (hR.2.2.1 3 3 87 (Or.inl (by decide +kernel))).lt
    rw [qL_ad_st (by omega)] at h1
    omega
  · have h1 := (hR.2.2.1 1 30 (1000 * (k + 1) + 28) (Or.inr ⟨k, q, 28, hk, hq, rfl, by decide +kernel⟩)).lt
    rw [qL_ad_bl hq (by omega)] at h1
    omega
theorem qL_ad_lo {ai ai' : Nat → Option Nat} {a : Nat} (h : a < 88) : qm_ad (qL_g D dA aS b H0 ai') a = qm_ad (qL_g D dA aS b H0 ai) a := by rw [qL_ad_st h, qL_ad_st h]
theorem qL_ad_pu {ai : Nat → Option Nat} {k q j : Nat} {off : Nat} (hj : ¬ j = k) (ho : off < 1000) : qm_ad (qL_g D dA aS b H0 (qL_put ai k q)) (1000 * (j + 1) + off) = qm_ad (qL_g D dA aS b H0 ai) (1000 * (j + 1) + off) := by
  show (if 1000 * (j + 1) + off < 1000 then _ else match qL_put ai k q ((1000 * (j + 1) + off) / 1000 - 1) with | some q => _ | none => 0) = (if 1000 * (j + 1) + off < 1000 then _ else match ai ((1000 * (j + 1) + off) / 1000 - 1) with | some q => _ | none => 0)
  rw [if_neg (by omega), if_neg (by omega), show (1000 * (j + 1) + off) / 1000 - 1 = j by omega]
  have : qL_put ai k q j = ai j := if_neg hj
  rw [this]
/-- the heap relation behind the making of image k -/
theorem qL_made {ai : Nat → Option Nat} (hai : qL_ai b ai) (h3 : ∀ j, 3 ≤ j → ai j = none) {h : qm_H} {H H3 : Heap} (hR : qm_HR (qL_g D dA aS b H0 ai) h H) {k : Nat} (hk : k < 3) (hz : H3.size = H.size + 29) (hq : ∀ q : Nat, q < H.size → q ≠ b + 30 → H3[q]? = H[q]?) (g0 : qm_G) (hg0 : qm_dA g0 = dA) (hP : va_P D vwCl (zW9 g0 H.size) H3)
    (hI : va_at D vwCl (b + 30, .inl (dA 8, 3, .inr (.inr (.inr (.inr (va_up (fun j => (qm_elv h 8 30 j).map fun r => qm_ad (qL_g D dA aS b H0 ai) r.2.2) k (some H.size))))))) H3) : qL_ai b (qL_put ai k H.size) ∧ (∀ j, 3 ≤ j → qL_put ai k H.size j = none) ∧ qm_HR (qL_g D dA aS b H0 (qL_put ai k H.size)) (qL_fresh h k) H3 := by
  obtain ⟨z1, z2⟩ := qL_lt hR
  have hb0 : ∀ j q, qL_put ai k H.size j = some q → (j = k ∧ q = H.size) ∨ (¬ j = k ∧ ai j = some q) := by
    intro j q e
    unfold qL_put at e
    split at e
    · cases e; exact Or.inl ⟨by assumption, rfl⟩
    · exact Or.inr ⟨by assumption, e⟩
  have hbs : ∀ j q, ai j = some q → q + 29 ≤ H.size := fun j q e => by
    by_cases hj : j < 3
    · exact z2 j q hj e
    · rw [h3 j (by omega)] at e; cases e
  refine ⟨⟨fun j q e => ?_, fun j j' q q' hne e e' => ?_⟩, fun j hj => ?_, ?_, ?_, ?_, ?_⟩
  · rcases hb0 j q e with ⟨rfl, rfl⟩ | ⟨_, e⟩
    · exact z1
    · exact hai.1 j q e
  · rcases hb0 j q e with ⟨e1, e2⟩ | ⟨n1, e⟩ <;> rcases hb0 j' q' e' with ⟨e3, e4⟩ | ⟨n2, e'⟩
    · exact absurd (e1.trans e3.symm) hne
    · exact Or.inr (by rw [e2]; exact hbs j' q' e')
    · exact Or.inl (by rw [e4]; exact hbs j q e)
    · exact hai.2 j j' q q' hne e e'
  · show (if j = k then _ else _) = _
    rw [if_neg (by omega)]
    exact h3 j hj
  · show b ≤ H3.size
    omega
  · intro q hl
    have hl : q < b := hl
    rw [hq q (by omega) (by omega)]
    exact hR.2.1 q hl
  · intro s n a ho
    rcases ho with ho | ⟨j, q, off, hj, hjq, rfl, ho⟩
    · have l2 : a < 88 := (qL_st_1 _ ho).2.1
      rw [qL_ad_st l2]
      by_cases e30 : a = 30
      · subst e30
        have e : (s, n, 30) = (8, 3, 30) := qL_st_4 _ ho _ (by decide +kernel) rfl
        cases e
        show H3[b + 30]? = some (vp_cell _ _)
        rw [show H3[b + 30]? = some (vp_cell _ _) from hI]
        congr 1
        refine qL_arr_eq (fun j hj => ?_)
        by_cases ej : j = k
        · subst ej
          have e1 : va_up (fun j => (qm_elv h 8 30 j).map fun r => qm_ad (qL_g D dA aS b H0 ai) r.2.2) j (some H.size) j = some H.size := if_pos rfl
          have e2 : qm_elv (qL_fresh h j) 8 30 j = some (0, 9, 1000 * (j + 1)) := by
            unfold qm_elv
            rw [if_neg]
            · rfl
            · intro q
              have e3 : (qL_fresh h j).1 30 j = 1 := by rw [qL_fresh_30, if_pos rfl]
              rw [e3] at q
              exact absurd q.2 (by decide)
          rw [e1, e2]
          have e4 := qL_ad_bl (D := D) (dA := dA) (aS := aS) (b := b) (H0 := H0) (ai := qL_put ai j H.size) (k := j) (q := H.size) (off := 0) (if_pos rfl) (by omega)
          exact congrArg some e4.symm
        · have e1 : va_up (fun j => (qm_elv h 8 30 j).map fun r => qm_ad (qL_g D dA aS b H0 ai) r.2.2) k (some H.size) j = (qm_elv h 8 30 j).map fun r => qm_ad (qL_g D dA aS b H0 ai) r.2.2 := if_neg ej
          have e2 : qm_elv (qL_fresh h k) 8 30 j = qm_elv h 8 30 j := by
            have e3 : (qL_fresh h k).1 30 j = h.1 30 j := by rw [qL_fresh_30, if_neg ej]
            unfold qm_elv
            rw [e3]
          rw [e1, e2]
          unfold qm_elv
          split
          · rfl
          · exact congrArg some (qL_ad_pu (off := 0) ej (by omega)).symm
      · have h1 := hR.2.2.1 s n a (Or.inl ho)
        rw [qL_ad_st l2] at h1
        obtain ⟨f1, f2⟩ := qL_fresh_ne (h := h) (k := k) (a := a) (by omega) e30
        refine qL_same f1 f2 (hq _ (by omega) (by omega)) (fun hs kk hkk hf => ?_) (fun hs jj hjj _ => ?_) h1
        · subst hs
          exact qL_ad_lo (qL_st_1 _ (qL_st_2 _ ho rfl kk hkk hf)).2.1
        · have h8 : ¬ s = 8 := fun e => e30 (by subst e; exact qL_st_8 _ ho rfl)
          exact qL_ad_lo (qL_st_1 _ (qL_st_3 _ ho hs h8 jj hjj)).2.1
    · have l2 : off < 29 := (qL_tb_1 _ ho).2.1
      rw [qL_ad_bl hjq l2]
      rcases hb0 j q hjq with ⟨rfl, rfl⟩ | ⟨n1, e⟩
      · have key : ∀ x ∈ qL_tb, va_at D vwCl (H.size + x.2.2, qm_cell (qL_g D dA aS b H0 (qL_put ai j H.size)) (qL_fresh h j) x.1 x.2.1 (1000 * (j + 1) + x.2.2)) H3 := by
          rcases (show j = 0 ∨ j = 1 ∨ j = 2 by omega) with rfl | rfl | rfl
          · exact qL_blk0 g0 hg0 hP
          · exact qL_blk1 g0 hg0 hP
          · exact qL_blk2 g0 hg0 hP
        exact key _ ho
      · have h1 := hR.2.2.1 s n (1000 * (j + 1) + off) (Or.inr ⟨j, q, off, hj, e, rfl, ho⟩)
        rw [qL_ad_bl e l2] at h1
        have b1 := hai.1 j q e
        have b2 := hbs j q e
        obtain ⟨f1, f2⟩ := qL_fresh_ne (h := h) (k := k) (a := 1000 * (j + 1) + off) (by omega) (by omega)
        refine qL_same f1 f2 (hq _ (by omega) (by omega)) (fun hs kk hkk hf => ?_) (fun hs jj hjj _ => ?_) h1
        · subst hs
          rw [qL_ref_sh n kk (1000 * (j + 1)) off (qL_tb_0 _ ho rfl)]
          have l3 : (qm_ref n kk off).2.2 < 29 := (qL_tb_1 _ (qL_tb_2 _ ho rfl kk hkk hf)).2.1
          exact qL_ad_pu n1 (by omega)
        · rw [qL_el_sh s (1000 * (j + 1)) off jj (qL_tb_8 _ ho)]
          have l3 : (qm_el s off jj).2 < 29 := (qL_tb_1 _ (qL_tb_3 _ ho hs jj hjj)).2.1
          exact qL_ad_pu n1 (by omega)
  · intro n a j ho hj hf
    rcases ho with ho | ⟨j1, q, off, _, _, rfl, ho⟩
    · have e : (8, n, a) = (8, 3, 30) := qL_st_4 _ ho (8, 3, 30) (by decide +kernel) (qL_st_8 _ ho rfl)
      cases e
      by_cases ejk : j = k
      · subst ejk
        exact Or.inr ⟨j, H.size, 0, hk, if_pos rfl, rfl, by decide +kernel⟩
      · have hf' : ¬ h.1 30 j = 0 := by
          intro e
          apply hf
          rw [qL_fresh_30, if_neg ejk]
          exact e
        rcases hR.2.2.2 3 30 j (Or.inl ho) hj hf' with h9 | ⟨j1, q, off, g1, g2, g3, g4⟩
        · have : 1000 * (j + 1) < 88 := (qL_st_1 _ h9).2.1
          omega
        · have : off < 29 := (qL_tb_1 _ g4).2.1
          exact Or.inr ⟨j1, q, off, g1, by show (if j1 = k then _ else _) = _; rw [if_neg (by omega)]; exact g2, g3, g4⟩
    · exact absurd rfl (qL_tb_8 _ ho)
theorem qL_ok_11 {ai : Nat → Option Nat} : qm_ok (qL_g D dA aS b H0 ai) 0 11 0 := Or.inl (by decide +kernel)
theorem qL_ok_12 {ai : Nat → Option Nat} : qm_ok (qL_g D dA aS b H0 ai) 0 12 62 := Or.inl (by decide +kernel)
theorem qL_ok_1 {ai : Nat → Option Nat} : qm_ok (qL_g D dA aS b H0 ai) 0 9 1 := Or.inl (by decide +kernel)
theorem qL_ok_30 {ai : Nat → Option Nat} : qm_ok (qL_g D dA aS b H0 ai) 8 3 30 := Or.inl (by decide +kernel)
end QIM
theorem dX11_image_0 : decode cX11_image 0 = .ok (.iload_n 1, 1) := by decide +kernel
theorem dX11_image_1 : decode cX11_image 1 = .ok (.ifCond .lt 8, 3) := by decide +kernel
theorem dX11_image_4 : decode cX11_image 4 = .ok (.iload_n 1, 1) := by decide +kernel
theorem dX11_image_5 : decode cX11_image 5 = .ok (.iconst 3, 1) := by decide +kernel
theorem dX11_image_6 : decode cX11_image 6 = .ok (.if_icmp .lt 5, 3) := by decide +kernel
theorem dX11_image_9 : decode cX11_image 9 = .ok (.iconst 0, 1) := by decide +kernel
theorem dX11_image_10 : decode cX11_image 10 = .ok (.ireturn, 1) := by decide +kernel
theorem dX11_image_11 : decode cX11_image 11 = .ok (.aload_n 0, 1) := by decide +kernel
theorem dX11_image_12 : decode cX11_image 12 = .ok (.getfield 16, 3) := by decide +kernel
theorem dX11_image_15 : decode cX11_image 15 = .ok (.iload_n 1, 1) := by decide +kernel
theorem dX11_image_16 : decode cX11_image 16 = .ok (.aaload, 1) := by decide +kernel
theorem dX11_image_17 : decode cX11_image 17 = .ok (.astore_n 2, 1) := by decide +kernel
theorem dX11_image_18 : decode cX11_image 18 = .ok (.aload_n 2, 1) := by decide +kernel
theorem dX11_image_19 : decode cX11_image 19 = .ok (.ifnonnull 18, 3) := by decide +kernel
theorem dX11_image_22 : decode cX11_image 22 = .ok (.new 7, 3) := by decide +kernel
theorem dX11_image_25 : decode cX11_image 25 = .ok (.dup, 1) := by decide +kernel
theorem dX11_image_26 : decode cX11_image 26 = .ok (.invokespecial 9, 3) := by decide +kernel
theorem dX11_image_29 : decode cX11_image 29 = .ok (.astore_n 2, 1) := by decide +kernel
theorem dX11_image_30 : decode cX11_image 30 = .ok (.aload_n 0, 1) := by decide +kernel
theorem dX11_image_31 : decode cX11_image 31 = .ok (.getfield 16, 3) := by decide +kernel
theorem dX11_image_34 : decode cX11_image 34 = .ok (.iload_n 1, 1) := by decide +kernel
theorem dX11_image_35 : decode cX11_image 35 = .ok (.aload_n 2, 1) := by decide +kernel
theorem dX11_image_36 : decode cX11_image 36 = .ok (.aastore, 1) := by decide +kernel
theorem dX11_image_37 : decode cX11_image 37 = .ok (.aload_n 2, 1) := by decide +kernel
theorem dX11_image_38 : decode cX11_image 38 = .ok (.aload_n 0, 1) := by decide +kernel
theorem dX11_image_39 : decode cX11_image 39 = .ok (.getfield 10, 3) := by decide +kernel
theorem dX11_image_42 : decode cX11_image 42 = .ok (.invokevirtual 89, 3) := by decide +kernel
theorem dX11_image_45 : decode cX11_image 45 = .ok (.iconst 1, 1) := by decide +kernel
theorem dX11_image_46 : decode cX11_image 46 = .ok (.ireturn, 1) := by decide +kernel
theorem zj_image : Jvm.Cond.code yX11_image cX11_image 3 (some .boolean) ∈ qm_all := List.mem_filter.mpr ⟨by decide +kernel, rfl⟩
section QIW
variable {D : va_G} {dA : Nat → ClassId} {aS : Nat → Nat} {b : Nat} {H0 : Heap}
set_option maxRecDepth 100000 in
set_option maxHeartbeats 8000000 in
theorem zX11_image (l : Launch) {ai : Nat → Option Nat} (hai : qL_ai b ai) (h3 : ∀ j, 3 ≤ j → ai j = none) (x : Int32) (h : qm_H) (H : Heap) {r : Int32} {h2 : qm_H} (hf : qL_img x h = some (r, h2)) : Met l yX11_image (Jvm.Cond.code yX11_image cX11_image 3 (some .boolean) :: qm_all) ({ frames := 3, cells := 29, slots := 1291, locals := 110 }) (va_Pc [.ref b, .int x] fun U => U.heap = H ∧ qm_HR (qL_g D dA aS b H0 ai) h U.heap ∧ va_K D vwCl (qm_tys (qL_g D dA aS b H0 ai)) U ∧ qm_SR (qL_g D dA aS b H0 ai) U ∧ qz_NK U) (fun _ _ oc t => oc = .returned (some (.int r)) ∧ ∃ ai', qL_ai b ai' ∧ (∀ j, 3 ≤ j → ai' j = none) ∧ qm_HR (qL_g D dA aS b H0 ai') h2 t.heap) 29 1291 (fun q => b ≤ q) := by
  refine va_MetF (cc := cX11_image) (maxL := 3) (ret := some .boolean) (plainFor_of_name (by decide)) rfl ?_
  intro p e s m args below meth c s₁ B hml hv
  obtain ⟨rfl, rfl, hH, hK, hSR, hN⟩ := hv
  have hts := atoms_spec (ws := Jvm.Cond.code yX11_image cX11_image 3 (some .boolean) :: qm_all) B.pre
  have tsa : ∀ w ∈ qm_all, w.before _ s = true := fun w hw => hts w (List.mem_cons_of_mem _ hw)
  have A : qz_At p s m _ c cX11_image D (qm_tys (qL_g D dA aS b H0 ai)) RX11 (Jvm.Cond.code yX11_image cX11_image 3 (some .boolean) :: qm_all) := ⟨B.exec, B.bytes, findClass_of_methodNamed B.named, hts, hK, fun cl hcl w hw => List.mem_cons_of_mem _ (qm_u_in cl hcl w hw)⟩
  have hr := B.returns
  have hlocks := B.notSynchronized
  have hl := lv_entry ([.ref b, .int x]) (n := 3) (Nat.le_of_ble_eq_true rfl)
  rw [lg_entry_eq]
  generalize (lg_sl ([.ref b, .int x]) ++ List.replicate (3 - (lg_sl ([.ref b, .int x])).length) Slot.unset).toArray = ls at hl ⊢
  have hl : lv_has ls 3 [(0, .ref b), (1, .int x)] := hl
  refine lv_iload_n A.1 A.2.1 dX11_image_0 rfl (lv_at hl 1 rfl) ?_
  refine lv_if_lt (tgt := 9) A.1 A.2.1 dX11_image_1 (by decide) (fun q => ?_) (fun q => ?_)
  · have e1 : qL_img x h = some (0, h) := if_pos q
    rw [e1] at hf
    cases hf
    refine lv_iconst (v := 0) A.1 A.2.1 dX11_image_9 (by decide) ?_
    refine W.widen (k := 29) (n := 1291) (Nat.zero_le _) (Nat.zero_le _) ?_
    exact W.zret A.1 A.2.1 hr rfl (fun t ht _ => ⟨rfl, ai, hai, h3, by rw [ht]; exact hH⟩) (fun _ q => by cases q) dX11_image_10
  refine lv_iload_n A.1 A.2.1 dX11_image_4 rfl (lv_at hl 1 rfl) ?_
  refine lv_iconst (v := 3) A.1 A.2.1 dX11_image_5 (by decide) ?_
  refine lv_icmp_lt (tgt := 11) A.1 A.2.1 dX11_image_6 (by decide) (fun q3 => ?_) (fun q3 => ?_)
  rotate_left
  · have e1 : qL_img x h = some (0, h) := (if_neg q).trans (if_neg q3)
    rw [e1] at hf
    cases hf
    refine lv_iconst (v := 0) A.1 A.2.1 dX11_image_9 (by decide) ?_
    refine W.widen (k := 29) (n := 1291) (Nat.zero_le _) (Nat.zero_le _) ?_
    exact W.zret A.1 A.2.1 hr rfl (fun t ht _ => ⟨rfl, ai, hai, h3, by rw [ht]; exact hH⟩) (fun _ q => by cases q) dX11_image_10
  obtain ⟨k, hk0, rfl⟩ := nI_of q
  have hk : k < 3 := (nI_ltI hk0 (by decide)).mp q3
  have ek : (nI k).toNatClampNeg = k := nI_clamp hk0
  have e1 : qL_img (nI k) h = (qX9_take (1000 * (k + 1)) 1 (if h.1 30 k = 0 then qL_fresh h k else h)).bind fun h2 => some (1, h2) := by
    unfold qL_img
    rw [if_neg q, if_pos q3, ek]
  rw [e1] at hf
  obtain ⟨h2', ht2, hf⟩ := Option.bind_eq_some_iff.mp hf
  cases hf
  -- the tail, from pc 37 on
  have tail : ∀ (ai' : Nat → Option Nat) (h1 : qm_H) (H1 : Heap) (locs : List Loc) (cells slots : Nat) (ls : Array Slot), qL_ai b ai' → (∀ j, 3 ≤ j → ai' j = none) → qm_HR (qL_g D dA aS b H0 ai') h1 H1 → qm_ok (qL_g D dA aS b H0 ai') 0 9 (1000 * (k + 1)) → (∀ q ∈ locs, b ≤ q.base) → cells ≤ 29 → slots ≤ 1291 → lv_has ls 3 [(2, .ref (qm_ad (qL_g D dA aS b H0 ai') (1000 * (k + 1)))), (0, .ref b), (1, .int (nI k))] → qX9_take (1000 * (k + 1)) 1 h1 = some h2 → W p l e (headSpec (Jvm.Cond.code yX11_image cX11_image 3 (some .boolean) :: qm_all) { frames := 3, cells := 29, slots := 1291, locals := 110 }).room s m #[Value.ref b, Value.int (nI k)] below meth c H1 locs cells slots (MQ below (fun _ _ oc t => oc = .returned (some (.int 1)) ∧ ∃ ai', qL_ai b ai' ∧ (∀ j, 3 ≤ j → ai' j = none) ∧ qm_HR (qL_g D dA aS b H0 ai') h2 t.heap) #[Value.ref b, Value.int (nI k)] s 29 1291 (fun q => b ≤ q)) (F0 m 37 ls []) := by
    intro ai' h1 H1 locs cells slots ls hai' h3' hR hok hlo hc hs hl hq
    have hSR' : qm_SR (qL_g D dA aS b H0 ai') s := hSR
    have hK' : va_K D vwCl (qm_tys (qL_g D dA aS b H0 ai')) s := hK
    refine lv_aload_n A.1 A.2.1 dX11_image_37 rfl (lv_at hl 0 rfl) ?_
    refine lv_aload_n A.1 A.2.1 dX11_image_38 rfl (lv_at hl 1 rfl) ?_
    refine va_get (D := D) (cl := vwCl) (ci := 11) (C := qm_R 11) (T := qm_T 11) (N := qm_nf 11) (v := .ref (b + 1)) A.1 A.2.1 hts (A.2.2.2.2.2 11 (by decide)) A.2.2.1 hK (qm_P1 (hR.2.2.1 0 11 0 qL_ok_11)) 0 rfl rfl 0 (by decide) (hts _ (List.mem_cons_of_mem _ (qm_fld_ok pfRX11_ok 10 11 0 rfl).2)) (fun _ h9 => h9) rfl dX11_image_39 ?_
    have hM := sX9_take l (qL_g D dA aS b H0 ai') (qL_GO hai') [qm_r 0 9 (1000 * (k + 1)), qm_r 0 9 1] h1 (none, h2) (by show (qX9_take _ _ h1).map qm_Gv = _; rw [hq]; rfl) (qm_ca (qm_okv_of (by omega) hok) (qm_ca (qm_okv_of (by omega) qL_ok_1) (fun _ hv => by cases hv)))
    have run := va_runV (p := p) (l := l) (e := e) (R := (headSpec (Jvm.Cond.code yX11_image cX11_image 3 (some .boolean) :: qm_all) { frames := 3, cells := 29, slots := 1291, locals := 110 }).room) (below := below) (meth := meth) (H := H1) (locs := locs) (cells := cells) (slots := slots) (S := ⟨A.1, A.2.1, hml, A.2.2.1, hts⟩) (hM := hM) (cw := ⟨callB_of 1 hts (qm_GoodIn jX9_take) rfl rfl rfl (tsa _ uRX9) (tsa _ kRX11_89) ⟨by decide, by decide, rfl⟩ ⟨Nat.le_of_ble_eq_true rfl, Nat.le_of_ble_eq_true rfl⟩, tsa _ iX9_take.1, tsa _ iX9_take.2⟩) (As := [.ref (b + 1)]) (rest := []) (b := qm_ad (qL_g D dA aS b H0 ai') (1000 * (k + 1))) (g := F0 m 42 ls [.ref (b + 1), .ref (qm_ad (qL_g D dA aS b H0 ai') (1000 * (k + 1)))]) ⟨qm_Pc_blind _ _ _, (by
        obtain ⟨cell, c1, c2, c3⟩ := va_recv (q0 := 0) hK' (qm_P1 (hR.2.2.1 0 9 _ hok)) (qm_cl 9 (by decide)) rfl
        exact ⟨cell, c1, c2, c3⟩), fun U hU hW => ⟨rfl, by rw [hU]; exact hR, va_K.moved hW.alike hK', hSR'.warm hW⟩⟩ rfl rfl hl.1 rfl (lv_room (Nat.le_of_ble_eq_true rfl)) dX11_image_42 ⟨by show cells + 0 ≤ 29; omega, by show slots + 0 ≤ 1291; omega⟩
    intro T hT X
    obtain ⟨v, st₀, t, T', L', g0, X', hL', e3, e4, ⟨hv, hH', hok'⟩, st⟩ := run T hT X
    have hv' : v = none := Outcome.returned.inj hv
    subst hv'
    have k1 : W p l e (headSpec (Jvm.Cond.code yX11_image cX11_image 3 (some .boolean) :: qm_all) { frames := 3, cells := 29, slots := 1291, locals := 110 }).room s m #[Value.ref b, Value.int (nI k)] below meth c T'.heap (locs ++ L') (cells + 0) (slots + 0) (MQ below (fun _ _ oc t => oc = .returned (some (.int 1)) ∧ ∃ ai', qL_ai b ai' ∧ (∀ j, 3 ≤ j → ai' j = none) ∧ qm_HR (qL_g D dA aS b H0 ai') h2 t.heap) #[Value.ref b, Value.int (nI k)] s 29 1291 (fun q => b ≤ q)) (F0 m 45 ls []) := by
      refine lv_iconst (v := 1) A.1 A.2.1 dX11_image_45 (by decide) ?_
      refine W.widen (k := 29) (n := 1291) hc hs ?_
      exact W.zret A.1 A.2.1 hr rfl (fun t' ht' _ => ⟨rfl, ai', hai', h3', by rw [ht', e3]; exact hH'⟩) (fun q hq => (List.mem_append.mp hq).elim (hlo q) (hL' q)) dX11_image_46
    obtain ⟨t2, a1, b1⟩ := k1 T' rfl X'
    exact ⟨t2, st t2 a1, b1⟩
  refine lv_aload_n A.1 A.2.1 dX11_image_11 rfl (lv_at hl 0 rfl) ?_
  refine va_get (D := D) (cl := vwCl) (ci := 11) (C := qm_R 11) (T := qm_T 11) (N := qm_nf 11) (v := .ref (b + 30)) A.1 A.2.1 hts (A.2.2.2.2.2 11 (by decide)) A.2.2.1 hK (qm_P1 (hH.2.2.1 0 11 0 qL_ok_11)) 0 rfl rfl 1 (by decide) (hts _ (List.mem_cons_of_mem _ (qm_fld_ok pfRX11_ok 16 11 1 rfl).2)) (fun _ h9 => h9) rfl dX11_image_12 ?_
  refine lv_iload_n A.1 A.2.1 dX11_image_15 rfl (lv_at hl 1 rfl) ?_
  have hI : va_at D vwCl (b + 30, .inl (dA 8, 3, .inr (.inr (.inr (.inr (fun j => (qm_elv h 8 30 j).map fun r => qm_ad (qL_g D dA aS b H0 ai) r.2.2)))))) s.heap := hH.2.2.1 8 3 30 qL_ok_30
  refine va_aldq A.1 A.2.1 hK (qm_P1 hI) 0 7 rfl (qm_tys_at (qL_g D dA aS b H0 ai) 8 (by omega) (by omega)) (vp_in_nI hk (by decide)) dX11_image_16 ?_
  rw [ek]
  by_cases hfl : h.1 30 k = 0
  rotate_left
  · rw [if_neg hfl] at ht2
    have ev : qm_elv h 8 30 k = some (0, 9, 1000 * (k + 1)) := if_neg (fun q => hfl q.2)
    rw [ev]
    refine lv_astore_n (lv' := [(2, .ref (qm_ad (qL_g D dA aS b H0 ai) (1000 * (k + 1)))), (0, .ref b), (1, .int (nI k))]) A.1 A.2.1 dX11_image_17 rfl hl (by decide) rfl (fun ls hl => ?_)
    refine lv_aload_n A.1 A.2.1 dX11_image_18 rfl (lv_at hl 0 rfl) ?_
    refine lv_ifnonnull (tgt := 37) A.1 A.2.1 dX11_image_19 (by decide) ?_
    exact tail ai h s.heap [] 0 0 ls hai h3 hH (hH.2.2.2 3 30 k qL_ok_30 hk hfl) (fun _ q => by cases q) (Nat.zero_le _) (Nat.zero_le _) hl ht2
  rw [if_pos hfl] at ht2
  have ev : qm_elv h 8 30 k = none := if_pos ⟨rfl, hfl⟩
  rw [ev]
  refine lv_astore_nN (lv' := [(2, .null), (0, .ref b), (1, .int (nI k))]) A.1 A.2.1 dX11_image_17 rfl hl (by decide) rfl (fun ls hl => ?_)
  refine lv_aload_nN A.1 A.2.1 dX11_image_18 rfl (lv_at hl 0 rfl) ?_
  refine lv_ifnonnullN A.1 A.2.1 dX11_image_19 ?_
  have hh := qz_H0 hI
  refine qz_new A (ad := s.heap.size) (by omega) (ci := 9) (fs := [.null, .null, .null, .null, .null, .null, .int 0, .int 0, .int 0]) (by decide) (List.mem_cons_of_mem _ zl_RX11_7) (List.mem_cons_of_mem _ zi_RX9) (List.mem_cons_of_mem _ uRX9) (by decide +kernel) hh (Nat.le_of_ble_eq_true rfl) (Nat.le_of_ble_eq_true rfl) dX11_image_22 (fun H hh => ?_)
  refine W.widen (k := 1) (n := 9) (Nat.le_of_ble_eq_true rfl) (Nat.le_of_ble_eq_true rfl) ?_
  refine lv_dup A.1 A.2.1 dX11_image_25 rfl ?_
  refine qz_after (g := qL_g D dA aS b H0 ai) (q := s.heap.size) (i := 1) (w1 := zW9 (qL_g D dA aS b H0 ai) s.heap.size) hh rfl (by rw [hh.1]) (Or.inr (Nat.le_refl _)) (zW9_ad _ _) (va_runI (S := ⟨A.1, A.2.1, hml, A.2.2.1, hts⟩) (hM := zX9_init l (qL_g D dA aS b H0 ai) H s.heap.size (by rw [hh.1])) (cw := ⟨callB_of 0 hts (qm_GoodIn zj_X9) rfl rfl rfl (tsa _ uRX9) (tsa _ zk_RX11_9) ⟨by decide, by decide, rfl⟩ ⟨Nat.le_of_ble_eq_true rfl, Nat.le_of_ble_eq_true rfl⟩, rfl, tsa _ zn_X9⟩) (As := []) (rest := [.ref s.heap.size]) (b := s.heap.size) ⟨qz_Pc_blind _ _ _ _ _, fun U hU hW => ⟨rfl, hU, hh.2.1 1 _ rfl, va_K.moved hW.alike hK, hN.warm hW⟩⟩ rfl rfl hl.1 rfl (lv_room (Nat.le_of_ble_eq_true rfl)) dX11_image_26 ⟨Nat.le_of_ble_eq_true rfl, Nat.le_of_ble_eq_true rfl⟩) (fun H locs hh => ?_)
  refine lv_astore_n (lv' := [(2, .ref s.heap.size), (0, .ref b), (1, .int (nI k))]) A.1 A.2.1 dX11_image_29 rfl hl (by decide) rfl (fun ls hl => ?_)
  refine lv_aload_n A.1 A.2.1 dX11_image_30 rfl (lv_at hl 1 rfl) ?_
  have hbz : b + 88 ≤ s.heap.size := (qL_lt hH).1
  have hb11 := (hH.2.2.1 0 11 0 qL_ok_11).kept (hh.2.2.2.1 (b + 0) (by omega) (by omega))
  refine va_get (D := D) (cl := vwCl) (ci := 11) (C := qm_R 11) (T := qm_T 11) (N := qm_nf 11) (v := .ref (b + 30)) A.1 A.2.1 hts (A.2.2.2.2.2 11 (by decide)) A.2.2.1 hK (qm_P1 hb11) 0 rfl rfl 1 (by decide) (hts _ (List.mem_cons_of_mem _ (qm_fld_ok pfRX11_ok 16 11 1 rfl).2)) (fun _ h9 => h9) rfl dX11_image_31 ?_
  refine lv_iload_n A.1 A.2.1 dX11_image_34 rfl (lv_at hl 2 rfl) ?_
  refine lv_aload_n A.1 A.2.1 dX11_image_35 rfl (lv_at hl 0 rfl) ?_
  refine qz_aast A (t0 := 7) (i := 0) (qk := 1) (ci := 9) (N := 3) (r := (qm_R 9, qm_T 9, qm_nf 9)) hh rfl (qm_tys_at (qL_g D dA aS b H0 ai) 8 (by omega) (by omega)) rfl rfl (vp_in_nI hk (by decide)) (Or.inl rfl) dX11_image_36 (fun H locs hh => ?_)
  rw [ek] at hh
  obtain ⟨m1, m2, m3⟩ := qL_made hai h3 hH hk hh.1 hh.2.2.2.1 (qL_g D dA aS b H0 ai) rfl (fun j y hy => hh.2.1 (j + 1) y hy) (hh.2.1 0 _ rfl)
  refine tail (qL_put ai k s.heap.size) (qL_fresh h k) H locs _ _ ls m1 m2 m3 (Or.inr ⟨k, s.heap.size, 0, hk, if_pos rfl, rfl, by decide +kernel⟩) (fun q hq => ?_) (Nat.le_of_ble_eq_true rfl) (Nat.le_of_ble_eq_true rfl) ?_ ht2
  · rcases hh.2.2.2.2 q hq with e | e
    · exact Nat.le_trans (Nat.le_add_right b 30) (Nat.le_of_eq e.symm)
    · exact Nat.le_trans (Nat.le_trans (Nat.le_add_right b 88) hbz) e
  · have e4 := qL_ad_bl (D := D) (dA := dA) (aS := aS) (b := b) (H0 := H0) (ai := qL_put ai k s.heap.size) (k := k) (q := s.heap.size) (off := 0) (if_pos rfl) (by omega)
    have e5 : qm_ad (qL_g D dA aS b H0 (qL_put ai k s.heap.size)) (1000 * (k + 1)) = s.heap.size := e4
    rw [e5]
    exact hl
end QIW
