/-! THE LAW'S WORLD: which cells are there, where they lie. -/
def qL_st : List (Nat × Nat × Nat) := [(0, 11, 0), (0, 9, 1), (2, 600, 2), (1, 4, 3), (5, 2, 4), (9, 2, 5), (7, 2, 6), (6, 2, 7), (0, 0, 8), (1, 16, 9), (1, 16, 10), (1, 81, 11), (0, 10, 12), (1, 160, 13), (0, 2, 14), (1, 6, 15), (1, 8, 16), (0, 1, 17), (1, 30, 18), (0, 0, 19), (1, 16, 20), (1, 16, 21), (1, 81, 22), (0, 10, 23), (1, 160, 24), (0, 2, 25), (1, 6, 26), (1, 8, 27), (0, 1, 28), (1, 30, 29), (8, 3, 30), (0, 3, 31), (0, 0, 32), (1, 16, 33), (1, 16, 34), (1, 81, 35), (0, 10, 36), (1, 160, 37), (0, 2, 38), (1, 6, 39), (1, 8, 40), (0, 1, 41), (1, 30, 42), (0, 8, 43), (0, 6, 44), (0, 0, 45), (1, 16, 46), (1, 16, 47), (1, 81, 48), (0, 7, 49), (4, 64, 50), (1, 3, 51), (1, 64, 52), (0, 4, 53), (1, 6, 54), (1, 6, 55), (1, 256, 56), (1, 256, 57), (1, 6, 58), (1, 4, 59), (0, 5, 60), (1, 64, 61), (0, 12, 62), (2, 2400, 63), (1, 4, 64), (1, 4, 65), (1, 4, 66), (1, 16, 67), (1, 344, 68), (1, 1288, 69), (1, 136, 70), (1, 264, 71), (1, 161, 72), (1, 4, 73), (1, 16, 74), (1, 16, 75), (1, 8, 76), (1, 3, 77), (4, 64, 78), (1, 3, 79), (1, 64, 80), (1, 64, 81), (1, 8, 82), (1, 6, 83), (1, 1792, 84), (1, 6, 85), (1, 1296, 86), (3, 3, 87)]
/-- the block of a Told, from its own address on -/
def qL_tb : List (Nat × Nat × Nat) := [(0, 9, 0), (2, 600, 1), (1, 4, 2), (5, 2, 3), (9, 2, 4), (7, 2, 5), (6, 2, 6), (0, 0, 7), (1, 16, 8), (1, 16, 9), (1, 81, 10), (0, 10, 11), (1, 160, 12), (0, 2, 13), (1, 6, 14), (1, 8, 15), (0, 1, 16), (1, 30, 17), (0, 0, 18), (1, 16, 19), (1, 16, 20), (1, 81, 21), (0, 10, 22), (1, 160, 23), (0, 2, 24), (1, 6, 25), (1, 8, 26), (0, 1, 27), (1, 30, 28)]
/-- the world: b where the law's own cells begin, ai k where the block of image k lies -/
def qL_g (D : va_G) (dA : Nat → ClassId) (aS : Nat → Nat) (b : Nat) (H0 : Heap) (ai : Nat → Option Nat) : qm_G := (D, dA, (fun a => if a < 1000 then b + a else match ai (a / 1000 - 1) with | some q => q + a % 1000 | none => 0), aS, (fun s n a => (s, n, a) ∈ qL_st ∨ ∃ k q off, k < 3 ∧ ai k = some q ∧ a = 1000 * (k + 1) + off ∧ (s, n, off) ∈ qL_tb), b, H0)
def qL_ai (b : Nat) (ai : Nat → Option Nat) : Prop := (∀ k q, ai k = some q → b + 88 ≤ q) ∧ ∀ k k' q q', k ≠ k' → ai k = some q → ai k' = some q' → q + 29 ≤ q' ∨ q' + 29 ≤ q
theorem qL_st_1 : ∀ x ∈ qL_st, x.1 ≤ 9 ∧ x.2.2 < 88 ∧ (x.1 = 0 → x.2.1 < 13) := by decide +kernel
theorem qL_tb_1 : ∀ x ∈ qL_tb, x.1 ≤ 9 ∧ x.2.2 < 29 ∧ (x.1 = 0 → x.2.1 < 13) := by decide +kernel
theorem qL_st_2 : ∀ x ∈ qL_st, x.1 = 0 → ∀ k, k < qm_nf x.2.1 → qm_ft x.2.1 k = 2 → qm_ref x.2.1 k x.2.2 ∈ qL_st := by decide +kernel
theorem qL_tb_2 : ∀ x ∈ qL_tb, x.1 = 0 → ∀ k, k < qm_nf x.2.1 → qm_ft x.2.1 k = 2 → qm_ref x.2.1 k x.2.2 ∈ qL_tb := by decide +kernel
theorem qL_st_3 : ∀ x ∈ qL_st, 5 ≤ x.1 → ¬ x.1 = 8 → ∀ j, j < x.2.1 → (0, (qm_el x.1 x.2.2 j).1, (qm_el x.1 x.2.2 j).2) ∈ qL_st := by decide +kernel
theorem qL_tb_3 : ∀ x ∈ qL_tb, 5 ≤ x.1 → ∀ j, j < x.2.1 → (0, (qm_el x.1 x.2.2 j).1, (qm_el x.1 x.2.2 j).2) ∈ qL_tb := by decide +kernel
theorem qL_tb_8 : ∀ x ∈ qL_tb, ¬ x.1 = 8 := by decide +kernel
theorem qL_tb_0 : ∀ x ∈ qL_tb, x.1 = 0 → x.2.1 = 0 ∨ x.2.1 = 1 ∨ x.2.1 = 2 ∨ x.2.1 = 9 ∨ x.2.1 = 10 := by decide +kernel
theorem qL_st_8 : ∀ x ∈ qL_st, x.1 = 8 → x.2.2 = 30 := by decide +kernel
theorem qL_st_4 : ∀ x ∈ qL_st, ∀ y ∈ qL_st, x.2.2 = y.2.2 → x = y := by decide +kernel
theorem qL_tb_4 : ∀ x ∈ qL_tb, ∀ y ∈ qL_tb, x.2.2 = y.2.2 → x = y := by decide +kernel
theorem qL_ref_sh (c k b a : Nat) (hc : c = 0 ∨ c = 1 ∨ c = 2 ∨ c = 9 ∨ c = 10) : qm_ref c k (b + a) = ((qm_ref c k a).1, (qm_ref c k a).2.1, b + (qm_ref c k a).2.2) := by
  rcases hc with rfl | rfl | rfl | rfl | rfl
  · show (match k with | 0 => (1, 16, b + a + 1) | 1 => (1, 16, b + a + 2) | _ => (1, 81, b + a + 3)) = _
    unfold qm_ref
    match k with
    | 0 => rfl
    | 1 => rfl
    | k + 2 => rfl
  · rfl
  · unfold qm_ref
    match k with
    | 0 => rfl
    | k + 1 => rfl
  · unfold qm_ref
    match k with
    | 0 => rfl
    | 1 => rfl
    | 2 => rfl
    | 3 => rfl
    | 4 => rfl
    | k + 5 => rfl
  · rfl
theorem qL_el_sh (s b a j : Nat) (hs : ¬ s = 8) : qm_el s (b + a) j = ((qm_el s a j).1, b + (qm_el s a j).2) := by
  unfold qm_el
  split
  · simp only; congr 1; omega
  · simp only; congr 1; omega
  · simp only; congr 1; omega
  · exact absurd rfl hs
  · simp only; congr 1; omega
section QLG
variable {D : va_G} {dA : Nat → ClassId} {aS : Nat → Nat} {b : Nat} {H0 : Heap} {ai : Nat → Option Nat}
theorem qL_ad_st {a : Nat} (h : a < 88) : qm_ad (qL_g D dA aS b H0 ai) a = b + a := by
  show (if a < 1000 then b + a else _) = _
  rw [if_pos (by omega)]
theorem qL_ad_bl {k q off : Nat} (hq : ai k = some q) (ho : off < 29) : qm_ad (qL_g D dA aS b H0 ai) (1000 * (k + 1) + off) = q + off := by
  show (if 1000 * (k + 1) + off < 1000 then _ else match ai ((1000 * (k + 1) + off) / 1000 - 1) with | some q => q + (1000 * (k + 1) + off) % 1000 | none => 0) = _
  rw [if_neg (by omega), show (1000 * (k + 1) + off) / 1000 - 1 = k by omega, hq]
  show q + (1000 * (k + 1) + off) % 1000 = _
  congr 1
  omega
theorem qL_GO (hai : qL_ai b ai) : qm_GO (qL_g D dA aS b H0 ai) := by
  refine ⟨?_, ?_, ?_, ?_, ?_⟩
  · intro s n a h
    rcases h with h | ⟨k, q, off, hk, hq, rfl, h⟩
    · obtain ⟨h1, h2, -⟩ := qL_st_1 _ h
      refine ⟨h1, ?_⟩
      rw [qL_ad_st h2]
      exact Nat.le_add_right b a
    · obtain ⟨h1, h2, -⟩ := qL_tb_1 _ h
      refine ⟨h1, ?_⟩
      rw [qL_ad_bl hq h2]
      have := hai.1 k q hq
      show b ≤ _
      omega
  · intro c a h
    rcases h with h | ⟨k, q, off, hk, hq, rfl, h⟩
    · exact (qL_st_1 _ h).2.2 rfl
    · exact (qL_tb_1 _ h).2.2 rfl
  · intro c k a h hk hf
    rcases h with h | ⟨k1, q, off, hk1, hq, rfl, h⟩
    · exact Or.inl (qL_st_2 _ h rfl k hk hf)
    · have e := qL_ref_sh c k (1000 * (k1 + 1)) off (qL_tb_0 _ h rfl)
      rw [e]
      exact Or.inr ⟨k1, q, _, hk1, hq, rfl, qL_tb_2 _ h rfl k hk hf⟩
  · intro s n a j h h5 h8 hj
    rcases h with h | ⟨k1, q, off, hk1, hq, rfl, h⟩
    · exact Or.inl (qL_st_3 _ h h5 h8 j hj)
    · have e := qL_el_sh s (1000 * (k1 + 1)) off j h8
      rw [e]
      exact Or.inr ⟨k1, q, _, hk1, hq, rfl, qL_tb_3 _ h h5 j hj⟩
  · intro s n a s' n' a' h h' e
    rcases h with h | ⟨k, q, off, hk, hq, rfl, h⟩ <;> rcases h' with h' | ⟨k', q', off', hk', hq', rfl, h'⟩
    · have l1 : a < 88 := (qL_st_1 _ h).2.1
      have l2 : a' < 88 := (qL_st_1 _ h').2.1
      rw [qL_ad_st l1, qL_ad_st l2] at e
      have e2 := qL_st_4 _ h _ h' (show a = a' by omega)
      cases e2
      exact ⟨rfl, rfl, rfl⟩
    · have l1 : a < 88 := (qL_st_1 _ h).2.1
      have l2 : off' < 29 := (qL_tb_1 _ h').2.1
      rw [qL_ad_st l1, qL_ad_bl hq' l2] at e
      have := hai.1 _ _ hq'
      omega
    · have l1 : off < 29 := (qL_tb_1 _ h).2.1
      have l2 : a' < 88 := (qL_st_1 _ h').2.1
      rw [qL_ad_bl hq l1, qL_ad_st l2] at e
      have := hai.1 _ _ hq
      omega
    · have l1 : off < 29 := (qL_tb_1 _ h).2.1
      have l2 : off' < 29 := (qL_tb_1 _ h').2.1
      rw [qL_ad_bl hq l1, qL_ad_bl hq' l2] at e
      by_cases ek : k = k'
      · subst ek
        rw [hq] at hq'
        cases hq'
        have e2 := qL_tb_4 _ h _ h' (show off = off' by omega)
        cases e2
        exact ⟨rfl, rfl, rfl⟩
      · rcases hai.2 k k' q q' ek hq hq' with g1 | g1 <;> omega

theorem qL_arr_eq {cA : ClassId} {n : Nat} {f f' : Nat → Option Nat} (h : ∀ j, j < n → f j = f' j) : vp_cell cA (n, .inr (.inr (.inr (.inr f)))) = vp_cell cA (n, .inr (.inr (.inr (.inr f')))) := by
  rw [vp_cell_q, vp_cell_q]
  unfold arrV
  congr 1
  apply Array.ext
  · simp
  · intro i h1 h2
    simp only [Array.getElem_ofFn]
    rw [h i (by simpa using h1)]
theorem qL_two {H : Heap} {a : Nat} {cA : ClassId} {f f' : Nat → Option Nat} (h : va_at D vwCl (a, .inl (cA, 2, .inr (.inr (.inr (.inr f))))) H) (h0 : f 0 = f' 0) (h1 : f 1 = f' 1) : va_at D vwCl (a, .inl (cA, 2, .inr (.inr (.inr (.inr f'))))) H := by
  show H[a]? = some (vp_cell cA (2, .inr (.inr (.inr (.inr f')))))
  rw [← qL_arr_eq (f := f) (fun j hj => by
    rcases (show j = 0 ∨ j = 1 by omega) with rfl | rfl
    · exact h0
    · exact h1)]
  exact h
theorem qL_nul {H : Heap} {a : Nat} {cA : ClassId} {f' : Nat → Option Nat} (h : va_at D vwCl (a, .inl (cA, 3, .inr (.inr (.inr (.inr fun _ => none))))) H) (hf : ∀ j, j < 3 → none = f' j := by intro j _; rfl) : va_at D vwCl (a, .inl (cA, 3, .inr (.inr (.inr (.inr f'))))) H := by
  show H[a]? = some (vp_cell cA (3, .inr (.inr (.inr (.inr f')))))
  rw [← qL_arr_eq (f := fun _ => none) hf]
  exact h
set_option maxRecDepth 100000 in
set_option maxHeartbeats 8000000 in
theorem qL_HRs {H : Heap} (hP : va_P D vwCl (zW11 (qL_g D dA aS b H0 ai) b ++ zW12 (qL_g D dA aS b H0 ai) (b + 62)) H) : ∀ x ∈ qL_st, va_at D vwCl (b + x.2.2, qm_cell (qL_g D dA aS b H0 ai) qL_h0 x.1 x.2.1 x.2.2) H :=
  List.forall_mem_cons.mpr ⟨(hP 0 _ rfl), List.forall_mem_cons.mpr ⟨(hP 1 _ rfl), List.forall_mem_cons.mpr ⟨(hP 2 _ rfl), List.forall_mem_cons.mpr ⟨(hP 3 _ rfl), List.forall_mem_cons.mpr ⟨(qL_two (hP 4 _ rfl) rfl rfl), List.forall_mem_cons.mpr ⟨(qL_two (hP 5 _ rfl) rfl rfl), List.forall_mem_cons.mpr ⟨(qL_two (hP 6 _ rfl) rfl rfl), List.forall_mem_cons.mpr ⟨(qL_two (hP 7 _ rfl) rfl rfl), List.forall_mem_cons.mpr ⟨(hP 8 _ rfl), List.forall_mem_cons.mpr ⟨(hP 9 _ rfl), List.forall_mem_cons.mpr ⟨(hP 10 _ rfl), List.forall_mem_cons.mpr ⟨(hP 11 _ rfl), List.forall_mem_cons.mpr ⟨(hP 12 _ rfl), List.forall_mem_cons.mpr ⟨(hP 13 _ rfl), List.forall_mem_cons.mpr ⟨(hP 14 _ rfl), List.forall_mem_cons.mpr ⟨(hP 15 _ rfl), List.forall_mem_cons.mpr ⟨(hP 16 _ rfl), List.forall_mem_cons.mpr ⟨(hP 17 _ rfl), List.forall_mem_cons.mpr ⟨(hP 18 _ rfl), List.forall_mem_cons.mpr ⟨(hP 19 _ rfl), List.forall_mem_cons.mpr ⟨(hP 20 _ rfl), List.forall_mem_cons.mpr ⟨(hP 21 _ rfl), List.forall_mem_cons.mpr ⟨(hP 22 _ rfl), List.forall_mem_cons.mpr ⟨(hP 23 _ rfl), List.forall_mem_cons.mpr ⟨(hP 24 _ rfl), List.forall_mem_cons.mpr ⟨(hP 25 _ rfl), List.forall_mem_cons.mpr ⟨(hP 26 _ rfl), List.forall_mem_cons.mpr ⟨(hP 27 _ rfl), List.forall_mem_cons.mpr ⟨(hP 28 _ rfl), List.forall_mem_cons.mpr ⟨(hP 29 _ rfl), List.forall_mem_cons.mpr ⟨(qL_nul (hP 30 _ rfl)), List.forall_mem_cons.mpr ⟨(hP 31 _ rfl), List.forall_mem_cons.mpr ⟨(hP 32 _ rfl), List.forall_mem_cons.mpr ⟨(hP 33 _ rfl), List.forall_mem_cons.mpr ⟨(hP 34 _ rfl), List.forall_mem_cons.mpr ⟨(hP 35 _ rfl), List.forall_mem_cons.mpr ⟨(hP 36 _ rfl), List.forall_mem_cons.mpr ⟨(hP 37 _ rfl), List.forall_mem_cons.mpr ⟨(hP 38 _ rfl), List.forall_mem_cons.mpr ⟨(hP 39 _ rfl), List.forall_mem_cons.mpr ⟨(hP 40 _ rfl), List.forall_mem_cons.mpr ⟨(hP 41 _ rfl), List.forall_mem_cons.mpr ⟨(hP 42 _ rfl), List.forall_mem_cons.mpr ⟨(hP 43 _ rfl), List.forall_mem_cons.mpr ⟨(hP 44 _ rfl), List.forall_mem_cons.mpr ⟨(hP 45 _ rfl), List.forall_mem_cons.mpr ⟨(hP 46 _ rfl), List.forall_mem_cons.mpr ⟨(hP 47 _ rfl), List.forall_mem_cons.mpr ⟨(hP 48 _ rfl), List.forall_mem_cons.mpr ⟨(hP 49 _ rfl), List.forall_mem_cons.mpr ⟨(hP 50 _ rfl), List.forall_mem_cons.mpr ⟨(hP 51 _ rfl), List.forall_mem_cons.mpr ⟨(hP 52 _ rfl), List.forall_mem_cons.mpr ⟨(hP 53 _ rfl), List.forall_mem_cons.mpr ⟨(hP 54 _ rfl), List.forall_mem_cons.mpr ⟨(hP 55 _ rfl), List.forall_mem_cons.mpr ⟨(hP 56 _ rfl), List.forall_mem_cons.mpr ⟨(hP 57 _ rfl), List.forall_mem_cons.mpr ⟨(hP 58 _ rfl), List.forall_mem_cons.mpr ⟨(hP 59 _ rfl), List.forall_mem_cons.mpr ⟨(hP 60 _ rfl), List.forall_mem_cons.mpr ⟨(hP 61 _ rfl), List.forall_mem_cons.mpr ⟨(hP 62 _ rfl), List.forall_mem_cons.mpr ⟨(hP 63 _ rfl), List.forall_mem_cons.mpr ⟨(hP 64 _ rfl), List.forall_mem_cons.mpr ⟨(hP 65 _ rfl), List.forall_mem_cons.mpr ⟨(hP 66 _ rfl), List.forall_mem_cons.mpr ⟨(hP 67 _ rfl), List.forall_mem_cons.mpr ⟨(hP 68 _ rfl), List.forall_mem_cons.mpr ⟨(hP 69 _ rfl), List.forall_mem_cons.mpr ⟨(hP 70 _ rfl), List.forall_mem_cons.mpr ⟨(hP 71 _ rfl), List.forall_mem_cons.mpr ⟨(hP 72 _ rfl), List.forall_mem_cons.mpr ⟨(hP 73 _ rfl), List.forall_mem_cons.mpr ⟨(hP 74 _ rfl), List.forall_mem_cons.mpr ⟨(hP 75 _ rfl), List.forall_mem_cons.mpr ⟨(hP 76 _ rfl), List.forall_mem_cons.mpr ⟨(hP 77 _ rfl), List.forall_mem_cons.mpr ⟨(hP 78 _ rfl), List.forall_mem_cons.mpr ⟨(hP 79 _ rfl), List.forall_mem_cons.mpr ⟨(hP 80 _ rfl), List.forall_mem_cons.mpr ⟨(hP 81 _ rfl), List.forall_mem_cons.mpr ⟨(hP 82 _ rfl), List.forall_mem_cons.mpr ⟨(hP 83 _ rfl), List.forall_mem_cons.mpr ⟨(hP 84 _ rfl), List.forall_mem_cons.mpr ⟨(hP 85 _ rfl), List.forall_mem_cons.mpr ⟨(hP 86 _ rfl), List.forall_mem_cons.mpr ⟨(hP 87 _ rfl), fun _ h => absurd h List.not_mem_nil⟩⟩⟩⟩⟩⟩⟩⟩⟩⟩⟩⟩⟩⟩⟩⟩⟩⟩⟩⟩⟩⟩⟩⟩⟩⟩⟩⟩⟩⟩⟩⟩⟩⟩⟩⟩⟩⟩⟩⟩⟩⟩⟩⟩⟩⟩⟩⟩⟩⟩⟩⟩⟩⟩⟩⟩⟩⟩⟩⟩⟩⟩⟩⟩⟩⟩⟩⟩⟩⟩⟩⟩⟩⟩⟩⟩⟩⟩⟩⟩⟩⟩⟩⟩⟩⟩⟩⟩
theorem qL_HR0 {H : Heap} (hz : H.size = b + 88) (hk : ∀ q : Nat, q < b → H[q]? = H0[q]?) (hP : va_P D vwCl (zW11 (qL_g D dA aS b H0 fun _ => none) b ++ zW12 (qL_g D dA aS b H0 fun _ => none) (b + 62)) H) : qm_HR (qL_g D dA aS b H0 fun _ => none) qL_h0 H := by
  refine ⟨by rw [hz]; exact Nat.le_add_right b 88, hk, fun s n a h => ?_, fun n a j h hj hf => ?_⟩
  · rcases h with h | ⟨k, q, off, hk, hq, rfl, h⟩
    · have h1 := qL_HRs hP _ h
      rw [qL_ad_st (qL_st_1 _ h).2.1]
      exact h1
    · cases hq
  · rcases h with h | ⟨k, q, off, hk, hq, rfl, h⟩
    · have e : a = 30 := qL_st_8 _ h rfl
      subst e
      exact absurd rfl hf
    · cases hq
end QLG
