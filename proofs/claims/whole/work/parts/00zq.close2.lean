/-! closes: the class's answer is the reference's. -/
section CP
variable {β : qB} {w hh : Nat}
theorem fs_is {p : Nat → Bool} {d i k : Nat} (h1 : i ≤ k) (h2 : k < i + d) (hp : p k = true) (H : ∀ j, i ≤ j → j < k → p j = false) : fs p d i = some k := by
  have e : d = (k - i) + ((d - (k - i) - 1) + 1) := by omega
  rw [e, fs_skip (fun j a b => H j a (by omega)), show i + (k - i) = k by omega]
  show (if p k then some k else fs p _ (k + 1)) = some k
  rw [hp, if_pos rfl]
theorem allH_mono {T T' : Nat → Bool} (H : ∀ x, x < bw β * bh β → T x = true → T' x = true) (e : allH β w hh T = true) : allH β w hh T' = true := by
  refine decide_eq_true (fun u hu hg => ?_)
  obtain ⟨x, x1, x2, x3⟩ := of_decide_eq_true (of_decide_eq_true e u hu hg)
  exact decide_eq_true ⟨x, x1, x2, H x x1 x3⟩
theorem allH_no {T : Nat → Bool} (e : ¬ allH β w hh T = true) : ∃ u, u < bw β * bh β ∧ unB β w hh T u = true := by
  apply Classical.byContradiction
  intro y
  refine e (decide_eq_true (fun u hu hg => Classical.byContradiction (fun t => y ⟨u, hu, ?_⟩)))
  unfold unB
  rw [hg, Bool.true_and]
  refine decide_eq_true (fun x hx => ?_)
  cases q1 : inR (bw β) w hh u x
  · rfl
  · cases q2 : T x
    · rfl
    · exact absurd (decide_eq_true ⟨x, hx, q1, q2⟩) t
theorem un_hit {T : Nat → Bool} {u : Nat} (e : unB β w hh T u = true) : ¬ hitB β w hh T u = true := by
  intro t
  obtain ⟨x, x1, x2, x3⟩ := of_decide_eq_true t
  unfold unB at e
  rw [Bool.and_eq_true] at e
  have := of_decide_eq_true e.2 x x1
  rw [x2, x3] at this
  cases this
theorem inA_allH {T T' : Nat → Bool} {c : Nat} (hc : c < bw β * bh β) (H : ∀ x, x < bw β * bh β → T' x = (T x || decide (x = c))) : (inA β w hh T (bw β * bh β) c = true) ↔ allH β w hh T' = true := by
  constructor
  · intro e
    refine decide_eq_true (fun u hu hg => ?_)
    by_cases t : hitB β w hh T u = true
    · obtain ⟨x, x1, x2, x3⟩ := of_decide_eq_true t
      exact decide_eq_true ⟨x, x1, x2, by rw [H x x1, x3]; rfl⟩
    · have un : unB β w hh T u = true := by
        unfold unB
        rw [hg, Bool.true_and]
        refine decide_eq_true (fun x hx => ?_)
        cases q1 : inR (bw β) w hh u x
        · rfl
        · cases q2 : T x
          · rfl
          · exact absurd (decide_eq_true ⟨x, hx, q1, q2⟩) t
      exact decide_eq_true ⟨c, hc, of_decide_eq_true e u hu un, by rw [H c hc, decide_eq_true rfl, Bool.or_true]⟩
  · intro e
    refine decide_eq_true (fun u hu un => ?_)
    obtain ⟨x, x1, x2, x3⟩ := of_decide_eq_true (of_decide_eq_true e u hu (un_g un))
    rw [H x x1, Bool.or_eq_true] at x3
    rcases x3 with x3 | x3
    · exact absurd (decide_eq_true ⟨x, x1, x2, x3⟩) (un_hit un)
    · rw [← of_decide_eq_true x3]
      exact x2
theorem gap_op {u x : Nat} (hg : gB β w hh u = true) (hx : inR (bw β) w hh u x = true) : opC β x = true := by
  unfold gB gapP at hg
  rw [Bool.and_eq_true] at hg
  have z := rs_zero.mp (of_decide_eq_true hg.2)
  obtain ⟨x1, x2, x3, x4⟩ := of_decide_eq_true hx
  have := z (x / bw β - u / bw β) (x % bw β - u % bw β) (by omega) (by omega)
  rw [show u / bw β + (x / bw β - u / bw β) = x / bw β by omega, show u % bw β + (x % bw β - u % bw β) = x % bw β by omega] at this
  unfold shO at this
  unfold opC
  cases q : bO β (x / bw β) (x % bw β)
  · rw [q] at this
    cases this
  · rfl
theorem op_of {T T' : Nat → Bool} {a : Nat} (e : allH β w hh T = true) (e' : ¬ allH β w hh T' = true) (H : ∀ x, x < bw β * bh β → T x = true → T' x = true ∨ x = a) : opC β a = true := by
  obtain ⟨u, hu, un⟩ := allH_no e'
  obtain ⟨x, x1, x2, x3⟩ := of_decide_eq_true (of_decide_eq_true e u hu (un_g un))
  rcases H x x1 x3 with y | y
  · exact absurd (decide_eq_true ⟨x, x1, x2, y⟩) (un_hit un)
  · rw [← y]
    exact gap_op (un_g un) x2
theorem sgm_mono {W x y : Nat} (hW : 0 < W) (hW8 : W ≤ 8) (h : x < y) : sgm W x < sgm W y := by
  unfold sgm
  have h1 := Nat.div_le_div_right (c := W) (Nat.le_of_lt h)
  have h2 := Nat.mod_lt x hW
  have h3 := Nat.mod_lt y hW
  have h4 := Nat.div_add_mod x W
  have h5 := Nat.div_add_mod y W
  by_cases q : x / W = y / W
  · rw [q] at h4 ⊢
    omega
  · omega
theorem T3_t {a b c x : Nat} : T3 a b c x = true ↔ x = a ∨ x = b ∨ x = c := by
  unfold T3
  rw [Bool.or_eq_true, Bool.or_eq_true, decide_eq_true_iff, decide_eq_true_iff, decide_eq_true_iff, or_assoc]
/-- strokes that hit all gaps, where no fewer do, are open -/
theorem ok3_3 (n2 : ∀ a b, a < bw β * bh β → b < bw β * bh β → ¬ allH β w hh (T3 a b b) = true) {a b c : Nat} (ha : a < bw β * bh β) (hb : b < bw β * bh β) (hc : c < bw β * bh β) : ok3 β w hh a b c = allH β w hh (T3 a b c) := by
  unfold ok3
  cases q : allH β w hh (T3 a b c)
  · rw [Bool.and_false]
  · rw [op_of q (n2 b c hb hc) (a := a) (fun x _ t => by rw [T3_t] at t ⊢; omega), op_of q (n2 a c ha hc) (a := b) (fun x _ t => by rw [T3_t] at t ⊢; omega), op_of q (n2 a b ha hb) (a := c) (fun x _ t => by rw [T3_t] at t ⊢; omega), Bool.or_true, Bool.or_true]
    rfl
theorem ok3_2 (n1 : ∀ a, a < bw β * bh β → ¬ allH β w hh (T3 a a a) = true) {a b : Nat} (ha : a < bw β * bh β) (hb : b < bw β * bh β) : ok3 β w hh a b (bw β * bh β) = allH β w hh (T3 a b b) := by
  have e : allH β w hh (T3 a b (bw β * bh β)) = allH β w hh (T3 a b b) := Bool.eq_iff_iff.mpr ⟨allH_mono (fun x hx t => by rw [T3_t] at t ⊢; omega), allH_mono (fun x hx t => by rw [T3_t] at t ⊢; omega)⟩
  unfold ok3
  rw [e]
  cases q : allH β w hh (T3 a b b)
  · rw [Bool.and_false]
  · rw [op_of q (n1 b hb) (a := a) (fun x _ t => by rw [T3_t] at t ⊢; omega), op_of q (n1 a ha) (a := b) (fun x _ t => by rw [T3_t] at t ⊢; omega), decide_eq_true rfl, Bool.or_true, Bool.true_or]
    rfl
theorem ok3_1 (n0 : ¬ allH β w hh (fun _ => false) = true) {a : Nat} (ha : a < bw β * bh β) : ok3 β w hh a (bw β * bh β) (bw β * bh β) = allH β w hh (T3 a a a) := by
  have e : allH β w hh (T3 a (bw β * bh β) (bw β * bh β)) = allH β w hh (T3 a a a) := Bool.eq_iff_iff.mpr ⟨allH_mono (fun x hx t => by rw [T3_t] at t ⊢; omega), allH_mono (fun x hx t => by rw [T3_t] at t ⊢; omega)⟩
  unfold ok3
  rw [e]
  cases q : allH β w hh (T3 a a a)
  · rw [Bool.and_false]
  · rw [op_of q n0 (a := a) (fun x _ t => by rw [T3_t] at t; omega), decide_eq_true rfl, Bool.true_or]
    rfl
/-- one stroke -/
theorem lia0 (k : bOK β) (n0 : ¬ allH β w hh (fun _ => false) = true) : aFi β w hh 1 = lia β w hh (fun _ => false) := by
  unfold aFi lia
  refine fs_cong (fun a _ ha => ?_)
  have ha' : a < bw β * bh β := by omega
  have e1 : cF β w hh 1 a (bw β * bh β) = if ok3 β w hh a (bw β * bh β) (bw β * bh β) then some (bw β * bh β) else none := by
    unfold cF cend cst
    rw [if_pos (by omega), if_neg (by omega), Nat.add_sub_cancel_left]
    rfl
  have e2 : bF β w hh 1 a = if (cF β w hh 1 a (bw β * bh β)).isSome then some (bw β * bh β) else none := by
    unfold bF bend bsta
    rw [if_pos rfl, if_neg (by omega), Nat.add_sub_cancel_left]
    rfl
  have e3 : inA β w hh (fun _ => false) (bw β * bh β) a = allH β w hh (T3 a a a) := Bool.eq_iff_iff.mpr (inA_allH ha' (fun x _ => by
    unfold T3
    cases decide (x = a) <;> rfl))
  show (bF β w hh 1 a).isSome = _
  rw [e3, e2, e1, ok3_1 n0 ha']
  cases allH β w hh (T3 a a a) <;> rfl
theorem lia0_N (n0 : ¬ allH β w hh (fun _ => false) = true) (e : lia β w hh (fun _ => false) = none) {a : Nat} (ha : a < bw β * bh β) : ¬ allH β w hh (T3 a a a) = true := by
  intro t
  have := fs_is_none e a (Nat.zero_le _) (by omega)
  rw [(inA_allH (T := fun _ => false) (T' := T3 a a a) ha (fun x _ => by
    unfold T3
    cases decide (x = a) <;> rfl)).mpr t] at this
  cases this
theorem lia0_S (n0 : ¬ allH β w hh (fun _ => false) = true) {a : Nat} (e : lia β w hh (fun _ => false) = some a) : a < bw β * bh β ∧ bF β w hh 1 a = some (bw β * bh β) ∧ cF β w hh 1 a (bw β * bh β) = some (bw β * bh β) := by
  obtain ⟨_, e2, e3⟩ := fs_some e
  have ha : a < bw β * bh β := by omega
  have o := (inA_allH (T := fun _ => false) (T' := T3 a a a) ha (fun x _ => by
    unfold T3
    cases decide (x = a) <;> rfl)).mp e3
  have e1 : cF β w hh 1 a (bw β * bh β) = some (bw β * bh β) := by
    unfold cF cend cst
    rw [if_pos (by omega), if_neg (by omega), Nat.add_sub_cancel_left]
    show (if ok3 β w hh a (bw β * bh β) (bw β * bh β) then some (bw β * bh β) else none) = _
    rw [ok3_1 n0 ha, o, if_pos rfl]
  refine ⟨ha, ?_, e1⟩
  unfold bF bend bsta
  rw [if_pos rfl, if_neg (by omega), Nat.add_sub_cancel_left]
  show (if (cF β w hh 1 a (bw β * bh β)).isSome then some (bw β * bh β) else none) = _
  rw [e1]
  rfl
/-- a bit is a cell's, or no cell's -/
theorem bit_cell (β : qB) (a : Nat) : (∃ x, x < bw β * bh β ∧ sgm (bw β) x = a) ∨ ∀ x, x < bw β * bh β → ¬ sgm (bw β) x = a := by
  by_cases q : ∃ x, x < bw β * bh β ∧ sgm (bw β) x = a
  · exact Or.inl q
  · exact Or.inr (fun x hx e => q ⟨x, hx, e⟩)
theorem S1_c (k : bOK β) {a x : Nat} : S1 (bw β) (sgm (bw β) a) x = decide (x = a) := by
  have hW := k.W
  unfold S1
  exact decide_eq_decide.mpr ⟨fun e => sgm_inj (by omega) hW.2 e, fun e => by rw [e]⟩
theorem S2_c (k : bOK β) {a b x : Nat} : S2 (bw β) (sgm (bw β) a) (sgm (bw β) b) x = (decide (x = a) || decide (x = b)) := by
  have h1 := S1_c k (a := a) (x := x)
  have h2 := S1_c k (a := b) (x := x)
  unfold S1 at h1 h2
  unfold S2
  rw [h1, h2]
theorem ia2 (k : bOK β) {a b : Nat} (hb : b < bw β * bh β) : (inA β w hh (S1 (bw β) (sgm (bw β) a)) (bw β * bh β) b = true) ↔ allH β w hh (T3 a b b) = true := inA_allH hb (fun x _ => by
  rw [S1_c k]
  unfold T3
  cases decide (x = a) <;> cases decide (x = b) <;> rfl)
theorem ia3 (k : bOK β) {a b c : Nat} (hc : c < bw β * bh β) : (inA β w hh (S2 (bw β) (sgm (bw β) a) (sgm (bw β) b)) (bw β * bh β) c = true) ↔ allH β w hh (T3 a b c) = true := inA_allH hc (fun x _ => by
  rw [S2_c k]
  rfl)
theorem T3_s {a b c a' b' c' : Nat} (H : ∀ x, (x = a ∨ x = b ∨ x = c) → (x = a' ∨ x = b' ∨ x = c')) (e : allH β w hh (T3 a b c) = true) : allH β w hh (T3 a' b' c') = true := allH_mono (fun x _ t => T3_t.mpr (H x (T3_t.mp t))) e
end CP
