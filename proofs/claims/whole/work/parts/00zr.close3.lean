/-! closes: two and three strokes; the pair. -/
section CQ
variable {β : qB} {w hh : Nat}
theorem ex_S1 (k : bOK β) (n0 : ¬ allH β w hh (fun _ => false) = true) (n1 : ∀ a, a < bw β * bh β → ¬ allH β w hh (T3 a a a) = true) (a : Nat) : ∃ u, u < bw β * bh β ∧ unB β w hh (S1 (bw β) a) u = true := by
  apply allH_no
  intro t
  rcases bit_cell β a with ⟨x, hx, rfl⟩ | H
  · exact n1 x hx (allH_mono (fun y _ e => by
      rw [S1_c k] at e
      have := of_decide_eq_true e
      rw [T3_t]
      exact Or.inl this) t)
  · exact n0 (allH_mono (fun y hy e => absurd (of_decide_eq_true e) (H y hy)) t)
theorem lia_S1_no (n1 : ∀ a, a < bw β * bh β → ¬ allH β w hh (T3 a a a) = true) {a : Nat} (H : ∀ x, x < bw β * bh β → ¬ sgm (bw β) x = a) : lia β w hh (S1 (bw β) a) = none := by
  refine fs_none (fun x _ hx => Bool.not_eq_true _ ▸ fun t => ?_)
  have hx' : x < bw β * bh β := by omega
  refine n1 x hx' ((inA_allH hx' (fun y hy => ?_)).mp t)
  unfold S1
  rw [decide_eq_false (H y hy)]
  unfold T3
  cases decide (y = x) <;> rfl
theorem lia_none2 (k : bOK β) {a : Nat} (e : lia β w hh (S1 (bw β) (sgm (bw β) a)) = none) {b : Nat} (hb : b < bw β * bh β) : ¬ allH β w hh (T3 a b b) = true := by
  intro t
  have := fs_is_none e b (Nat.zero_le _) (by omega)
  rw [(ia2 k hb).mpr t] at this
  cases this
theorem lia_none3 (k : bOK β) {a b : Nat} (e : lia β w hh (S2 (bw β) (sgm (bw β) a) (sgm (bw β) b)) = none) {c : Nat} (hc : c < bw β * bh β) : ¬ allH β w hh (T3 a b c) = true := by
  intro t
  have := fs_is_none e c (Nat.zero_le _) (by omega)
  rw [(ia3 k hc).mpr t] at this
  cases this
theorem cF2 {a b : Nat} : cF β w hh 2 a b = if ok3 β w hh a b (bw β * bh β) then some (bw β * bh β) else none := by
  unfold cF cend cst
  rw [if_pos (by omega), if_neg (by omega), Nat.add_sub_cancel_left]
  rfl
theorem cF2s {a b : Nat} : (cF β w hh 2 a b).isSome = ok3 β w hh a b (bw β * bh β) := by
  rw [cF2]
  cases ok3 β w hh a b (bw β * bh β) <;> rfl
theorem bF2_none (n1 : ∀ a, a < bw β * bh β → ¬ allH β w hh (T3 a a a) = true) {a : Nat} (ha : a < bw β * bh β) (H : ∀ b, a < b → b < bw β * bh β → ¬ allH β w hh (T3 a b b) = true) : bF β w hh 2 a = none := by
  unfold bF bend bsta
  rw [if_neg (by omega), if_pos (by omega)]
  refine fs_none (fun b h1 h2 => ?_)
  show (cF β w hh 2 a b).isSome = false
  rw [cF2s, ok3_2 n1 ha (by omega)]
  exact Bool.not_eq_true _ ▸ H b (by omega) (by omega)
theorem bF2_some (n1 : ∀ a, a < bw β * bh β → ¬ allH β w hh (T3 a a a) = true) {a b : Nat} (hab : a < b) (hb : b < bw β * bh β) (t : allH β w hh (T3 a b b) = true) (H : ∀ b', a < b' → b' < b → ¬ allH β w hh (T3 a b' b') = true) : bF β w hh 2 a = some b := by
  unfold bF bend bsta
  rw [if_neg (by omega), if_pos (by omega)]
  refine fs_is (by omega) (by omega) ?_ (fun j h1 h2 => ?_)
  · show (cF β w hh 2 a b).isSome = true
    rw [cF2s, ok3_2 n1 (by omega) hb]
    exact t
  · show (cF β w hh 2 a j).isSome = false
    rw [cF2s, ok3_2 n1 (by omega) (by omega)]
    exact Bool.not_eq_true _ ▸ H j (by omega) h2
/-- two strokes, from the class's answer -/
theorem two_none (k : bOK β) (n1 : ∀ a, a < bw β * bh β → ¬ allH β w hh (T3 a a a) = true) (H : ∀ a', 0 ≤ a' → a' < 64 → lia β w hh (S1 (bw β) a') = none) : (∀ a b, a < bw β * bh β → b < bw β * bh β → ¬ allH β w hh (T3 a b b) = true) ∧ aFi β w hh 2 = none := by
  have n2 : ∀ a b, a < bw β * bh β → b < bw β * bh β → ¬ allH β w hh (T3 a b b) = true := fun a b ha hb => lia_none2 k (H _ (Nat.zero_le _) (sgm_lt k ha)) hb
  refine ⟨n2, fs_none (fun a _ ha => ?_)⟩
  show (bF β w hh 2 a).isSome = false
  rw [bF2_none n1 (by omega) (fun b _ hb => n2 a b (by omega) hb)]
  rfl
theorem two_some (k : bOK β) (n1 : ∀ a, a < bw β * bh β → ¬ allH β w hh (T3 a a a) = true) {a1 : Nat} (H : ∀ a', 0 ≤ a' → a' < a1 → lia β w hh (S1 (bw β) a') = none) (e : lia β w hh (S1 (bw β) a1) ≠ none) : ∃ a b, a < bw β * bh β ∧ b < bw β * bh β ∧ a1 = sgm (bw β) a ∧ lia β w hh (S1 (bw β) a1) = some b ∧ aFi β w hh 2 = some a ∧ bF β w hh 2 a = some b := by
  have hW := k.W
  rcases bit_cell β a1 with ⟨a, ha, rfl⟩ | y
  · obtain ⟨b, eb⟩ := Option.ne_none_iff_exists'.mp e
    obtain ⟨_, hb, tb⟩ := fs_some eb
    have hb' : b < bw β * bh β := by omega
    have t := (ia2 k hb').mp tb
    have fb : ∀ b', b' < b → ¬ allH β w hh (T3 a b' b') = true := fun b' h1 t' => by
      have := fs_first eb b' (Nat.zero_le _) h1
      rw [(ia2 k (by omega)).mpr t'] at this
      cases this
    have fa : ∀ a' b', a' < a → b' < bw β * bh β → ¬ allH β w hh (T3 a' b' b') = true := fun a' b' h1 h2 => lia_none2 k (H _ (Nat.zero_le _) (sgm_mono (by omega) hW.2 h1)) h2
    have hab : a < b := by
      rcases Nat.lt_trichotomy a b with z | z | z
      · exact z
      · subst z
        exact absurd t (n1 a ha)
      · exact absurd (T3_s (fun x hx => by omega) t) (fa b a z ha)
    have e2 := bF2_some n1 hab hb' t (fun b' _ h2 => fb b' h2)
    refine ⟨a, b, ha, hb', rfl, eb, fs_is (Nat.zero_le _) (by omega) (by rw [e2]; rfl) (fun j _ h2 => ?_), e2⟩
    show (bF β w hh 2 j).isSome = false
    rw [bF2_none n1 (by omega) (fun b' _ h3 => fa j b' h2 h3)]
    rfl
  · exact absurd (lia_S1_no n1 y) e
/-- three -/
theorem ex_S2 (k : bOK β) (n2 : ∀ a b, a < bw β * bh β → b < bw β * bh β → ¬ allH β w hh (T3 a b b) = true) (a b : Nat) : ∃ u, u < bw β * bh β ∧ unB β w hh (S2 (bw β) a b) u = true := by
  have hN := k.n
  have P : ∀ a, ∃ x, x < bw β * bh β ∧ ∀ y, y < bw β * bh β → sgm (bw β) y = a → y = x := fun a => by
    rcases bit_cell β a with ⟨x, hx, rfl⟩ | H
    · exact ⟨x, hx, fun y _ e => sgm_inj (by have := k.W; omega) k.W.2 e⟩
    · exact ⟨0, by omega, fun y hy e => absurd e (H y hy)⟩
  obtain ⟨x, hx, px⟩ := P a
  obtain ⟨y, hy, py⟩ := P b
  apply allH_no
  intro t
  refine n2 x y hx hy (allH_mono (fun z hz e => ?_) t)
  unfold S2 at e
  rw [Bool.or_eq_true, decide_eq_true_iff, decide_eq_true_iff] at e
  rw [T3_t]
  rcases e with e | e
  · exact Or.inl (px z hz e)
  · exact Or.inr (Or.inl (py z hz e))
theorem lia_S2_no (k : bOK β) (n2 : ∀ a b, a < bw β * bh β → b < bw β * bh β → ¬ allH β w hh (T3 a b b) = true) {a b : Nat} (H : (∀ x, x < bw β * bh β → ¬ sgm (bw β) x = a) ∨ (∀ x, x < bw β * bh β → ¬ sgm (bw β) x = b)) : lia β w hh (S2 (bw β) a b) = none := by
  have hN := k.n
  have P : ∃ x, x < bw β * bh β ∧ ∀ y, y < bw β * bh β → S2 (bw β) a b y = true → y = x := by
    have Q : ∀ a, ∃ x, x < bw β * bh β ∧ ∀ y, y < bw β * bh β → sgm (bw β) y = a → y = x := fun a => by
      rcases bit_cell β a with ⟨x, hx, rfl⟩ | H
      · exact ⟨x, hx, fun y _ e => sgm_inj (by have := k.W; omega) k.W.2 e⟩
      · exact ⟨0, by omega, fun y hy e => absurd e (H y hy)⟩
    rcases H with H | H
    · obtain ⟨x, hx, px⟩ := Q b
      refine ⟨x, hx, fun y hy e => ?_⟩
      unfold S2 at e
      rw [Bool.or_eq_true, decide_eq_true_iff, decide_eq_true_iff] at e
      exact px y hy (e.resolve_left (H y hy))
    · obtain ⟨x, hx, px⟩ := Q a
      refine ⟨x, hx, fun y hy e => ?_⟩
      unfold S2 at e
      rw [Bool.or_eq_true, decide_eq_true_iff, decide_eq_true_iff] at e
      exact px y hy (e.resolve_right (H y hy))
  obtain ⟨x, hx, px⟩ := P
  refine fs_none (fun z _ hz => Bool.not_eq_true _ ▸ fun t => ?_)
  have hz' : z < bw β * bh β := by omega
  have t2 := (inA_allH (T' := fun y => S2 (bw β) a b y || decide (y = z)) hz' (fun _ _ => rfl)).mp t
  refine n2 x z hx hz' (allH_mono (fun y hy e => ?_) t2)
  rw [Bool.or_eq_true, decide_eq_true_iff] at e
  rw [T3_t]
  rcases e with e | e
  · exact Or.inl (px y hy e)
  · exact Or.inr (Or.inl e)
theorem cF3_none (n2 : ∀ a b, a < bw β * bh β → b < bw β * bh β → ¬ allH β w hh (T3 a b b) = true) {a b : Nat} (ha : a < bw β * bh β) (hb : b < bw β * bh β) (H : ∀ c, b < c → c < bw β * bh β → ¬ allH β w hh (T3 a b c) = true) : cF β w hh 3 a b = none := by
  unfold cF cend cst
  rw [if_neg (by omega), if_pos (by omega)]
  refine fs_none (fun c h1 h2 => ?_)
  rw [ok3_3 n2 ha hb (by omega)]
  exact Bool.not_eq_true _ ▸ H c (by omega) (by omega)
theorem bF3_none (n2 : ∀ a b, a < bw β * bh β → b < bw β * bh β → ¬ allH β w hh (T3 a b b) = true) {a : Nat} (ha : a < bw β * bh β) (H : ∀ b c, a < b → b < c → c < bw β * bh β → ¬ allH β w hh (T3 a b c) = true) : bF β w hh 3 a = none := by
  unfold bF bend bsta
  rw [if_neg (by omega), if_pos (by omega)]
  refine fs_none (fun b h1 h2 => ?_)
  show (cF β w hh 3 a b).isSome = false
  rw [cF3_none n2 ha (by omega) (fun c h3 h4 => H b c (by omega) h3 h4)]
  rfl
theorem three_none (k : bOK β) (n2 : ∀ a b, a < bw β * bh β → b < bw β * bh β → ¬ allH β w hh (T3 a b b) = true) (H : ∀ a' b', 0 ≤ a' → a' < b' → b' < 64 → lia β w hh (S2 (bw β) a' b') = none) : aFi β w hh 3 = none := by
  have hW := k.W
  refine fs_none (fun a _ ha => ?_)
  show (bF β w hh 3 a).isSome = false
  rw [bF3_none n2 (by omega) (fun b c h1 h2 h3 => lia_none3 k (H _ _ (Nat.zero_le _) (sgm_mono (by omega) hW.2 h1) (sgm_lt k (by omega))) h3)]
  rfl
theorem three_some (k : bOK β) (n2 : ∀ a b, a < bw β * bh β → b < bw β * bh β → ¬ allH β w hh (T3 a b b) = true) {a1 b1 : Nat} (h1 : a1 < b1) (h2 : b1 < 64) (H1 : ∀ a' b', 0 ≤ a' → a' < a1 → a' < b' → b' < 64 → lia β w hh (S2 (bw β) a' b') = none) (H2 : ∀ b', a1 < b' → b' < b1 → lia β w hh (S2 (bw β) a1 b') = none) (e : lia β w hh (S2 (bw β) a1 b1) ≠ none) : ∃ a b c, a < bw β * bh β ∧ b < bw β * bh β ∧ c < bw β * bh β ∧ a1 = sgm (bw β) a ∧ b1 = sgm (bw β) b ∧ lia β w hh (S2 (bw β) a1 b1) = some c ∧ aFi β w hh 3 = some a ∧ bF β w hh 3 a = some b ∧ cF β w hh 3 a b = some c := by
  have hW := k.W
  rcases bit_cell β a1 with ⟨a, ha, rfl⟩ | y
  · rcases bit_cell β b1 with ⟨b, hb, rfl⟩ | y
    · obtain ⟨c, ec⟩ := Option.ne_none_iff_exists'.mp e
      obtain ⟨_, hc, tc⟩ := fs_some ec
      have hc' : c < bw β * bh β := by omega
      have t := (ia3 k hc').mp tc
      have hab : a < b := by
        rcases Nat.lt_trichotomy a b with z | z | z
        · exact z
        · subst z
          omega
        · have := sgm_mono (W := bw β) (by omega) hW.2 z
          omega
      have fc : ∀ c', c' < c → ¬ allH β w hh (T3 a b c') = true := fun c' h1 t' => by
        have := fs_first ec c' (Nat.zero_le _) h1
        rw [(ia3 k (by omega)).mpr t'] at this
        cases this
      have fb : ∀ b' c', a < b' → b' < b → c' < bw β * bh β → ¬ allH β w hh (T3 a b' c') = true := fun b' c' h1 h2 h3 => lia_none3 k (H2 _ (sgm_mono (by omega) hW.2 h1) (sgm_mono (by omega) hW.2 h2)) h3
      have fa : ∀ a' b' c', a' < a → a' < b' → b' < bw β * bh β → c' < bw β * bh β → ¬ allH β w hh (T3 a' b' c') = true := fun a' b' c' h1 h2 h3 h4 => lia_none3 k (H1 _ _ (Nat.zero_le _) (sgm_mono (by omega) hW.2 h1) (sgm_mono (by omega) hW.2 h2) (sgm_lt k h3)) h4
      have hbc : b < c := by
        rcases Nat.lt_trichotomy b c with z | z | z
        · exact z
        · subst z
          exact absurd t (n2 a b ha hb)
        · rcases Nat.lt_trichotomy a c with y | y | y
          · exact absurd (T3_s (fun x hx => by omega) t) (fb c b y z hb)
          · subst y
            exact absurd (T3_s (fun x hx => by omega) t) (n2 a b ha hb)
          · exact absurd (T3_s (fun x hx => by omega) t) (fa c a b y y ha hb)
      have e3 : cF β w hh 3 a b = some c := by
        unfold cF cend cst
        rw [if_neg (by omega), if_pos (by omega)]
        refine fs_is (by omega) (by omega) (by rw [ok3_3 n2 ha hb hc']; exact t) (fun j h1 h2 => ?_)
        rw [ok3_3 n2 ha hb (by omega)]
        exact Bool.not_eq_true _ ▸ fc j h2
      have e2 : bF β w hh 3 a = some b := by
        unfold bF bend bsta
        rw [if_neg (by omega), if_pos (by omega)]
        refine fs_is (by omega) (by omega) (by rw [e3]; rfl) (fun j h1 h2 => ?_)
        show (cF β w hh 3 a j).isSome = false
        rw [cF3_none n2 ha (by omega) (fun c' h3 h4 => fb j c' (by omega) h2 h4)]
        rfl
      refine ⟨a, b, c, ha, hb, hc', rfl, rfl, ec, fs_is (Nat.zero_le _) (by omega) (by rw [e2]; rfl) (fun j _ h2 => ?_), e2, e3⟩
      show (bF β w hh 3 j).isSome = false
      rw [bF3_none n2 (by omega) (fun b' c' h3 h4 h5 => fa j b' c' h2 h3 (by omega) h5)]
      rfl
    · exact absurd (lia_S2_no k n2 (Or.inr y)) e
  · exact absurd (lia_S2_no k n2 (Or.inl y)) e
end CQ
