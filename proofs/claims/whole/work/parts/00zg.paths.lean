/-! Ways from STROKE to STROKE. -/
def nb (W N d c : Nat) : Prop := d < N ∧ c < N ∧ (c = d + W ∨ d = c + W ∨ (c = d + 1 ∧ c % W ≠ 0) ∨ (d = c + 1 ∧ d % W ≠ 0))
/-- a way of at most k steps from f0 to c: FORCE F, t STROKES -/
def pth (W N f0 : Nat) (s : Nat → Nat) : Nat → Nat → Nat → Nat → Prop
  | 0, c, F, t => c = f0 ∧ F = s f0 ∧ t = 1
  | k + 1, c, F, t => pth W N f0 s k c F t ∨ ∃ d F' t', nb W N d c ∧ pth W N f0 s k d F' t' ∧ F = F' + s c ∧ t = t' + 1
section PT
variable {W N f0 : Nat} {s : Nat → Nat}
theorem pth_t : ∀ {k c F t : Nat}, pth W N f0 s k c F t → 1 ≤ t ∧ t ≤ k + 1 := by
  intro k
  induction k with
  | zero => intro c F t h; have := h.2.2; omega
  | succ k ih =>
    intro c F t h
    rcases h with h | ⟨d, F', t', _, h, _, e⟩
    · have := ih h; omega
    · have := ih h; omega
theorem pth_up {k c F t : Nat} (h : pth W N f0 s k c F t) : ∀ j, pth W N f0 s (k + j) c F t := by
  intro j
  induction j with
  | zero => exact h
  | succ j ih => exact Or.inl ih
theorem pth_le {k k' c F t : Nat} (h : pth W N f0 s k c F t) (hk : k ≤ k') : pth W N f0 s k' c F t := by
  have := pth_up h (k' - k)
  rw [show k + (k' - k) = k' by omega] at this
  exact this
theorem ct_lt1 {p q : Nat → Bool} {n d : Nat} (hd : d < n) (h1 : p d = false) (h2 : q d = true) (h : ∀ k, k < n → p k = true → q k = true) : fb_ct p n + 1 ≤ fb_ct q n := by
  have c := ct_up1 p true hd
  rw [h1] at c
  have c' : fb_ct (up1 p d true) n = fb_ct p n + 1 := c
  rw [← c']
  refine fb_ct_sub (fun k hk z => ?_)
  by_cases y : k = d
  · rw [y]; exact h2
  · rw [up1_ne y] at z
    exact h k hk z
theorem least_e (m : Nat) {c : Nat} : ∀ n, (∃ k F t, pth W N f0 s k c F t ∧ m * F + t ≤ n) → ∃ k F t, pth W N f0 s k c F t ∧ ∀ k' F' t', pth W N f0 s k' c F' t' → m * F + t ≤ m * F' + t' := by
  intro n
  induction n with
  | zero =>
    intro ⟨k, F, t, h, e⟩
    exact ⟨k, F, t, h, fun _ _ _ _ => by omega⟩
  | succ n ih =>
    intro ⟨k, F, t, h, e⟩
    by_cases z : ∃ k F t, pth W N f0 s k c F t ∧ m * F + t ≤ n
    · exact ih z
    · refine ⟨k, F, t, h, fun k' F' t' h' => ?_⟩
      by_cases y : m * F' + t' ≤ n
      · exact absurd ⟨k', F', t', h', y⟩ z
      · omega
theorem short (m : Nat) (hN : N ≤ 64) (reach : ∀ c, c < N → ∃ k F t, pth W N f0 s k c F t) : ∀ c, c < N → ∃ F t, pth W N f0 s 63 c F t ∧ ∀ k' F' t', pth W N f0 s k' c F' t' → m * F + t ≤ m * F' + t' := by
  have ex : ∀ c, ∃ e, c < N → (∃ k F t, pth W N f0 s k c F t ∧ e = m * F + t) ∧ ∀ k' F' t', pth W N f0 s k' c F' t' → e ≤ m * F' + t' := by
    intro c
    by_cases hc : c < N
    · obtain ⟨k, F, t, h⟩ := reach c hc
      obtain ⟨k, F, t, h1, h2⟩ := least_e m (m * F + t) ⟨k, F, t, h, Nat.le_refl _⟩
      exact ⟨m * F + t, fun _ => ⟨⟨k, F, t, h1, rfl⟩, h2⟩⟩
    · exact ⟨0, fun z => absurd z hc⟩
  let e := fun c => Classical.choose (ex c)
  have he : ∀ c, c < N → (∃ k F t, pth W N f0 s k c F t ∧ e c = m * F + t) ∧ ∀ k' F' t', pth W N f0 s k' c F' t' → e c ≤ m * F' + t' := fun c hc => Classical.choose_spec (ex c) hc
  clear_value e
  have key : ∀ v c, c < N → e c ≤ v → ∃ F t, pth W N f0 s (fb_ct (fun d => decide (e d < e c)) N) c F t ∧ m * F + t = e c := by
    intro v
    induction v with
    | zero =>
      intro c hc hv
      obtain ⟨⟨k, F, t, h1, h2⟩, _⟩ := he c hc
      have := pth_t h1
      omega
    | succ v ih =>
      intro c hc hv
      have inner : ∀ k F t, pth W N f0 s k c F t → m * F + t = e c → ∃ F t, pth W N f0 s (fb_ct (fun d => decide (e d < e c)) N) c F t ∧ m * F + t = e c := by
        intro k
        induction k with
        | zero => intro F t h1 h2; exact ⟨F, t, pth_le h1 (Nat.zero_le _), h2⟩
        | succ k ihk =>
          intro F t h1 h2
          rcases h1 with h1 | ⟨d, F', t', hnb, h1, eF, et⟩
          · exact ihk F t h1 h2
          · have hd := hnb.1
            obtain ⟨⟨k2, F2, t2, g1, g2⟩, g3⟩ := he d hd
            have a1 := g3 _ _ _ h1
            have a2 := (he c hc).2 (k2 + 1) (F2 + s c) (t2 + 1) (Or.inr ⟨d, F2, t2, hnb, g1, rfl, rfl⟩)
            rw [eF, et, Nat.mul_add] at h2
            rw [Nat.mul_add] at a2
            have hlt : e d < e c := by omega
            obtain ⟨F3, t3, b1, b2⟩ := ih d hd (by omega)
            have hr := ct_lt1 (p := fun x => decide (e x < e d)) (q := fun x => decide (e x < e c)) hd (decide_eq_false (by omega)) (decide_eq_true hlt) (fun x _ z => decide_eq_true (by have := of_decide_eq_true z; omega))
            refine ⟨F3 + s c, t3 + 1, pth_le (k := fb_ct (fun x => decide (e x < e d)) N + 1) (Or.inr ⟨d, F3, t3, hnb, b1, rfl, rfl⟩) hr, ?_⟩
            rw [Nat.mul_add]
            omega
      obtain ⟨⟨k, F, t, h1, h2⟩, _⟩ := he c hc
      exact inner k F t h1 h2.symm
  intro c hc
  obtain ⟨F, t, h1, h2⟩ := key (e c) c hc (Nat.le_refl _)
  have hr := ct_lt1 (p := fun x => decide (e x < e c)) (q := fun _ => true) hc (decide_eq_false (by omega)) rfl (fun _ _ _ => rfl)
  have ht : fb_ct (fun _ => true) N = N := fb_ct_all.mpr (fun _ _ => rfl)
  refine ⟨F, t, pth_le h1 (by omega), fun k' F' t' h' => ?_⟩
  rw [h2]
  exact (he c hc).2 k' F' t' h'
/-! all STROKES are reached -/
def rc (W N f0 : Nat) (s : Nat → Nat) (c B : Nat) : Prop := ∃ k F t, pth W N f0 s k c F t ∧ F ≤ 18 * t ∧ t ≤ B
theorem rc_ext {d c B : Nat} (hs : s c ≤ 18) (h : rc W N f0 s d B) (hn : nb W N d c) : rc W N f0 s c (B + 1) := by
  obtain ⟨k, F, t, h1, h2, h3⟩ := h
  exact ⟨k + 1, F + s c, t + 1, Or.inr ⟨d, F, t, hn, h1, rfl, rfl⟩, by omega, by omega⟩
theorem rc_all {H : Nat} (hW : 2 ≤ W) (hW8 : W ≤ 8) (hH8 : H ≤ 8) (hN : N = W * H) (hs : ∀ c, c < N → s c ≤ 18) (hf : f0 < N) : ∀ c, c < N → rc W N f0 s c 29 := by
  have cell : ∀ r q, r < H → q < W → W * r + q < N := fun r q hr hq => by
    have : W * (r + 1) ≤ W * H := Nat.mul_le_mul_left _ hr
    rw [Nat.mul_succ] at this
    omega
  have r0 : f0 / W < H := Nat.div_lt_of_lt_mul (by omega)
  have c0 : f0 % W < W := Nat.mod_lt _ (by omega)
  have hdm := Nat.div_add_mod f0 W
  have hz := Nat.zero_le (f0 / W)
  -- up
  have up : ∀ i, i ≤ f0 / W → rc W N f0 s (W * (f0 / W - i) + f0 % W) (i + 1) := by
    intro i
    induction i with
    | zero =>
      intro _
      refine ⟨0, s f0, 1, ⟨?_, rfl, rfl⟩, by have := hs f0 hf; omega, by omega⟩
      rw [Nat.sub_zero]
      omega
    | succ i ih =>
      intro hi
      have l1 := cell (f0 / W - i) (f0 % W) (by omega) c0
      have l2 := cell (f0 / W - (i + 1)) (f0 % W) (by omega) c0
      refine rc_ext (hs _ l2) (ih (by omega)) ⟨l1, l2, Or.inr (Or.inl ?_)⟩
      rw [show f0 / W - i = (f0 / W - (i + 1)) + 1 by omega, Nat.mul_succ]
      omega
  have u0 := up (f0 / W) (Nat.le_refl _)
  rw [Nat.sub_self, Nat.mul_zero, Nat.zero_add] at u0
  -- left
  have left : ∀ i, i ≤ f0 % W → rc W N f0 s (f0 % W - i) (8 + i) := by
    intro i
    induction i with
    | zero =>
      intro _
      obtain ⟨k, F, t, h1, h2, h3⟩ := u0
      exact ⟨k, F, t, by rw [Nat.sub_zero]; exact h1, h2, by omega⟩
    | succ i ih =>
      intro hi
      have l1 := cell 0 (f0 % W - i) (by omega) (by omega)
      have l2 := cell 0 (f0 % W - (i + 1)) (by omega) (by omega)
      rw [Nat.mul_zero, Nat.zero_add] at l1 l2
      refine rc_ext (hs _ l2) (ih (by omega)) ⟨l1, l2, Or.inr (Or.inr (Or.inr ⟨by omega, ?_⟩))⟩
      rw [Nat.mod_eq_of_lt (by omega)]
      omega
  have l0 := left (f0 % W) (Nat.le_refl _)
  rw [Nat.sub_self] at l0
  -- down
  have down : ∀ r, r < H → rc W N f0 s (W * r) (15 + r) := by
    intro r
    induction r with
    | zero =>
      intro _
      obtain ⟨k, F, t, h1, h2, h3⟩ := l0
      exact ⟨k, F, t, by rw [Nat.mul_zero]; exact h1, h2, by omega⟩
    | succ r ih =>
      intro hr
      have l1 := cell r 0 (by omega) (by omega)
      have l2 := cell (r + 1) 0 (by omega) (by omega)
      rw [Nat.add_zero] at l1 l2
      exact rc_ext (hs _ l2) (ih (by omega)) ⟨l1, l2, Or.inl (by rw [Nat.mul_succ])⟩
  -- right
  have right : ∀ r, r < H → ∀ q, q < W → rc W N f0 s (W * r + q) (15 + r + q) := by
    intro r hr q
    induction q with
    | zero => intro _; exact down r hr
    | succ q ih =>
      intro hq
      have l1 := cell r q hr (by omega)
      have l2 := cell r (q + 1) hr hq
      refine rc_ext (hs _ l2) (ih (by omega)) ⟨l1, l2, Or.inr (Or.inr (Or.inl ⟨by omega, ?_⟩))⟩
      rw [(wc_dm (W := W) (r := r) (c := q + 1) hq).2]
      omega
  intro c hc
  have hr : c / W < H := Nat.div_lt_of_lt_mul (by omega)
  have hq : c % W < W := Nat.mod_lt _ (by omega)
  have := right (c / W) hr (c % W) hq
  rw [Nat.div_add_mod] at this
  obtain ⟨k, F, t, h1, h2, h3⟩ := this
  exact ⟨k, F, t, h1, h2, by omega⟩
/-! a table of the best so far -/
def AF (W N f0 : Nat) (s : Nat → Nat) (m : Nat) (X : Nat → Nat) : Prop := ∀ c, c < N → X c ≤ 1000000 ∧ (X c = 1000000 ∨ ∃ k F t, pth W N f0 s k c F t ∧ X c = m * F + t)
def UB (W N f0 : Nat) (s : Nat → Nat) (m j : Nat) (X : Nat → Nat) : Prop := ∀ c F t, c < N → pth W N f0 s j c F t → X c ≤ m * F + t
def FI (W N f0 : Nat) (s : Nat → Nat) (m : Nat) (X : Nat → Nat) : Prop := ∀ c, c < N → ∃ F t, pth W N f0 s 63 c F t ∧ X c = m * F + t ∧ ∀ k' F' t', pth W N f0 s k' c F' t' → X c ≤ m * F' + t'
theorem UB_0 {m : Nat} {X : Nat → Nat} (hX : X f0 ≤ m * s f0 + 1) : UB W N f0 s m 0 X := by
  intro c F t _ h
  rw [h.1, h.2.1, h.2.2]
  exact hX
theorem UB_s {m j : Nat} {X X' : Nat → Nat} (U : UB W N f0 s m j X) (r1 : ∀ c, c < N → X' c ≤ X c) (r2 : ∀ d c, nb W N d c → X' c ≤ X d + (m * s c + 1)) : UB W N f0 s m (j + 1) X' := by
  intro c F t hc h
  rcases h with h | ⟨d, F', t', hn, h, e1, e2⟩
  · exact Nat.le_trans (r1 c hc) (U c F t hc h)
  · have h1 := r2 d c hn
    have h2 := U d F' t' hn.1 h
    rw [e1, e2, Nat.mul_add]
    omega
theorem FI_of {m : Nat} {X : Nat → Nat} (hN : N ≤ 64) (hm : m ≤ 256) (reach : ∀ c, c < N → rc W N f0 s c 29) (A : AF W N f0 s m X) (U : UB W N f0 s m 63 X) : FI W N f0 s m X := by
  intro c hc
  obtain ⟨F, t, h1, h2⟩ := short m hN (fun c hc => by obtain ⟨k, F, t, h, _⟩ := reach c hc; exact ⟨k, F, t, h⟩) c hc
  have u := U c F t hc h1
  obtain ⟨k, F0, t0, g1, g2, g3⟩ := reach c hc
  have l := h2 k F0 t0 g1
  have hb : m * F0 ≤ 256 * (18 * 29) := Nat.mul_le_mul hm (by omega)
  rcases (A c hc).2 with a | ⟨k', F', t', a1, a2⟩
  · omega
  · have := h2 k' F' t' a1
    exact ⟨F, t, h1, by omega, fun k2 F2 t2 z => by have := h2 k2 F2 t2 z; omega⟩
theorem UB_fix {m : Nat} {X : Nat → Nat} (U : UB W N f0 s m 0 X) (r2 : ∀ d c, nb W N d c → X c ≤ X d + (m * s c + 1)) : ∀ j, UB W N f0 s m j X := by
  intro j
  induction j with
  | zero => exact U
  | succ j ih => exact UB_s ih (fun c _ => Nat.le_refl _) r2
theorem FI_two {X Y : Nat → Nat} (A : FI W N f0 s 128 X) (B : FI W N f0 s 256 Y) {c : Nat} (hc : c < N) : ∃ F t, t ≤ 64 ∧ X c = 128 * F + t ∧ Y c = 256 * F + t := by
  obtain ⟨F, t, a1, a2, a3⟩ := A c hc
  obtain ⟨F', t', b1, b2, b3⟩ := B c hc
  have h1 := pth_t a1
  have h2 := pth_t b1
  have h3 := a3 _ _ _ b1
  have h4 := b3 _ _ _ a1
  refine ⟨F, t, by omega, a2, ?_⟩
  have : F = F' := by omega
  subst this
  omega
theorem FI_fix {m : Nat} {X : Nat → Nat} (A : FI W N f0 s m X) {d c : Nat} (h : nb W N d c) : X c ≤ X d + (m * s c + 1) := by
  obtain ⟨F, t, a1, a2, a3⟩ := A d h.1
  obtain ⟨_, _, _, _, b3⟩ := A c h.2.1
  have := b3 64 (F + s c) (t + 1) (Or.inr ⟨d, F, t, h, a1, rfl, rfl⟩)
  rw [Nat.mul_add] at this
  omega
theorem FI_le {m : Nat} {X : Nat → Nat} (hm : m ≤ 256) (reach : ∀ c, c < N → rc W N f0 s c 29) (A : FI W N f0 s m X) {c : Nat} (hc : c < N) : X c < 1000000 := by
  obtain ⟨F, t, a1, a2, a3⟩ := A c hc
  obtain ⟨k, F0, t0, g1, g2, g3⟩ := reach c hc
  have := a3 k F0 t0 g1
  have hb : m * F0 ≤ 256 * (18 * 29) := Nat.mul_le_mul hm (by omega)
  omega
end PT
