/-! SUMS over rectangles, the first of a row, the least of a row. -/
theorem sm_0 (f : Nat → Nat) : fb_sm f 0 = 0 := rfl
theorem sm_zero (n : Nat) : fb_sm (fun _ => 0) n = 0 := by rw [fb_sm_const]; rfl
/-- a sum over k below w times h is a sum of h rows of w -/
theorem sm_rect (F : Nat → Nat → Nat) {w : Nat} (hw : 0 < w) : ∀ h, fb_sm (fun k => F (k / w) (k % w)) (w * h) = fb_sm (fun i => fb_sm (F i) w) h := by
  intro h
  induction h with
  | zero => rfl
  | succ h ih =>
    rw [Nat.mul_succ, fb_sm_split, ih, fb_sm_succ]
    congr 1
    apply fb_sm_cong
    intro k hk
    rw [Nat.mul_add_div hw, Nat.mul_add_mod, Nat.div_eq_of_lt hk, Nat.mod_eq_of_lt hk, Nat.add_zero]
/-- a sum over a stretch of a row -/
theorem sm_part (F : Nat → Nat) {a n N : Nat} (h : a + n ≤ N) : fb_sm (fun k => if a ≤ k ∧ k < a + n then F k else 0) N = fb_sm (fun i => F (a + i)) n := by
  obtain ⟨d, rfl⟩ : ∃ d, N = a + n + d := ⟨N - (a + n), by omega⟩
  rw [fb_sm_split, fb_sm_split]
  have e1 : fb_sm (fun k => if a ≤ k ∧ k < a + n then F k else 0) a = 0 := by
    rw [fb_sm_cong (g := fun _ => 0) (fun k hk => if_neg (by omega)), sm_zero]
  have e2 : fb_sm (fun k => if a ≤ a + n + k ∧ a + n + k < a + n then F (a + n + k) else 0) d = 0 := by
    rw [fb_sm_cong (g := fun _ => 0) (fun k hk => if_neg (by omega)), sm_zero]
  have e3 : fb_sm (fun k => if a ≤ a + k ∧ a + k < a + n then F (a + k) else 0) n = fb_sm (fun i => F (a + i)) n := fb_sm_cong (fun k hk => if_pos (by omega))
  rw [e1, e2, e3]
  omega
/-- sums of rows, of a rectangle -/
def rs (g : Nat → Nat → Nat) (r c w h : Nat) : Nat := fb_sm (fun i => fb_sm (fun j => g (r + i) (c + j)) w) h
theorem rs_le {g : Nat → Nat → Nat} {r c w h m : Nat} (H : ∀ i j, g i j ≤ m) : rs g r c w h ≤ h * (w * m) := fb_sm_bound (fun i _ => fb_sm_bound (fun j _ => H _ _))
theorem rs_cong {g g' : Nat → Nat → Nat} {r c w h : Nat} (H : ∀ i j, r ≤ i → i < r + h → c ≤ j → j < c + w → g i j = g' i j) : rs g r c w h = rs g' r c w h := fb_sm_cong (fun i hi => fb_sm_cong (fun j hj => H _ _ (by omega) (by omega) (by omega) (by omega)))
theorem rs_zero {g : Nat → Nat → Nat} {r c w h : Nat} : rs g r c w h = 0 ↔ ∀ i j, i < h → j < w → g (r + i) (c + j) = 0 := by
  constructor
  · intro q i j hi hj
    exact fb_sm_zero (fb_sm_zero q i hi) j hj
  · intro q
    unfold rs
    rw [fb_sm_cong (g := fun _ => 0) (fun i hi => by rw [fb_sm_cong (g := fun _ => 0) (fun j hj => q i j hi hj), sm_zero]), sm_zero]
theorem rs_row {g : Nat → Nat → Nat} {r c w h : Nat} : rs g r c w (h + 1) = rs g r c w h + rs g (r + h) c w 1 := by
  unfold rs
  rw [fb_sm_succ]
  show _ = _ + (0 + _)
  rw [Nat.zero_add]
  rfl
theorem sm_comm (g : Nat → Nat → Nat) (n : Nat) : ∀ m, fb_sm (fun i => fb_sm (fun j => g i j) n) m = fb_sm (fun j => fb_sm (fun i => g i j) m) n := by
  intro m
  induction m with
  | zero => exact (sm_zero n).symm
  | succ m ih =>
    rw [fb_sm_succ, ih, ← fb_sm_add]
    rfl
theorem rs_split_w {g : Nat → Nat → Nat} {r c w w' h : Nat} : rs g r c (w + w') h = rs g r c w h + rs g r (c + w) w' h := by
  unfold rs
  rw [← fb_sm_add]
  apply fb_sm_cong
  intro i hi
  rw [fb_sm_split]
  congr 1
  apply fb_sm_cong
  intro j hj
  rw [Nat.add_assoc]
theorem rs_split_h {g : Nat → Nat → Nat} {r c w h h' : Nat} : rs g r c w (h + h') = rs g r c w h + rs g (r + h) c w h' := by
  unfold rs
  rw [fb_sm_split]
  congr 1
  apply fb_sm_cong
  intro i hi
  apply fb_sm_cong
  intro j hj
  rw [Nat.add_assoc]
/-- four corners -/
theorem rs_corners {g : Nat → Nat → Nat} {r c w h : Nat} : rs g 0 0 (c + w) (r + h) + rs g 0 0 c r = rs g r c w h + rs g 0 0 c (r + h) + rs g 0 0 (c + w) r := by
  rw [rs_split_h, rs_split_w (g := g) (r := 0), rs_split_w (g := g) (r := 0 + r), rs_split_h (g := g) (w := c)]
  simp only [Nat.zero_add]
  omega
/-! the first -/
def fs (p : Nat → Bool) : Nat → Nat → Option Nat
  | 0, _ => none
  | d + 1, i => if p i then some i else fs p d (i + 1)
theorem fs_skip {p : Nat → Bool} : ∀ {e d i : Nat}, (∀ k, i ≤ k → k < i + e → p k = false) → fs p (e + d) i = fs p d (i + e) := by
  intro e
  induction e with
  | zero =>
    intro d i _
    rw [Nat.zero_add, Nat.add_zero]
  | succ e ih =>
    intro d i H
    rw [show e + 1 + d = (e + d) + 1 by omega]
    show (if p i = true then some i else fs p (e + d) (i + 1)) = _
    rw [H i (by omega) (by omega), if_neg (by simp), ih (fun k h1 h2 => H k (by omega) (by omega))]
    congr 1
    omega
theorem fs_none {p : Nat → Bool} {d i : Nat} (H : ∀ k, i ≤ k → k < i + d → p k = false) : fs p d i = none := by
  have := fs_skip (p := p) (e := d) (d := 0) (i := i) H
  rw [Nat.add_zero] at this
  rw [this]
  rfl
theorem fs_cong {p q : Nat → Bool} : ∀ {d i : Nat}, (∀ k, i ≤ k → k < i + d → p k = q k) → fs p d i = fs q d i := by
  intro d
  induction d with
  | zero => intro i _; rfl
  | succ d ih =>
    intro i H
    show (if p i = true then some i else fs p d (i + 1)) = (if q i = true then some i else fs q d (i + 1))
    rw [H i (by omega) (by omega), ih (fun k h1 h2 => H k (by omega) (by omega))]
theorem fs_some {p : Nat → Bool} : ∀ {d i k : Nat}, fs p d i = some k → i ≤ k ∧ k < i + d ∧ p k = true := by
  intro d
  induction d with
  | zero => intro i k h; cases h
  | succ d ih =>
    intro i k h
    by_cases q : p i = true
    · have : some i = some k := by
        have h' : (if p i = true then some i else fs p d (i + 1)) = some k := h
        rw [if_pos q] at h'
        exact h'
      cases this
      exact ⟨Nat.le_refl _, by omega, q⟩
    · have h' : (if p i = true then some i else fs p d (i + 1)) = some k := h
      rw [if_neg q] at h'
      obtain ⟨a, b, c⟩ := ih h'
      exact ⟨by omega, by omega, c⟩
theorem fs_is_none {p : Nat → Bool} : ∀ {d i : Nat}, fs p d i = none → ∀ k, i ≤ k → k < i + d → p k = false := by
  intro d
  induction d with
  | zero => intro i _ k h1 h2; omega
  | succ d ih =>
    intro i h k h1 h2
    have h' : (if p i = true then some i else fs p d (i + 1)) = none := h
    by_cases q : p i = true
    · rw [if_pos q] at h'
      cases h'
    · rw [if_neg q] at h'
      by_cases e : k = i
      · subst e
        exact Bool.not_eq_true _ ▸ q
      · exact ih h' k (by omega) (by omega)
/-- .. as an int -/
def oI (o : Option Nat) : Int32 := match o with
  | none => m1
  | some k => nI k
theorem oI_n : oI none = m1 := rfl
theorem oI_s (k : Nat) : oI (some k) = nI k := rfl
theorem oI_eq {o : Option Nat} (h : ∀ k, o = some k → k < 2147483648) : (oI o = m1) = (o = none) := by
  cases o with
  | none => simp [oI]
  | some k =>
    rw [oI_s, m1_eq (h k rfl)]
    simp
/-! the first least -/
def am (P : Nat → Bool) (f : Nat → Nat) : Nat → Nat → Option Nat → Option Nat
  | 0, _, b => b
  | d + 1, i, b => am P f d (i + 1) (match b with
    | none => if P i then some i else none
    | some k => if P i && decide (f i < f k) then some i else some k)
theorem am_skip {P : Nat → Bool} {f : Nat → Nat} : ∀ {e d i : Nat} {b : Option Nat}, (∀ k, i ≤ k → k < i + e → P k = false) → am P f (e + d) i b = am P f d (i + e) b := by
  intro e
  induction e with
  | zero =>
    intro d i b _
    rw [Nat.zero_add, Nat.add_zero]
  | succ e ih =>
    intro d i b H
    rw [show e + 1 + d = (e + d) + 1 by omega]
    have : am P f (e + d + 1) i b = am P f (e + d) (i + 1) b := by
      show am P f (e + d) (i + 1) _ = _
      cases b <;> simp [H i (by omega) (by omega)]
    rw [this, ih (fun k h1 h2 => H k (by omega) (by omega))]
    congr 1
    omega
theorem am_end {P : Nat → Bool} {f : Nat → Nat} {d i : Nat} {b : Option Nat} (H : ∀ k, i ≤ k → k < i + d → P k = false) : am P f d i b = b := by
  have := am_skip (P := P) (f := f) (e := d) (d := 0) (i := i) (b := b) H
  rw [Nat.add_zero] at this
  rw [this]
  rfl
theorem am_some {P : Nat → Bool} {f : Nat → Nat} : ∀ {d i : Nat} {b : Option Nat} {N : Nat}, i + d ≤ N → (∀ k, b = some k → k < N ∧ P k = true) → ∀ k, am P f d i b = some k → k < N ∧ P k = true := by
  intro d
  induction d with
  | zero => intro i b N _ H k e; exact H k e
  | succ d ih =>
    intro i b N hN H k e
    refine ih (i := i + 1) (by omega) ?_ k e
    intro k' e'
    cases b with
    | none =>
      by_cases q : P i = true
      · simp [q] at e'
        subst e'
        exact ⟨by omega, q⟩
      · simp [q] at e'
    | some b =>
      by_cases q : (P i && decide (f i < f b)) = true
      · simp only [q, if_true] at e'
        cases e'
        exact ⟨by omega, (by simp at q; exact q.1)⟩
      · simp only [q] at e'
        cases e'
        exact H _ rfl
theorem am_ne {P : Nat → Bool} {f : Nat → Nat} : ∀ {d i : Nat} {b : Option Nat}, am P f d i b = none → b = none ∧ ∀ k, i ≤ k → k < i + d → P k = false := by
  intro d
  induction d with
  | zero => intro i b e; exact ⟨e, fun k h1 h2 => by omega⟩
  | succ d ih =>
    intro i b e
    obtain ⟨a, c⟩ := ih (i := i + 1) e
    cases b with
    | none =>
      refine ⟨rfl, fun k h1 h2 => ?_⟩
      by_cases q : P i = true
      · simp [q] at a
      · by_cases e : k = i
        · subst e
          exact Bool.not_eq_true _ ▸ q
        · exact c k (by omega) (by omega)
    | some b =>
      simp only at a
      split at a <;> cases a
