/-! divided: who has which ROD. -/
/-- who has ROD r of m, by a row's number -/
def dg (n m u r : Nat) : Nat := u / n ^ (m - 1 - r) % n
theorem dg_last (n m u : Nat) : dg n (m + 1) u m = u % n := by
  unfold dg
  rw [show m + 1 - 1 - m = 0 by omega, Nat.pow_zero, Nat.div_one]
theorem dg_prev {n m u r : Nat} (hr : r < m) : dg n (m + 1) u r = dg n m (u / n) r := by
  unfold dg
  rw [show m + 1 - 1 - r = (m - 1 - r) + 1 by omega, Nat.pow_succ, Nat.mul_comm, Nat.div_div_eq_div_mul]
/-- the row with other names -/
def sp (n : Nat) (σ : Nat → Nat) : Nat → Nat → Nat
  | 0, _ => 0
  | m + 1, u => n * sp n σ m (u / n) + σ (u % n)
theorem sp_dg {n : Nat} {σ : Nat → Nat} (hn : 0 < n) (hσ : ∀ x, x < n → σ x < n) : ∀ m u r, r < m → dg n m (sp n σ m u) r = σ (dg n m u r) := by
  intro m
  induction m with
  | zero => intro u r hr; omega
  | succ m ih =>
    intro u r hr
    have hl := hσ (u % n) (Nat.mod_lt _ hn)
    have e1 : (n * sp n σ m (u / n) + σ (u % n)) % n = σ (u % n) := by rw [Nat.mul_add_mod, Nat.mod_eq_of_lt hl]
    have e2 : (n * sp n σ m (u / n) + σ (u % n)) / n = sp n σ m (u / n) := by rw [Nat.mul_add_div hn, Nat.div_eq_of_lt hl, Nat.add_zero]
    by_cases z : r = m
    · subst z
      rw [dg_last, dg_last]
      exact e1
    · rw [dg_prev (by omega), dg_prev (by omega)]
      show dg n m ((n * sp n σ m (u / n) + σ (u % n)) / n) r = _
      rw [e2]
      exact ih (u / n) r (by omega)
theorem sp_lt {n : Nat} {σ : Nat → Nat} (hn : 0 < n) (hσ : ∀ x, x < n → σ x < n) : ∀ m u, sp n σ m u < n ^ m := by
  intro m
  induction m with
  | zero => intro u; exact Nat.one_pos
  | succ m ih =>
    intro u
    have hl := hσ (u % n) (Nat.mod_lt _ hn)
    have h1 := ih (u / n)
    show n * sp n σ m (u / n) + σ (u % n) < n ^ (m + 1)
    have h2 : n * (sp n σ m (u / n) + 1) ≤ n * n ^ m := Nat.mul_le_mul_left _ h1
    rw [Nat.pow_succ, Nat.mul_comm (n ^ m)]
    rw [Nat.mul_succ] at h2
    omega
theorem sp_lt2 {n : Nat} {σ : Nat → Nat} (hn : 0 < n) (hσ : ∀ x, x < n → σ x < n) {m u : Nat} (h0 : σ (dg n (m + 1) u 0) = 0) : sp n σ (m + 1) u < n ^ m := by
  have h1 := sp_lt hn hσ (m + 1) u
  have h2 := sp_dg hn hσ (m + 1) u 0 (by omega)
  rw [h0] at h2
  unfold dg at h2
  rw [show m + 1 - 1 - 0 = m by omega] at h2
  have hp : 0 < n ^ m := Nat.pow_pos hn
  have h3 : sp n σ (m + 1) u / n ^ m < n := Nat.div_lt_of_lt_mul (by rw [Nat.pow_succ] at h1; exact h1)
  rw [Nat.mod_eq_of_lt h3] at h2
  have := Nat.div_add_mod (sp n σ (m + 1) u) (n ^ m)
  rw [h2, Nat.mul_zero, Nat.zero_add] at this
  rw [← this]
  exact Nat.mod_lt _ hp
/-- what one has, by a row; what the one with most has -/
def shr (R : Nat → Nat) (n m u w : Nat) : Nat := fb_sm (fun r => if dg n m u r = w then R r else 0) m
def mH (R : Nat → Nat) (n m u : Nat) : Nat := mp (shr R n m u) n
theorem mp_le {f : Nat → Nat} {K : Nat} : ∀ {n : Nat}, mp f n ≤ K ↔ ∀ w, w < n → f w ≤ K := by
  intro n
  induction n with
  | zero => exact ⟨fun _ w hw => absurd hw (Nat.not_lt_zero w), fun _ => Nat.zero_le _⟩
  | succ n ih =>
    show max (mp f n) (f n) ≤ K ↔ _
    rw [Nat.max_le, ih]
    constructor
    · intro ⟨a, b⟩ w hw
      by_cases z : w = n
      · subst z; exact b
      · exact a w (by omega)
    · intro a
      exact ⟨fun w hw => a w (by omega), a n (by omega)⟩
theorem mp_ge {f : Nat → Nat} {n w : Nat} (hw : w < n) : f w ≤ mp f n := mp_le.mp (Nat.le_refl _) w hw
/-- 0 and d change places -/
def sw (d x : Nat) : Nat := if x = 0 then d else if x = d then 0 else x
theorem sw_sw (d x : Nat) : sw d (sw d x) = x := by
  unfold sw
  by_cases h1 : x = 0
  · subst h1
    rw [if_pos rfl]
    by_cases h2 : d = 0
    · rw [if_pos h2, h2]
    · rw [if_neg h2, if_pos rfl]
  · rw [if_neg h1]
    by_cases h2 : x = d
    · rw [if_pos h2, if_pos rfl, h2]
    · rw [if_neg h2, if_neg h1, if_neg h2]
theorem sw_lt {d x n : Nat} (hd : d < n) (hx : x < n) : sw d x < n := by
  unfold sw
  split
  · exact hd
  · split
    · omega
    · exact hx
theorem mH_sw (R : Nat → Nat) {n m u : Nat} (hn : 0 < n) : ∃ v, v < n ^ m ∧ mH R n (m + 1) v = mH R n (m + 1) u := by
  have hd : dg n (m + 1) u 0 < n := Nat.mod_lt _ hn
  have hσ : ∀ x, x < n → sw (dg n (m + 1) u 0) x < n := fun x hx => sw_lt hd hx
  refine ⟨sp n (sw (dg n (m + 1) u 0)) (m + 1) u, sp_lt2 hn hσ ?_, ?_⟩
  · unfold sw
    by_cases h : dg n (m + 1) u 0 = 0
    · rw [if_pos h, h]
    · rw [if_neg h, if_pos rfl]
  · have e : ∀ w, shr R n (m + 1) (sp n (sw (dg n (m + 1) u 0)) (m + 1) u) w = shr R n (m + 1) u (sw (dg n (m + 1) u 0) w) := by
      intro w
      unfold shr
      apply fb_sm_cong
      intro r hr
      rw [sp_dg hn hσ (m + 1) u r hr]
      by_cases z : sw (dg n (m + 1) u 0) (dg n (m + 1) u r) = w
      · rw [if_pos z, if_pos (by rw [← z, sw_sw])]
      · rw [if_neg z, if_neg (fun y => z (by rw [y, sw_sw]))]
    unfold mH
    apply Nat.le_antisymm
    · refine mp_le.mpr (fun w hw => ?_)
      rw [e]
      exact mp_ge (hσ w hw)
    · refine mp_le.mpr (fun w hw => ?_)
      have := e (sw (dg n (m + 1) u 0) w)
      rw [sw_sw] at this
      rw [← this]
      exact mp_ge (hσ w hw)
/-! the first least, over all and over the first rows -/
theorem am_split {P : Nat → Bool} {f : Nat → Nat} : ∀ {a b i : Nat} {s : Option Nat}, am P f (a + b) i s = am P f b (i + a) (am P f a i s) := by
  intro a
  induction a with
  | zero => intro b i s; rw [Nat.zero_add]; rfl
  | succ a ih =>
    intro b i s
    rw [show a + 1 + b = (a + b) + 1 by omega, am_S, am_S, ih, show i + (a + 1) = i + 1 + a by omega]
theorem am_stay {f : Nat → Nat} {b : Nat} : ∀ {d i : Nat}, (∀ u, i ≤ u → u < i + d → f b ≤ f u) → am (fun _ => true) f d i (some b) = some b := by
  intro d
  induction d with
  | zero => intro i _; rfl
  | succ d ih =>
    intro i H
    rw [am_S]
    have : amS (fun _ => true) f i (some b) = some b := by
      show (if (true && decide (f i < f b)) = true then some i else some b) = some b
      rw [decide_eq_false (Nat.not_lt.mpr (H i (by omega) (by omega)))]
      rfl
    rw [this]
    exact ih (fun u h1 h2 => H u (by omega) (by omega))
theorem am_min {f : Nat → Nat} : ∀ {d i : Nat} {s : Option Nat} {b : Nat}, am (fun _ => true) f d i s = some b → (∀ u, i ≤ u → u < i + d → f b ≤ f u) ∧ ∀ q, s = some q → f b ≤ f q := by
  intro d
  induction d with
  | zero =>
    intro i s b e
    exact ⟨fun u h1 h2 => by omega, fun q hq => by
      have e' : s = some b := e
      rw [hq] at e'
      cases e'
      exact Nat.le_refl _⟩
  | succ d ih =>
    intro i s b e
    rw [am_S] at e
    obtain ⟨a1, a2⟩ := ih e
    have key : f b ≤ f i ∧ ∀ q, s = some q → f b ≤ f q := by
      cases s with
      | none =>
        refine ⟨a2 i rfl, fun q hq => by cases hq⟩
      | some q =>
        have eq : amS (fun _ => true) f i (some q) = if (true && decide (f i < f q)) = true then some i else some q := rfl
        by_cases z : f i < f q
        · rw [eq, decide_eq_true z] at a2
          have := a2 i rfl
          exact ⟨this, fun r hr => by cases hr; omega⟩
        · rw [eq, decide_eq_false z] at a2
          have := a2 q rfl
          exact ⟨by omega, fun r hr => by cases hr; exact this⟩
    refine ⟨fun u h1 h2 => ?_, key.2⟩
    by_cases z : u = i
    · subst z
      exact key.1
    · exact a1 u (by omega) (by omega)
theorem am_some1 {f : Nat → Nat} {d i : Nat} : ∃ b, am (fun _ => true) f (d + 1) i none = some b := by
  cases q : am (fun _ => true) f (d + 1) i none with
  | some b => exact ⟨b, rfl⟩
  | none =>
    have := (am_ne q).2 i (by omega) (by omega)
    cases this
theorem am_rows (R : Nat → Nat) {n m : Nat} (hn : 0 < n) : am (fun _ => true) (mH R n m) (n ^ m) 0 none = am (fun _ => true) (mH R n m) (n ^ (m - 1)) 0 none := by
  cases m with
  | zero => rfl
  | succ m =>
    rw [Nat.add_sub_cancel]
    have hp : 0 < n ^ m := Nat.pow_pos hn
    obtain ⟨c, hc⟩ : ∃ c, n ^ (m + 1) = n ^ m + c := ⟨n ^ (m + 1) - n ^ m, by
      have : n ^ m * 1 ≤ n ^ m * n := Nat.mul_le_mul_left _ hn
      rw [Nat.pow_succ]
      omega⟩
    obtain ⟨d, hd⟩ : ∃ d, n ^ m = d + 1 := ⟨n ^ m - 1, by omega⟩
    rw [hc, am_split]
    obtain ⟨b, hb⟩ := am_some1 (f := mH R n (m + 1)) (d := d) (i := 0)
    rw [← hd] at hb
    rw [hb]
    refine am_stay (fun u _ _ => ?_)
    obtain ⟨v, v1, v2⟩ := mH_sw R (m := m) (u := u) hn
    rw [← v2]
    exact (am_min hb).1 v (by omega) (by omega)
/-! the class's most -/
def psd (f : Nat → Nat) (m : Nat) : Nat → Nat
  | 0 => 0
  | d + 1 => psd f m d + f (m - 1 - d)
theorem psd_all {f : Nat → Nat} {m : Nat} : ∀ d, d ≤ m → psd f m d + fb_sm f (m - d) = fb_sm f m := by
  intro d
  induction d with
  | zero => intro _; exact Nat.zero_add _
  | succ d ih =>
    intro hd
    have := ih (by omega)
    rw [show m - d = (m - (d + 1)) + 1 by omega, fb_sm_succ] at this
    show psd f m d + f (m - 1 - d) + _ = _
    rw [show m - 1 - d = m - (d + 1) by omega]
    omega
theorem mp_up {f f' : Nat → Nat} {n v : Nat} (hv : v < n) (h1 : ∀ w, w ≠ v → f' w = f w) (h2 : f v ≤ f' v) : mp f' n = max (mp f n) (f' v) := by
  apply Nat.le_antisymm
  · refine mp_le.mpr (fun w hw => ?_)
    by_cases z : w = v
    · subst z
      exact Nat.le_max_right _ _
    · rw [h1 w z]
      exact Nat.le_trans (mp_ge hw) (Nat.le_max_left _ _)
  · refine Nat.max_le.mpr ⟨mp_le.mpr (fun w hw => ?_), mp_ge hv⟩
    by_cases z : w = v
    · subst z
      exact Nat.le_trans h2 (mp_ge hv)
    · rw [← h1 w z]
      exact mp_ge hw
def shP (R : Nat → Nat) (n m u d w : Nat) : Nat := psd (fun r => if dg n m u r = w then R r else 0) m d
theorem shP_m (R : Nat → Nat) (n m u w : Nat) : shP R n m u m w = shr R n m u w := by
  have := psd_all (f := fun r => if dg n m u r = w then R r else 0) (m := m) m (Nat.le_refl _)
  rw [Nat.sub_self] at this
  exact this
theorem shP_le {R : Nat → Nat} {n m u : Nat} (hR : ∀ r, r < m → R r ≤ 60) : ∀ d w, d ≤ m → shP R n m u d w ≤ d * 60 := by
  intro d w
  induction d with
  | zero => intro _; exact Nat.le_refl _
  | succ d ih =>
    intro hd
    have h1 := ih (by omega)
    have h2 := hR (m - 1 - d) (by omega)
    show shP R n m u d w + (if dg n m u (m - 1 - d) = w then R (m - 1 - d) else 0) ≤ _
    split <;> omega
theorem n_m1 (j : Nat) : nI j + m1 = nI j - nI 1 := by
  rw [Int32.sub_eq_add_neg]
  rfl
theorem c_most42 {a : Nat} {π : qQ} {h : qm_H} (k : pOK π) (C : pC a π h) (ha : a + 2 < 53) {n u : Nat} (hn : 1 ≤ n) (hn4 : n ≤ 4) (hu : u ≤ 5000) : ∀ e d h1 fuel, d + e = pn π → e < fuel → qFr (fun q _ => q = 58 ∨ q = 59) h h1 → (∀ w, w < 4 → h1.1 59 w = nI (shP (pR π) n (pn π) u d w)) → (∀ i, pn π - d ≤ i → i < pn π → h1.1 58 i = nI (dg n (pn π) u i)) → ∃ h2, qX4_mostOf_42 fuel 53 a (nI n) (nI (mp (shP (pR π) n (pn π) u d) n)) (nI (u / n ^ d)) (nI (pn π - d) - nI 1) h1 = some (nI (mH (pR π) n (pn π) u), h2) ∧ qFr (fun q _ => q = 58 ∨ q = 59) h h2 ∧ ∀ i, i < pn π → h2.1 58 i = nI (dg n (pn π) u i) := by
  obtain ⟨k1, k2, k3, k4, k5, k6⟩ := k
  intro e
  induction e with
  | zero =>
    intro d h1 fuel hd hf F S D
    obtain ⟨g, rfl⟩ : ∃ g, fuel = g + 1 := ⟨fuel - 1, by omega⟩
    have : d = pn π := by omega
    subst this
    refine ⟨h1, ?_, F, fun i hi => D i (by omega) hi⟩
    unfold qX4_mostOf_42
    rw [Nat.sub_self, show nI 0 - nI 1 = m1 from rfl, show mH (pR π) n (pn π) u = mp (shP (pR π) n (pn π) u (pn π)) n by
      unfold mH
      congr 1
      funext w
      exact (shP_m _ _ _ _ _).symm, if_pos (show m1 < 0 by decide)]
  | succ e ih =>
    intro d h1 fuel hd hf F S D
    obtain ⟨g, rfl⟩ : ∃ g, fuel = g + 1 := ⟨fuel - 1, by omega⟩
    have C1 : pC a π h1 := C.mv (fun q r _ _ => (F q r (by omega)).1)
    have cR := C1.2.2.2.1 (pn π - 1 - d) (by omega)
    have hRb := k5 (pn π - 1 - d) (by omega)
    have hw : dg n (pn π) u (pn π - 1 - d) = u / n ^ d % n := by
      unfold dg
      rw [show pn π - 1 - (pn π - 1 - d) = d by omega]
    have hwl : u / n ^ d % n < n := Nat.mod_lt _ (by omega)
    have hul : u / n ^ d ≤ u := Nat.div_le_self _ _
    have hz := Nat.zero_le (u / n ^ d)
    have hz2 := Nat.zero_le (u / n ^ d % n)
    have sw := S (u / n ^ d % n) (by omega)
    have hsl := shP_le (R := pR π) (n := n) (m := pn π) (u := u) (fun r hr => (k5 r hr).2) d (u / n ^ d % n) (by omega)
    have hstep : ∀ w, shP (pR π) n (pn π) u (d + 1) w = shP (pR π) n (pn π) u d w + (if u / n ^ d % n = w then pR π (pn π - 1 - d) else 0) := fun w => by
      rw [← hw]
      rfl
    have hmp : mp (shP (pR π) n (pn π) u (d + 1)) n = max (mp (shP (pR π) n (pn π) u d) n) (shP (pR π) n (pn π) u d (u / n ^ d % n) + pR π (pn π - 1 - d)) := by
      rw [mp_up (f := shP (pR π) n (pn π) u d) (v := u / n ^ d % n) hwl (fun w hne => by rw [hstep, if_neg (fun y => hne y.symm), Nat.add_zero]) (by rw [hstep]; exact Nat.le_add_right _ _), hstep, if_pos rfl]
    have hmb : mp (shP (pR π) n (pn π) u d) n ≤ 360 := mp_le.mpr (fun w _ => Nat.le_trans (shP_le (fun r hr => (k5 r hr).2) d w (by omega)) (by omega))
    obtain ⟨h2, e1, e2, e3⟩ := ih (d + 1) (qm_seti (qm_seti h1 58 (pn π - 1 - d) (nI (u / n ^ d % n))) 59 (u / n ^ d % n) (nI (shP (pR π) n (pn π) u d (u / n ^ d % n) + pR π (pn π - 1 - d)))) g (by omega) (by omega) ((F.trans (qFr.seti (Or.inl rfl))).trans (qFr.seti (Or.inr rfl))) (fun w hw4 => by
      by_cases z : w = u / n ^ d % n
      · rw [z, sI_eq, hstep, if_pos rfl]
      · rw [sI_ne (by omega), sI_ne (by omega), hstep, if_neg (fun y => z y.symm)]
        exact S w hw4) (fun i hi1 hi2 => by
      rw [sI_ne (by omega)]
      by_cases z : i = pn π - 1 - d
      · rw [z, sI_eq, hw]
      · rw [sI_ne (by omega)]
        exact D i (by omega) hi2)
    refine ⟨h2, ?_, e2, e3⟩
    have hdiv : u / n ^ d / n = u / n ^ (d + 1) := by rw [Nat.div_div_eq_div_mul, Nat.pow_succ]
    have hx6 : nI (pn π - d) - nI 1 = nI (pn π - 1 - d) := by
      rw [n_sub (by omega)]
      congr 1
      omega
    rw [hmp, show pn π - (d + 1) = pn π - 1 - d by omega] at e1
    unfold qX4_mostOf_42 qX4_mostOf_73
    rw [hx6]
    simp (disch := omega) only [↓reduceIte, ↓q_m1, ↓q_m2, k_o, k_0, k_1, k_2, k_3, k_4, k_5, k_6, k_7, k_8, k_9, k_10, k_11, k_16, k_17, k_19, k_20, k_24, k_26, k_27, k_30, k_32, k_33, k_35, k_40, k_43, k_48, k_50, k_57, k_60, k_64, k_81, k_86, k_34, k_66, k_322, k_97, k_99, k_100, k_122, k_128, k_160, k_161, k_255, k_256, k_512, k_580, k_600, k_1000, k_4096, k_far, k_o, nI_add, n_mul, n_sub, n_div, n_rem, n_lt, n_le, n_eq, n_cl, n_and, n_or, n_xor, m1_lt, lt_m1, m1_eq, eq_m1, le_m1, m1_le, m2_eq, up_eq, up_ne, n_shl, n_shr, b2_some, let_e, ob_some, bI_0, bI_a, bI_t, bI_f, if_true, if_false, ite_true, ite_false, true_and, and_true, false_and, and_false, true_or, or_true, false_or, or_false, not_true_eq_false, not_false_eq_true, ite_not, ne_eq, Bool.true_eq_false, Bool.false_eq_true, reduceCtorEq, decide_true, decide_false, Bool.and_true, Bool.and_false, Bool.true_and, Bool.false_and, Bool.or_true, Bool.or_false, Bool.not_true, Bool.not_false, Nat.add_zero, Nat.zero_add, eq_self, Nat.not_lt_zero, Nat.reduceAdd, Nat.reduceMul, Nat.reduceSub, Nat.reduceDiv, Nat.reduceMod, Nat.reduceAnd, Nat.reduceXor, Nat.reduceEqDiff, Nat.reducePow, lt_T, lt_F, le_T, le_F, eq_F, sw, cR, j_maxn, n_m1, hdiv]
    exact e1
theorem c_most3 {a : Nat} {h : qm_H} {n u : Nat} : ∀ d i h1 fuel, i + d = 4 → d < fuel → qFr (fun q _ => q = 59) h h1 → (∀ w, w < i → h1.1 59 w = nI 0) → ∃ h2, qX4_mostOf_3 fuel 53 a (nI n) (nI u) (nI i) h1 = (qm_b2 (qJ9_min_7cf53 (h2.1 a 2) (nI 6) h2) fun r2 h1 => qX4_mostOf_42 qm_N 53 a (nI n) (nI 0) (nI u) (r2 - nI 1) h1) ∧ qFr (fun q _ => q = 59) h h2 ∧ ∀ w, w < 4 → h2.1 59 w = nI 0 := by
  intro d
  induction d with
  | zero =>
    intro i h1 fuel hi hf F I
    obtain ⟨g, rfl⟩ : ∃ g, fuel = g + 1 := ⟨fuel - 1, by omega⟩
    refine ⟨h1, ?_, F, fun w hw => I w (by omega)⟩
    unfold qX4_mostOf_3
    simp (disch := omega) only [↓reduceIte, ↓q_m1, ↓q_m2, k_o, k_0, k_1, k_2, k_3, k_4, k_5, k_6, k_7, k_8, k_9, k_10, k_11, k_16, k_17, k_19, k_20, k_24, k_26, k_27, k_30, k_32, k_33, k_35, k_40, k_43, k_48, k_50, k_57, k_60, k_64, k_81, k_86, k_34, k_66, k_322, k_97, k_99, k_100, k_122, k_128, k_160, k_161, k_255, k_256, k_512, k_580, k_600, k_1000, k_4096, k_far, k_o, nI_add, n_mul, n_sub, n_div, n_rem, n_lt, n_le, n_eq, n_cl, n_and, n_or, n_xor, m1_lt, lt_m1, m1_eq, eq_m1, le_m1, m1_le, m2_eq, up_eq, up_ne, n_shl, n_shr, b2_some, let_e, ob_some, bI_0, bI_a, bI_t, bI_f, if_true, if_false, ite_true, ite_false, true_and, and_true, false_and, and_false, true_or, or_true, false_or, or_false, not_true_eq_false, not_false_eq_true, ite_not, ne_eq, Bool.true_eq_false, Bool.false_eq_true, reduceCtorEq, decide_true, decide_false, Bool.and_true, Bool.and_false, Bool.true_and, Bool.false_and, Bool.or_true, Bool.or_false, Bool.not_true, Bool.not_false, Nat.add_zero, Nat.zero_add, eq_self, Nat.not_lt_zero, Nat.reduceAdd, Nat.reduceMul, Nat.reduceSub, Nat.reduceDiv, Nat.reduceMod, Nat.reduceAnd, Nat.reduceXor, Nat.reduceEqDiff, Nat.reducePow, lt_T, lt_F, le_T, le_F, eq_F]
  | succ d ih =>
    intro i h1 fuel hi hf F I
    obtain ⟨g, rfl⟩ : ∃ g, fuel = g + 1 := ⟨fuel - 1, by omega⟩
    obtain ⟨h2, e1, e2, e3⟩ := ih (i + 1) (qm_seti h1 59 i (nI 0)) g (by omega) (by omega) (F.trans (qFr.seti rfl)) (fun w hw => by
      by_cases z : w = i
      · rw [z, sI_eq]
      · rw [sI_ne (by omega)]
        exact I w (by omega))
    refine ⟨h2, ?_, e2, e3⟩
    unfold qX4_mostOf_3
    simp (disch := omega) only [↓reduceIte, ↓q_m1, ↓q_m2, k_o, k_0, k_1, k_2, k_3, k_4, k_5, k_6, k_7, k_8, k_9, k_10, k_11, k_16, k_17, k_19, k_20, k_24, k_26, k_27, k_30, k_32, k_33, k_35, k_40, k_43, k_48, k_50, k_57, k_60, k_64, k_81, k_86, k_34, k_66, k_322, k_97, k_99, k_100, k_122, k_128, k_160, k_161, k_255, k_256, k_512, k_580, k_600, k_1000, k_4096, k_far, k_o, nI_add, n_mul, n_sub, n_div, n_rem, n_lt, n_le, n_eq, n_cl, n_and, n_or, n_xor, m1_lt, lt_m1, m1_eq, eq_m1, le_m1, m1_le, m2_eq, up_eq, up_ne, n_shl, n_shr, b2_some, let_e, ob_some, bI_0, bI_a, bI_t, bI_f, if_true, if_false, ite_true, ite_false, true_and, and_true, false_and, and_false, true_or, or_true, false_or, or_false, not_true_eq_false, not_false_eq_true, ite_not, ne_eq, Bool.true_eq_false, Bool.false_eq_true, reduceCtorEq, decide_true, decide_false, Bool.and_true, Bool.and_false, Bool.true_and, Bool.false_and, Bool.or_true, Bool.or_false, Bool.not_true, Bool.not_false, Nat.add_zero, Nat.zero_add, eq_self, Nat.not_lt_zero, Nat.reduceAdd, Nat.reduceMul, Nat.reduceSub, Nat.reduceDiv, Nat.reduceMod, Nat.reduceAnd, Nat.reduceXor, Nat.reduceEqDiff, Nat.reducePow, lt_T, lt_F, le_T, le_F, eq_F]
    exact e1
theorem c_mostOf {a : Nat} {π : qQ} {h : qm_H} (k : pOK π) (C : pC a π h) (ha : a + 2 < 53) {n u : Nat} (hn : 1 ≤ n) (hn4 : n ≤ 4) (hu : u ≤ 5000) : ∃ h2, qX4_mostOf 53 a (nI n) (nI u) h = some (nI (mH (pR π) n (pn π) u), h2) ∧ qFr (fun q _ => q = 58 ∨ q = 59) h h2 ∧ ∀ i, i < pn π → h2.1 58 i = nI (dg n (pn π) u i) := by
  have k1 := k.1
  obtain ⟨h1, e1, e2, e3⟩ := c_most3 (a := a) (h := h) (n := n) (u := u) 4 0 h qm_N (by omega) (by unfold qm_N; omega) (qFr.refl _ _) (fun w hw => absurd hw (Nat.not_lt_zero w))
  have C1 : pC a π h1 := C.mv (fun q r _ _ => (e2 q r (by omega)).1)
  obtain ⟨h2, p1, p2, p3⟩ := c_most42 k C1 ha hn hn4 hu (pn π) 0 h1 qm_N (by omega) (by unfold qm_N; omega) (qFr.refl _ _) (fun w hw => e3 w hw) (fun i hi1 hi2 => by omega)
  have z : mp (shP (pR π) n (pn π) u 0) n = 0 := Nat.le_zero.mp (mp_le.mpr (fun w _ => Nat.le_refl _))
  rw [z, Nat.pow_zero, Nat.div_one, Nat.sub_zero] at p1
  refine ⟨h2, ?_, (e2.mono (fun q r z => Or.inr z)).trans p2, p3⟩
  unfold qX4_mostOf
  rw [k_0, e1, C1.1, j_minn (by omega) (by omega), b2_some, show min (pn π) 6 = pn π by omega]
  exact p1
theorem mH_le {π : qQ} (k : pOK π) (n u : Nat) : mH (pR π) n (pn π) u ≤ 360 := by
  have k1 := k.1
  refine mp_le.mpr (fun w _ => ?_)
  rw [← shP_m]
  exact Nat.le_trans (shP_le (fun r hr => (k.2.2.2.2.1 r hr).2) (pn π) w (Nat.le_refl _)) (by omega)
def bsM (f : Nat → Nat) (bo : Option Nat) : Nat := match bo with
  | none => 1000000
  | some b => f b
theorem c_div43 {a : Nat} {π : qQ} {h : qm_H} (k : pOK π) (C : pC a π h) (ha : a + 2 < 53) {n N : Nat} (hn : 1 ≤ n) (hn4 : n ≤ 4) (hN : N ≤ 5000) : ∀ d u bo h1 fuel, u + d = N → d < fuel → (∀ b, bo = some b → b < N) → qFr (fun q r => q = 58 ∨ q = 59 ∨ (q = 53 ∧ r = 6)) h h1 → h1.1 53 6 = nI (bsM (mH (pR π) n (pn π)) bo) → ∃ h2, qX4_divide_43 fuel 53 a (nI n) (nI N) (nI (bo.getD 0)) (nI u) h1 = some h2 ∧ qFr (fun q r => q = 58 ∨ q = 59 ∨ (q = 53 ∧ r = 6)) h h2 ∧ h2.1 53 6 = nI (bsM (mH (pR π) n (pn π)) (am (fun _ => true) (mH (pR π) n (pn π)) d u bo)) ∧ ∀ i, i < pn π → h2.1 58 i = nI (dg n (pn π) ((am (fun _ => true) (mH (pR π) n (pn π)) d u bo).getD 0) i) := by
  intro d
  induction d with
  | zero =>
    intro u bo h1 fuel hu hf hb F M
    obtain ⟨g, rfl⟩ : ∃ g, fuel = g + 1 := ⟨fuel - 1, by omega⟩
    have C1 : pC a π h1 := C.mv (fun q r _ _ => (F q r (by omega)).1)
    obtain ⟨h2, p1, p2, p3⟩ := c_mostOf k C1 ha (n := n) (u := bo.getD 0) hn hn4 (by
      cases bo with
      | none => exact Nat.zero_le _
      | some b => have := hb b rfl; show b ≤ 5000; omega)
    refine ⟨h2, ?_, F.trans (p2.mono (fun q r z => by omega)), ?_, p3⟩
    · unfold qX4_divide_43
      simp (disch := omega) only [↓reduceIte, ↓q_m1, ↓q_m2, k_o, k_0, k_1, k_2, k_3, k_4, k_5, k_6, k_7, k_8, k_9, k_10, k_11, k_16, k_17, k_19, k_20, k_24, k_26, k_27, k_30, k_32, k_33, k_35, k_40, k_43, k_48, k_50, k_57, k_60, k_64, k_81, k_86, k_34, k_66, k_322, k_97, k_99, k_100, k_122, k_128, k_160, k_161, k_255, k_256, k_512, k_580, k_600, k_1000, k_4096, k_far, k_o, nI_add, n_mul, n_sub, n_div, n_rem, n_lt, n_le, n_eq, n_cl, n_and, n_or, n_xor, m1_lt, lt_m1, m1_eq, eq_m1, le_m1, m1_le, m2_eq, up_eq, up_ne, n_shl, n_shr, b2_some, let_e, ob_some, bI_0, bI_a, bI_t, bI_f, if_true, if_false, ite_true, ite_false, true_and, and_true, false_and, and_false, true_or, or_true, false_or, or_false, not_true_eq_false, not_false_eq_true, ite_not, ne_eq, Bool.true_eq_false, Bool.false_eq_true, reduceCtorEq, decide_true, decide_false, Bool.and_true, Bool.and_false, Bool.true_and, Bool.false_and, Bool.or_true, Bool.or_false, Bool.not_true, Bool.not_false, Nat.add_zero, Nat.zero_add, eq_self, Nat.not_lt_zero, Nat.reduceAdd, Nat.reduceMul, Nat.reduceSub, Nat.reduceDiv, Nat.reduceMod, Nat.reduceAnd, Nat.reduceXor, Nat.reduceEqDiff, Nat.reducePow, lt_T, lt_F, le_T, le_F, eq_F, p1]
    · rw [(p2 53 6 (by omega)).1]
      exact M
  | succ d ih =>
    intro u bo h1 fuel hu hf hb F M
    obtain ⟨g, rfl⟩ : ∃ g, fuel = g + 1 := ⟨fuel - 1, by omega⟩
    have C1 : pC a π h1 := C.mv (fun q r _ _ => (F q r (by omega)).1)
    obtain ⟨h2, p1, p2, p3⟩ := c_mostOf k C1 ha (n := n) (u := u) hn hn4 (by omega)
    have F2 : qFr (fun q r => q = 58 ∨ q = 59 ∨ (q = 53 ∧ r = 6)) h h2 := F.trans (p2.mono (fun q r z => by omega))
    have M2 : h2.1 53 6 = nI (bsM (mH (pR π) n (pn π)) bo) := by
      rw [(p2 53 6 (by omega)).1]
      exact M
    have l1 := mH_le k n u
    have l2 : bsM (mH (pR π) n (pn π)) bo ≤ 1000000 := by
      cases bo with
      | none => exact Nat.le_refl _
      | some b => exact Nat.le_trans (mH_le k n b) (by omega)
    rw [am_S]
    by_cases q : mH (pR π) n (pn π) u < bsM (mH (pR π) n (pn π)) bo
    · have es : amS (fun _ => true) (mH (pR π) n (pn π)) u bo = some u := by
        cases bo with
        | none => rfl
        | some b =>
          show (if (true && decide (mH (pR π) n (pn π) u < mH (pR π) n (pn π) b)) = true then some u else some b) = some u
          rw [decide_eq_true (show mH (pR π) n (pn π) u < mH (pR π) n (pn π) b from q)]
          rfl
      rw [es]
      obtain ⟨h3, e1, e2, e3, e4⟩ := ih (u + 1) (some u) (qm_seti h2 53 6 (nI (mH (pR π) n (pn π) u))) g (by omega) (by omega) (fun b hb => by cases hb; omega) (F2.trans (qFr.seti (Or.inr (Or.inr ⟨rfl, rfl⟩)))) (sI_eq _ _ _ _)
      refine ⟨h3, ?_, e2, e3, e4⟩
      unfold qX4_divide_43
      simp (disch := omega) only [↓reduceIte, ↓q_m1, ↓q_m2, k_o, k_0, k_1, k_2, k_3, k_4, k_5, k_6, k_7, k_8, k_9, k_10, k_11, k_16, k_17, k_19, k_20, k_24, k_26, k_27, k_30, k_32, k_33, k_35, k_40, k_43, k_48, k_50, k_57, k_60, k_64, k_81, k_86, k_34, k_66, k_322, k_97, k_99, k_100, k_122, k_128, k_160, k_161, k_255, k_256, k_512, k_580, k_600, k_1000, k_4096, k_far, k_o, nI_add, n_mul, n_sub, n_div, n_rem, n_lt, n_le, n_eq, n_cl, n_and, n_or, n_xor, m1_lt, lt_m1, m1_eq, eq_m1, le_m1, m1_le, m2_eq, up_eq, up_ne, n_shl, n_shr, b2_some, let_e, ob_some, bI_0, bI_a, bI_t, bI_f, if_true, if_false, ite_true, ite_false, true_and, and_true, false_and, and_false, true_or, or_true, false_or, or_false, not_true_eq_false, not_false_eq_true, ite_not, ne_eq, Bool.true_eq_false, Bool.false_eq_true, reduceCtorEq, decide_true, decide_false, Bool.and_true, Bool.and_false, Bool.true_and, Bool.false_and, Bool.or_true, Bool.or_false, Bool.not_true, Bool.not_false, Nat.add_zero, Nat.zero_add, eq_self, Nat.not_lt_zero, Nat.reduceAdd, Nat.reduceMul, Nat.reduceSub, Nat.reduceDiv, Nat.reduceMod, Nat.reduceAnd, Nat.reduceXor, Nat.reduceEqDiff, Nat.reducePow, lt_T, lt_F, le_T, le_F, eq_F, p1, M2]
      exact e1
    · have es : amS (fun _ => true) (mH (pR π) n (pn π)) u bo = bo := by
        cases bo with
        | none => exact absurd (show mH (pR π) n (pn π) u < 1000000 by omega) q
        | some b =>
          show (if (true && decide (mH (pR π) n (pn π) u < mH (pR π) n (pn π) b)) = true then some u else some b) = some b
          rw [decide_eq_false (show ¬ mH (pR π) n (pn π) u < mH (pR π) n (pn π) b from q)]
          rfl
      rw [es]
      obtain ⟨h3, e1, e2, e3, e4⟩ := ih (u + 1) bo h2 g (by omega) (by omega) hb F2 M2
      refine ⟨h3, ?_, e2, e3, e4⟩
      unfold qX4_divide_43
      simp (disch := omega) only [↓reduceIte, ↓q_m1, ↓q_m2, k_o, k_0, k_1, k_2, k_3, k_4, k_5, k_6, k_7, k_8, k_9, k_10, k_11, k_16, k_17, k_19, k_20, k_24, k_26, k_27, k_30, k_32, k_33, k_35, k_40, k_43, k_48, k_50, k_57, k_60, k_64, k_81, k_86, k_34, k_66, k_322, k_97, k_99, k_100, k_122, k_128, k_160, k_161, k_255, k_256, k_512, k_580, k_600, k_1000, k_4096, k_far, k_o, nI_add, n_mul, n_sub, n_div, n_rem, n_lt, n_le, n_eq, n_cl, n_and, n_or, n_xor, m1_lt, lt_m1, m1_eq, eq_m1, le_m1, m1_le, m2_eq, up_eq, up_ne, n_shl, n_shr, b2_some, let_e, ob_some, bI_0, bI_a, bI_t, bI_f, if_true, if_false, ite_true, ite_false, true_and, and_true, false_and, and_false, true_or, or_true, false_or, or_false, not_true_eq_false, not_false_eq_true, ite_not, ne_eq, Bool.true_eq_false, Bool.false_eq_true, reduceCtorEq, decide_true, decide_false, Bool.and_true, Bool.and_false, Bool.true_and, Bool.false_and, Bool.or_true, Bool.or_false, Bool.not_true, Bool.not_false, Nat.add_zero, Nat.zero_add, eq_self, Nat.not_lt_zero, Nat.reduceAdd, Nat.reduceMul, Nat.reduceSub, Nat.reduceDiv, Nat.reduceMod, Nat.reduceAnd, Nat.reduceXor, Nat.reduceEqDiff, Nat.reducePow, lt_T, lt_F, le_T, le_F, eq_F, p1, M2]
      exact e1
theorem pw_le {n m : Nat} (hn : 1 ≤ n) (hn4 : n ≤ 4) (hm : m ≤ 6) : 1 ≤ n ^ m ∧ n ^ m ≤ 4096 := by
  refine ⟨Nat.pow_pos hn, ?_⟩
  exact Nat.le_trans (Nat.pow_le_pow_left hn4 m) (Nat.pow_le_pow_right (by omega) hm)
theorem c_div5 {a : Nat} {π : qQ} {h : qm_H} (k : pOK π) (C : pC a π h) {n : Nat} (hn : 1 ≤ n) (hn4 : n ≤ 4) : ∀ d i fuel, i + d = max 1 (pn π) → 1 ≤ i → d < fuel → qX4_divide_5 fuel 53 a (nI n) (nI (n ^ (i - 1))) (nI i) h = qX4_divide_43 qm_N 53 a (nI n) (nI (n ^ (pn π - 1))) (nI 0) (nI 0) (qm_seti h 53 6 (nI 1000000)) := by
  have k1 := k.1
  have c1 := C.1
  intro d
  induction d with
  | zero =>
    intro i fuel hi hi1 hf
    obtain ⟨g, rfl⟩ : ∃ g, fuel = g + 1 := ⟨fuel - 1, by omega⟩
    rw [show pn π - 1 = i - 1 by omega]
    unfold qX4_divide_5
    simp (disch := omega) only [↓reduceIte, ↓q_m1, ↓q_m2, k_o, k_0, k_1, k_2, k_3, k_4, k_5, k_6, k_7, k_8, k_9, k_10, k_11, k_16, k_17, k_19, k_20, k_24, k_26, k_27, k_30, k_32, k_33, k_35, k_40, k_43, k_48, k_50, k_57, k_60, k_64, k_81, k_86, k_34, k_66, k_322, k_97, k_99, k_100, k_122, k_128, k_160, k_161, k_255, k_256, k_512, k_580, k_600, k_1000, k_4096, k_far, k_o, nI_add, n_mul, n_sub, n_div, n_rem, n_lt, n_le, n_eq, n_cl, n_and, n_or, n_xor, m1_lt, lt_m1, m1_eq, eq_m1, le_m1, m1_le, m2_eq, up_eq, up_ne, n_shl, n_shr, b2_some, let_e, ob_some, bI_0, bI_a, bI_t, bI_f, if_true, if_false, ite_true, ite_false, true_and, and_true, false_and, and_false, true_or, or_true, false_or, or_false, not_true_eq_false, not_false_eq_true, ite_not, ne_eq, Bool.true_eq_false, Bool.false_eq_true, reduceCtorEq, decide_true, decide_false, Bool.and_true, Bool.and_false, Bool.true_and, Bool.false_and, Bool.or_true, Bool.or_false, Bool.not_true, Bool.not_false, Nat.add_zero, Nat.zero_add, eq_self, Nat.not_lt_zero, Nat.reduceAdd, Nat.reduceMul, Nat.reduceSub, Nat.reduceDiv, Nat.reduceMod, Nat.reduceAnd, Nat.reduceXor, Nat.reduceEqDiff, Nat.reducePow, lt_T, lt_F, le_T, le_F, eq_F, c1]
  | succ d ih =>
    intro i fuel hi hi1 hf
    obtain ⟨g, rfl⟩ : ∃ g, fuel = g + 1 := ⟨fuel - 1, by omega⟩
    have := ih (i + 1) g (by omega) (by omega) (by omega)
    rw [show i + 1 - 1 = (i - 1) + 1 by omega, Nat.pow_succ] at this
    rw [← this]
    generalize eF : qX4_divide_5 g = F
    unfold qX4_divide_5
    simp (disch := omega) only [↓reduceIte, ↓q_m1, ↓q_m2, k_o, k_0, k_1, k_2, k_3, k_4, k_5, k_6, k_7, k_8, k_9, k_10, k_11, k_16, k_17, k_19, k_20, k_24, k_26, k_27, k_30, k_32, k_33, k_35, k_40, k_43, k_48, k_50, k_57, k_60, k_64, k_81, k_86, k_34, k_66, k_322, k_97, k_99, k_100, k_122, k_128, k_160, k_161, k_255, k_256, k_512, k_580, k_600, k_1000, k_4096, k_far, k_o, nI_add, n_mul, n_sub, n_div, n_rem, n_lt, n_le, n_eq, n_cl, n_and, n_or, n_xor, m1_lt, lt_m1, m1_eq, eq_m1, le_m1, m1_le, m2_eq, up_eq, up_ne, n_shl, n_shr, b2_some, let_e, ob_some, bI_0, bI_a, bI_t, bI_f, if_true, if_false, ite_true, ite_false, true_and, and_true, false_and, and_false, true_or, or_true, false_or, or_false, not_true_eq_false, not_false_eq_true, ite_not, ne_eq, Bool.true_eq_false, Bool.false_eq_true, reduceCtorEq, decide_true, decide_false, Bool.and_true, Bool.and_false, Bool.true_and, Bool.false_and, Bool.or_true, Bool.or_false, Bool.not_true, Bool.not_false, Nat.add_zero, Nat.zero_add, eq_self, Nat.not_lt_zero, Nat.reduceAdd, Nat.reduceMul, Nat.reduceSub, Nat.reduceDiv, Nat.reduceMod, Nat.reduceAnd, Nat.reduceXor, Nat.reduceEqDiff, Nat.reducePow, lt_T, lt_F, le_T, le_F, eq_F, c1, eF]
theorem c_divide {a : Nat} {π : qQ} {h : qm_H} (k : pOK π) (C : pC a π h) (ha : a + 2 < 53) {n : Nat} (hn : 1 ≤ n) (hn4 : n ≤ 4) : ∃ h2, qX4_divide 53 a (nI n) h = some h2 ∧ qFr (fun q r => q = 58 ∨ q = 59 ∨ (q = 53 ∧ r = 6)) h h2 ∧ h2.1 53 6 = nI (bsM (mH (pR π) n (pn π)) (am (fun _ => true) (mH (pR π) n (pn π)) (n ^ (pn π)) 0 none)) ∧ ∀ i, i < pn π → h2.1 58 i = nI (dg n (pn π) ((am (fun _ => true) (mH (pR π) n (pn π)) (n ^ (pn π)) 0 none).getD 0) i) := by
  have k1 := k.1
  have hp := pw_le hn hn4 (show pn π - 1 ≤ 6 by omega)
  have C1 : pC a π (qm_seti h 53 6 (nI 1000000)) := C.mv (fun q r _ _ => sI_ne (by omega))
  obtain ⟨h2, e1, e2, e3, e4⟩ := c_div43 k C1 ha hn hn4 (N := n ^ (pn π - 1)) (by omega) (n ^ (pn π - 1)) 0 none (qm_seti h 53 6 (nI 1000000)) qm_N (by omega) (by unfold qm_N; omega) (fun b hb => by cases hb) (qFr.refl _ _) (sI_eq _ _ _ _)
  rw [am_rows (pR π) (m := pn π) hn]
  refine ⟨h2, ?_, (qFr.seti (Or.inr (Or.inr ⟨rfl, rfl⟩))).trans e2, e3, e4⟩
  have o := c_div5 k C hn hn4 (max 1 (pn π) - 1) 1 qm_N (by omega) (by omega) (by unfold qm_N; omega)
  rw [Nat.sub_self, Nat.pow_zero] at o
  unfold qX4_divide
  rw [k_1, o]
  exact e1
/-! the reference's -/
theorem m_owner_l {n : Nat} (hn : 1 ≤ n) (hn4 : n ≤ 4) {p : Nat} (hp : p ≤ 6) {u : Nat} (hu : u ≤ 5000) (h : qm_H) : ∀ d i fuel, i + d = p → d < fuel → qX12_ownerOf_5 fuel (nI n) (nI p) (nI (u / n ^ i)) (nI i) h = some (nI (u / n ^ p % n), h) := by
  intro d
  induction d with
  | zero =>
    intro i fuel hi hf
    obtain ⟨g, rfl⟩ : ∃ g, fuel = g + 1 := ⟨fuel - 1, by omega⟩
    have : i = p := by omega
    subst this
    have hl : u / n ^ i ≤ u := Nat.div_le_self _ _
    unfold qX12_ownerOf_5
    simp (disch := omega) only [↓reduceIte, ↓q_m1, ↓q_m2, k_o, k_0, k_1, k_2, k_3, k_4, k_5, k_6, k_7, k_8, k_9, k_10, k_11, k_16, k_17, k_19, k_20, k_24, k_26, k_27, k_30, k_32, k_33, k_35, k_40, k_43, k_48, k_50, k_57, k_60, k_64, k_81, k_86, k_34, k_66, k_322, k_97, k_99, k_100, k_122, k_128, k_160, k_161, k_255, k_256, k_512, k_580, k_600, k_1000, k_4096, k_far, k_o, nI_add, n_mul, n_sub, n_div, n_rem, n_lt, n_le, n_eq, n_cl, n_and, n_or, n_xor, m1_lt, lt_m1, m1_eq, eq_m1, le_m1, m1_le, m2_eq, up_eq, up_ne, n_shl, n_shr, b2_some, let_e, ob_some, bI_0, bI_a, bI_t, bI_f, if_true, if_false, ite_true, ite_false, true_and, and_true, false_and, and_false, true_or, or_true, false_or, or_false, not_true_eq_false, not_false_eq_true, ite_not, ne_eq, Bool.true_eq_false, Bool.false_eq_true, reduceCtorEq, decide_true, decide_false, Bool.and_true, Bool.and_false, Bool.true_and, Bool.false_and, Bool.or_true, Bool.or_false, Bool.not_true, Bool.not_false, Nat.add_zero, Nat.zero_add, eq_self, Nat.not_lt_zero, Nat.reduceAdd, Nat.reduceMul, Nat.reduceSub, Nat.reduceDiv, Nat.reduceMod, Nat.reduceAnd, Nat.reduceXor, Nat.reduceEqDiff, Nat.reducePow, lt_T, lt_F, le_T, le_F, eq_F]
  | succ d ih =>
    intro i fuel hi hf
    obtain ⟨g, rfl⟩ : ∃ g, fuel = g + 1 := ⟨fuel - 1, by omega⟩
    have hl : u / n ^ i ≤ u := Nat.div_le_self _ _
    have := ih (i + 1) g (by omega) (by omega)
    rw [Nat.pow_succ, ← Nat.div_div_eq_div_mul] at this
    unfold qX12_ownerOf_5
    simp (disch := omega) only [↓reduceIte, ↓q_m1, ↓q_m2, k_o, k_0, k_1, k_2, k_3, k_4, k_5, k_6, k_7, k_8, k_9, k_10, k_11, k_16, k_17, k_19, k_20, k_24, k_26, k_27, k_30, k_32, k_33, k_35, k_40, k_43, k_48, k_50, k_57, k_60, k_64, k_81, k_86, k_34, k_66, k_322, k_97, k_99, k_100, k_122, k_128, k_160, k_161, k_255, k_256, k_512, k_580, k_600, k_1000, k_4096, k_far, k_o, nI_add, n_mul, n_sub, n_div, n_rem, n_lt, n_le, n_eq, n_cl, n_and, n_or, n_xor, m1_lt, lt_m1, m1_eq, eq_m1, le_m1, m1_le, m2_eq, up_eq, up_ne, n_shl, n_shr, b2_some, let_e, ob_some, bI_0, bI_a, bI_t, bI_f, if_true, if_false, ite_true, ite_false, true_and, and_true, false_and, and_false, true_or, or_true, false_or, or_false, not_true_eq_false, not_false_eq_true, ite_not, ne_eq, Bool.true_eq_false, Bool.false_eq_true, reduceCtorEq, decide_true, decide_false, Bool.and_true, Bool.and_false, Bool.true_and, Bool.false_and, Bool.or_true, Bool.or_false, Bool.not_true, Bool.not_false, Nat.add_zero, Nat.zero_add, eq_self, Nat.not_lt_zero, Nat.reduceAdd, Nat.reduceMul, Nat.reduceSub, Nat.reduceDiv, Nat.reduceMod, Nat.reduceAnd, Nat.reduceXor, Nat.reduceEqDiff, Nat.reducePow, lt_T, lt_F, le_T, le_F, eq_F]
    exact this
theorem m_owner {n : Nat} (hn : 1 ≤ n) (hn4 : n ≤ 4) {p : Nat} (hp : p ≤ 6) {u : Nat} (hu : u ≤ 5000) (h : qm_H) : qX12_ownerOf (nI u) (nI n) (nI p) h = some (nI (u / n ^ p % n), h) := by
  unfold qX12_ownerOf
  have := m_owner_l hn hn4 hp hu h p 0 qm_N (by omega) (by unfold qm_N; omega)
  rw [Nat.pow_zero, Nat.div_one] at this
  exact this
theorem m_had17 {i0 : Nat} {π : qQ} {h : qm_H} (hi0 : i0 < 2) (k : pOK π) (M : pM i0 π h) {n u w m : Nat} (hn : 1 ≤ n) (hn4 : n ≤ 4) (hu : u ≤ 5000) (hw : w < n) (hm : m ≤ 1000) (K : Nat → Int32 → Int32 → Int32 → Int32 → qm_H → Option (Int32 × qm_H)) : ∀ d r s fuel, r + d = pn π → d < fuel → s = fb_sm (fun r => if dg n (pn π) u r = w then pR π r else 0) r → qX12_mostHad_17 K fuel 62 (nI u) (nI n) (nI m) (nI w) (nI s) (nI r) h = K 62 (nI u) (nI n) (nI (max m (shr (pR π) n (pn π) u w))) (nI (w + 1)) h := by
  obtain ⟨k1, k2, k3, k4, k5, k6⟩ := k
  obtain ⟨b1, b2, b3, b4, b5, b6, b7, b8⟩ := M
  have bnd : ∀ r, r ≤ pn π → fb_sm (fun r => if dg n (pn π) u r = w then pR π r else 0) r ≤ r * 60 := fun r hr => fb_sm_bound (fun q hq => by
    have := (k5 q (by omega)).2
    split <;> omega)
  intro d
  induction d with
  | zero =>
    intro r s fuel hr hf hs
    obtain ⟨g, rfl⟩ : ∃ g, fuel = g + 1 := ⟨fuel - 1, by omega⟩
    have : r = pn π := by omega
    subst this
    have := bnd (pn π) (Nat.le_refl _)
    have e : shr (pR π) n (pn π) u w = s := hs.symm
    unfold qX12_mostHad_17
    rw [e]
    simp (disch := omega) only [↓reduceIte, ↓q_m1, ↓q_m2, k_o, k_0, k_1, k_2, k_3, k_4, k_5, k_6, k_7, k_8, k_9, k_10, k_11, k_16, k_17, k_19, k_20, k_24, k_26, k_27, k_30, k_32, k_33, k_35, k_40, k_43, k_48, k_50, k_57, k_60, k_64, k_81, k_86, k_34, k_66, k_322, k_97, k_99, k_100, k_122, k_128, k_160, k_161, k_255, k_256, k_512, k_580, k_600, k_1000, k_4096, k_far, k_o, nI_add, n_mul, n_sub, n_div, n_rem, n_lt, n_le, n_eq, n_cl, n_and, n_or, n_xor, m1_lt, lt_m1, m1_eq, eq_m1, le_m1, m1_le, m2_eq, up_eq, up_ne, n_shl, n_shr, b2_some, let_e, ob_some, bI_0, bI_a, bI_t, bI_f, if_true, if_false, ite_true, ite_false, true_and, and_true, false_and, and_false, true_or, or_true, false_or, or_false, not_true_eq_false, not_false_eq_true, ite_not, ne_eq, Bool.true_eq_false, Bool.false_eq_true, reduceCtorEq, decide_true, decide_false, Bool.and_true, Bool.and_false, Bool.true_and, Bool.false_and, Bool.or_true, Bool.or_false, Bool.not_true, Bool.not_false, Nat.add_zero, Nat.zero_add, eq_self, Nat.not_lt_zero, Nat.reduceAdd, Nat.reduceMul, Nat.reduceSub, Nat.reduceDiv, Nat.reduceMod, Nat.reduceAnd, Nat.reduceXor, Nat.reduceEqDiff, Nat.reducePow, lt_T, lt_F, le_T, le_F, eq_F, b2, m_gr]
  | succ d ih =>
    intro r s fuel hr hf hs
    obtain ⟨g, rfl⟩ : ∃ g, fuel = g + 1 := ⟨fuel - 1, by omega⟩
    have o := m_owner hn hn4 (p := pn π - 1 - r) (by omega) hu h
    have ed : u / n ^ (pn π - 1 - r) % n = dg n (pn π) u r := rfl
    rw [ed] at o
    have hdl : dg n (pn π) u r < n := Nat.mod_lt _ (by omega)
    have hsb := bnd r (by omega)
    have hrb := k5 r (by omega)
    have b9 := b7 r (by omega)
    unfold qX12_mostHad_17 qX12_rod
    by_cases z : dg n (pn π) u r = w
    · simp (disch := omega) only [↓reduceIte, ↓q_m1, ↓q_m2, k_o, k_0, k_1, k_2, k_3, k_4, k_5, k_6, k_7, k_8, k_9, k_10, k_11, k_16, k_17, k_19, k_20, k_24, k_26, k_27, k_30, k_32, k_33, k_35, k_40, k_43, k_48, k_50, k_57, k_60, k_64, k_81, k_86, k_34, k_66, k_322, k_97, k_99, k_100, k_122, k_128, k_160, k_161, k_255, k_256, k_512, k_580, k_600, k_1000, k_4096, k_far, k_o, nI_add, n_mul, n_sub, n_div, n_rem, n_lt, n_le, n_eq, n_cl, n_and, n_or, n_xor, m1_lt, lt_m1, m1_eq, eq_m1, le_m1, m1_le, m2_eq, up_eq, up_ne, n_shl, n_shr, b2_some, let_e, ob_some, bI_0, bI_a, bI_t, bI_f, if_true, if_false, ite_true, ite_false, true_and, and_true, false_and, and_false, true_or, or_true, false_or, or_false, not_true_eq_false, not_false_eq_true, ite_not, ne_eq, Bool.true_eq_false, Bool.false_eq_true, reduceCtorEq, decide_true, decide_false, Bool.and_true, Bool.and_false, Bool.true_and, Bool.false_and, Bool.or_true, Bool.or_false, Bool.not_true, Bool.not_false, Nat.add_zero, Nat.zero_add, eq_self, Nat.not_lt_zero, Nat.reduceAdd, Nat.reduceMul, Nat.reduceSub, Nat.reduceDiv, Nat.reduceMod, Nat.reduceAnd, Nat.reduceXor, Nat.reduceEqDiff, Nat.reducePow, lt_T, lt_F, le_T, le_F, eq_F, b2, o, z, m_pOf hi0 b1 (j := 3 + r), b9]
      exact ih (r + 1) _ g (by omega) (by omega) (by rw [fb_sm_succ, ← hs, if_pos z])
    · simp (disch := omega) only [↓reduceIte, ↓q_m1, ↓q_m2, k_o, k_0, k_1, k_2, k_3, k_4, k_5, k_6, k_7, k_8, k_9, k_10, k_11, k_16, k_17, k_19, k_20, k_24, k_26, k_27, k_30, k_32, k_33, k_35, k_40, k_43, k_48, k_50, k_57, k_60, k_64, k_81, k_86, k_34, k_66, k_322, k_97, k_99, k_100, k_122, k_128, k_160, k_161, k_255, k_256, k_512, k_580, k_600, k_1000, k_4096, k_far, k_o, nI_add, n_mul, n_sub, n_div, n_rem, n_lt, n_le, n_eq, n_cl, n_and, n_or, n_xor, m1_lt, lt_m1, m1_eq, eq_m1, le_m1, m1_le, m2_eq, up_eq, up_ne, n_shl, n_shr, b2_some, let_e, ob_some, bI_0, bI_a, bI_t, bI_f, if_true, if_false, ite_true, ite_false, true_and, and_true, false_and, and_false, true_or, or_true, false_or, or_false, not_true_eq_false, not_false_eq_true, ite_not, ne_eq, Bool.true_eq_false, Bool.false_eq_true, reduceCtorEq, decide_true, decide_false, Bool.and_true, Bool.and_false, Bool.true_and, Bool.false_and, Bool.or_true, Bool.or_false, Bool.not_true, Bool.not_false, Nat.add_zero, Nat.zero_add, eq_self, Nat.not_lt_zero, Nat.reduceAdd, Nat.reduceMul, Nat.reduceSub, Nat.reduceDiv, Nat.reduceMod, Nat.reduceAnd, Nat.reduceXor, Nat.reduceEqDiff, Nat.reducePow, lt_T, lt_F, le_T, le_F, eq_F, b2, o]
      exact ih (r + 1) _ g (by omega) (by omega) (by rw [fb_sm_succ, ← hs, if_neg z]; rfl)
theorem shr_le {π : qQ} (k : pOK π) (n u w : Nat) : shr (pR π) n (pn π) u w ≤ 360 := by
  have k1 := k.1
  rw [← shP_m]
  exact Nat.le_trans (shP_le (fun r hr => (k.2.2.2.2.1 r hr).2) (pn π) w (Nat.le_refl _)) (by omega)
theorem m_had5 {i0 : Nat} {π : qQ} {h : qm_H} (hi0 : i0 < 2) (k : pOK π) (M : pM i0 π h) {n u : Nat} (hn : 1 ≤ n) (hn4 : n ≤ 4) (hu : u ≤ 5000) : ∀ d w fuel, w + d = n → d < fuel → qX12_mostHad_5 fuel 62 (nI u) (nI n) (nI (mp (shr (pR π) n (pn π) u) w)) (nI w) h = some (nI (mH (pR π) n (pn π) u), h) := by
  have k1 := k.1
  intro d
  induction d with
  | zero =>
    intro w fuel hw hf
    obtain ⟨g, rfl⟩ : ∃ g, fuel = g + 1 := ⟨fuel - 1, by omega⟩
    have : w = n := by omega
    subst this
    unfold qX12_mostHad_5
    simp (disch := omega) only [↓reduceIte, ↓q_m1, ↓q_m2, k_o, k_0, k_1, k_2, k_3, k_4, k_5, k_6, k_7, k_8, k_9, k_10, k_11, k_16, k_17, k_19, k_20, k_24, k_26, k_27, k_30, k_32, k_33, k_35, k_40, k_43, k_48, k_50, k_57, k_60, k_64, k_81, k_86, k_34, k_66, k_322, k_97, k_99, k_100, k_122, k_128, k_160, k_161, k_255, k_256, k_512, k_580, k_600, k_1000, k_4096, k_far, k_o, nI_add, n_mul, n_sub, n_div, n_rem, n_lt, n_le, n_eq, n_cl, n_and, n_or, n_xor, m1_lt, lt_m1, m1_eq, eq_m1, le_m1, m1_le, m2_eq, up_eq, up_ne, n_shl, n_shr, b2_some, let_e, ob_some, bI_0, bI_a, bI_t, bI_f, if_true, if_false, ite_true, ite_false, true_and, and_true, false_and, and_false, true_or, or_true, false_or, or_false, not_true_eq_false, not_false_eq_true, ite_not, ne_eq, Bool.true_eq_false, Bool.false_eq_true, reduceCtorEq, decide_true, decide_false, Bool.and_true, Bool.and_false, Bool.true_and, Bool.false_and, Bool.or_true, Bool.or_false, Bool.not_true, Bool.not_false, Nat.add_zero, Nat.zero_add, eq_self, Nat.not_lt_zero, Nat.reduceAdd, Nat.reduceMul, Nat.reduceSub, Nat.reduceDiv, Nat.reduceMod, Nat.reduceAnd, Nat.reduceXor, Nat.reduceEqDiff, Nat.reducePow, lt_T, lt_F, le_T, le_F, eq_F]
    rfl
  | succ d ih =>
    intro w fuel hw hf
    obtain ⟨g, rfl⟩ : ∃ g, fuel = g + 1 := ⟨fuel - 1, by omega⟩
    have hb : mp (shr (pR π) n (pn π) u) w ≤ 360 := mp_le.mpr (fun v _ => shr_le k n u v)
    have o := m_had17 hi0 k M (n := n) (u := u) (w := w) (m := mp (shr (pR π) n (pn π) u) w) hn hn4 hu (by omega) (by omega) (qX12_mostHad_5 g) (pn π) 0 0 qm_N (by omega) (by unfold qm_N; omega) rfl
    unfold qX12_mostHad_5
    simp (disch := omega) only [↓reduceIte, ↓q_m1, ↓q_m2, k_o, k_0, k_1, k_2, k_3, k_4, k_5, k_6, k_7, k_8, k_9, k_10, k_11, k_16, k_17, k_19, k_20, k_24, k_26, k_27, k_30, k_32, k_33, k_35, k_40, k_43, k_48, k_50, k_57, k_60, k_64, k_81, k_86, k_34, k_66, k_322, k_97, k_99, k_100, k_122, k_128, k_160, k_161, k_255, k_256, k_512, k_580, k_600, k_1000, k_4096, k_far, k_o, nI_add, n_mul, n_sub, n_div, n_rem, n_lt, n_le, n_eq, n_cl, n_and, n_or, n_xor, m1_lt, lt_m1, m1_eq, eq_m1, le_m1, m1_le, m2_eq, up_eq, up_ne, n_shl, n_shr, b2_some, let_e, ob_some, bI_0, bI_a, bI_t, bI_f, if_true, if_false, ite_true, ite_false, true_and, and_true, false_and, and_false, true_or, or_true, false_or, or_false, not_true_eq_false, not_false_eq_true, ite_not, ne_eq, Bool.true_eq_false, Bool.false_eq_true, reduceCtorEq, decide_true, decide_false, Bool.and_true, Bool.and_false, Bool.true_and, Bool.false_and, Bool.or_true, Bool.or_false, Bool.not_true, Bool.not_false, Nat.add_zero, Nat.zero_add, eq_self, Nat.not_lt_zero, Nat.reduceAdd, Nat.reduceMul, Nat.reduceSub, Nat.reduceDiv, Nat.reduceMod, Nat.reduceAnd, Nat.reduceXor, Nat.reduceEqDiff, Nat.reducePow, lt_T, lt_F, le_T, le_F, eq_F]
    rw [o]
    exact ih (w + 1) g (by omega) (by omega)
theorem m_had {i0 : Nat} {π : qQ} {h : qm_H} (hi0 : i0 < 2) (k : pOK π) (M : pM i0 π h) {n u : Nat} (hn : 1 ≤ n) (hn4 : n ≤ 4) (hu : u ≤ 5000) : qX12_mostHad 62 (nI u) (nI n) h = some (nI (mH (pR π) n (pn π) u), h) := by
  unfold qX12_mostHad
  exact m_had5 hi0 k M hn hn4 hu n 0 qm_N (by omega) (by unfold qm_N; omega)
theorem m_div76 {i0 : Nat} {π : qQ} {h : qm_H} (hi0 : i0 < 2) (k : pOK π) (M : pM i0 π h) {n N : Nat} (hn : 1 ≤ n) (hn4 : n ≤ 4) (hN : N ≤ 5000) {x : Int32} (hx : x = m1 ∨ ∃ j, j < pn π ∧ x = nI j) : ∀ d u bo fuel, u + d = N → d < fuel → (∀ b, bo = some b → b < N) → qX12_divided_76 fuel 62 (nI n) x (nI N) (nI (bo.getD 0)) (nI (bsM (mH (pR π) n (pn π)) bo)) (nI u) h = some (if x = m1 then nI (bsM (mH (pR π) n (pn π)) (am (fun _ => true) (mH (pR π) n (pn π)) d u bo)) else nI (dg n (pn π) ((am (fun _ => true) (mH (pR π) n (pn π)) d u bo).getD 0) x.toNatClampNeg), h) := by
  have k1 := k.1
  have b2 := M.2.1
  intro d
  induction d with
  | zero =>
    intro u bo fuel hu hf hb
    obtain ⟨g, rfl⟩ : ∃ g, fuel = g + 1 := ⟨fuel - 1, by omega⟩
    have hbb : bo.getD 0 ≤ 5000 := by
      cases bo with
      | none => exact Nat.zero_le _
      | some b => have := hb b rfl; show b ≤ 5000; omega
    unfold qX12_divided_76
    rcases hx with rfl | ⟨j, hj, rfl⟩
    · simp (disch := omega) only [↓reduceIte, ↓q_m1, ↓q_m2, k_o, k_0, k_1, k_2, k_3, k_4, k_5, k_6, k_7, k_8, k_9, k_10, k_11, k_16, k_17, k_19, k_20, k_24, k_26, k_27, k_30, k_32, k_33, k_35, k_40, k_43, k_48, k_50, k_57, k_60, k_64, k_81, k_86, k_34, k_66, k_322, k_97, k_99, k_100, k_122, k_128, k_160, k_161, k_255, k_256, k_512, k_580, k_600, k_1000, k_4096, k_far, k_o, nI_add, n_mul, n_sub, n_div, n_rem, n_lt, n_le, n_eq, n_cl, n_and, n_or, n_xor, m1_lt, lt_m1, m1_eq, eq_m1, le_m1, m1_le, m2_eq, up_eq, up_ne, n_shl, n_shr, b2_some, let_e, ob_some, bI_0, bI_a, bI_t, bI_f, if_true, if_false, ite_true, ite_false, true_and, and_true, false_and, and_false, true_or, or_true, false_or, or_false, not_true_eq_false, not_false_eq_true, ite_not, ne_eq, Bool.true_eq_false, Bool.false_eq_true, reduceCtorEq, decide_true, decide_false, Bool.and_true, Bool.and_false, Bool.true_and, Bool.false_and, Bool.or_true, Bool.or_false, Bool.not_true, Bool.not_false, Nat.add_zero, Nat.zero_add, eq_self, Nat.not_lt_zero, Nat.reduceAdd, Nat.reduceMul, Nat.reduceSub, Nat.reduceDiv, Nat.reduceMod, Nat.reduceAnd, Nat.reduceXor, Nat.reduceEqDiff, Nat.reducePow, lt_T, lt_F, le_T, le_F, eq_F]
      rfl
    · have o := m_owner hn hn4 (p := pn π - 1 - j) (by omega) (u := bo.getD 0) hbb h
      simp (disch := omega) only [↓reduceIte, ↓q_m1, ↓q_m2, k_o, k_0, k_1, k_2, k_3, k_4, k_5, k_6, k_7, k_8, k_9, k_10, k_11, k_16, k_17, k_19, k_20, k_24, k_26, k_27, k_30, k_32, k_33, k_35, k_40, k_43, k_48, k_50, k_57, k_60, k_64, k_81, k_86, k_34, k_66, k_322, k_97, k_99, k_100, k_122, k_128, k_160, k_161, k_255, k_256, k_512, k_580, k_600, k_1000, k_4096, k_far, k_o, nI_add, n_mul, n_sub, n_div, n_rem, n_lt, n_le, n_eq, n_cl, n_and, n_or, n_xor, m1_lt, lt_m1, m1_eq, eq_m1, le_m1, m1_le, m2_eq, up_eq, up_ne, n_shl, n_shr, b2_some, let_e, ob_some, bI_0, bI_a, bI_t, bI_f, if_true, if_false, ite_true, ite_false, true_and, and_true, false_and, and_false, true_or, or_true, false_or, or_false, not_true_eq_false, not_false_eq_true, ite_not, ne_eq, Bool.true_eq_false, Bool.false_eq_true, reduceCtorEq, decide_true, decide_false, Bool.and_true, Bool.and_false, Bool.true_and, Bool.false_and, Bool.or_true, Bool.or_false, Bool.not_true, Bool.not_false, Nat.add_zero, Nat.zero_add, eq_self, Nat.not_lt_zero, Nat.reduceAdd, Nat.reduceMul, Nat.reduceSub, Nat.reduceDiv, Nat.reduceMod, Nat.reduceAnd, Nat.reduceXor, Nat.reduceEqDiff, Nat.reducePow, lt_T, lt_F, le_T, le_F, eq_F, b2, o]
      rfl
  | succ d ih =>
    intro u bo fuel hu hf hb
    obtain ⟨g, rfl⟩ : ∃ g, fuel = g + 1 := ⟨fuel - 1, by omega⟩
    have o := m_had hi0 k M (n := n) (u := u) hn hn4 (by omega)
    have l1 := mH_le k n u
    have l2 : bsM (mH (pR π) n (pn π)) bo ≤ 1000000 := by
      cases bo with
      | none => exact Nat.le_refl _
      | some b => exact Nat.le_trans (mH_le k n b) (by omega)
    rw [am_S]
    by_cases q : mH (pR π) n (pn π) u < bsM (mH (pR π) n (pn π)) bo
    · have es : amS (fun _ => true) (mH (pR π) n (pn π)) u bo = some u := by
        cases bo with
        | none => rfl
        | some b =>
          show (if (true && decide (mH (pR π) n (pn π) u < mH (pR π) n (pn π) b)) = true then some u else some b) = some u
          rw [decide_eq_true (show mH (pR π) n (pn π) u < mH (pR π) n (pn π) b from q)]
          rfl
      have K := ih (u + 1) (some u) g (by omega) (by omega) (fun b hb => by cases hb; omega)
      rw [es, ← K]
      generalize eF : qX12_divided_76 g = F
      unfold qX12_divided_76 qX12_divided_106
      simp (disch := omega) only [↓reduceIte, ↓q_m1, ↓q_m2, k_o, k_0, k_1, k_2, k_3, k_4, k_5, k_6, k_7, k_8, k_9, k_10, k_11, k_16, k_17, k_19, k_20, k_24, k_26, k_27, k_30, k_32, k_33, k_35, k_40, k_43, k_48, k_50, k_57, k_60, k_64, k_81, k_86, k_34, k_66, k_322, k_97, k_99, k_100, k_122, k_128, k_160, k_161, k_255, k_256, k_512, k_580, k_600, k_1000, k_4096, k_far, k_o, nI_add, n_mul, n_sub, n_div, n_rem, n_lt, n_le, n_eq, n_cl, n_and, n_or, n_xor, m1_lt, lt_m1, m1_eq, eq_m1, le_m1, m1_le, m2_eq, up_eq, up_ne, n_shl, n_shr, b2_some, let_e, ob_some, bI_0, bI_a, bI_t, bI_f, if_true, if_false, ite_true, ite_false, true_and, and_true, false_and, and_false, true_or, or_true, false_or, or_false, not_true_eq_false, not_false_eq_true, ite_not, ne_eq, Bool.true_eq_false, Bool.false_eq_true, reduceCtorEq, decide_true, decide_false, Bool.and_true, Bool.and_false, Bool.true_and, Bool.false_and, Bool.or_true, Bool.or_false, Bool.not_true, Bool.not_false, Nat.add_zero, Nat.zero_add, eq_self, Nat.not_lt_zero, Nat.reduceAdd, Nat.reduceMul, Nat.reduceSub, Nat.reduceDiv, Nat.reduceMod, Nat.reduceAnd, Nat.reduceXor, Nat.reduceEqDiff, Nat.reducePow, lt_T, lt_F, le_T, le_F, eq_F, o, m_ls, eF]
      rw [show min (bsM (mH (pR π) n (pn π)) bo) (mH (pR π) n (pn π) u) = mH (pR π) n (pn π) u by omega]
      rfl
    · have es : amS (fun _ => true) (mH (pR π) n (pn π)) u bo = bo := by
        cases bo with
        | none => exact absurd (show mH (pR π) n (pn π) u < 1000000 by omega) q
        | some b =>
          show (if (true && decide (mH (pR π) n (pn π) u < mH (pR π) n (pn π) b)) = true then some u else some b) = some b
          rw [decide_eq_false (show ¬ mH (pR π) n (pn π) u < mH (pR π) n (pn π) b from q)]
          rfl
      have K := ih (u + 1) bo g (by omega) (by omega) hb
      rw [es, ← K]
      generalize eF : qX12_divided_76 g = F
      unfold qX12_divided_76 qX12_divided_106
      simp (disch := omega) only [↓reduceIte, ↓q_m1, ↓q_m2, k_o, k_0, k_1, k_2, k_3, k_4, k_5, k_6, k_7, k_8, k_9, k_10, k_11, k_16, k_17, k_19, k_20, k_24, k_26, k_27, k_30, k_32, k_33, k_35, k_40, k_43, k_48, k_50, k_57, k_60, k_64, k_81, k_86, k_34, k_66, k_322, k_97, k_99, k_100, k_122, k_128, k_160, k_161, k_255, k_256, k_512, k_580, k_600, k_1000, k_4096, k_far, k_o, nI_add, n_mul, n_sub, n_div, n_rem, n_lt, n_le, n_eq, n_cl, n_and, n_or, n_xor, m1_lt, lt_m1, m1_eq, eq_m1, le_m1, m1_le, m2_eq, up_eq, up_ne, n_shl, n_shr, b2_some, let_e, ob_some, bI_0, bI_a, bI_t, bI_f, if_true, if_false, ite_true, ite_false, true_and, and_true, false_and, and_false, true_or, or_true, false_or, or_false, not_true_eq_false, not_false_eq_true, ite_not, ne_eq, Bool.true_eq_false, Bool.false_eq_true, reduceCtorEq, decide_true, decide_false, Bool.and_true, Bool.and_false, Bool.true_and, Bool.false_and, Bool.or_true, Bool.or_false, Bool.not_true, Bool.not_false, Nat.add_zero, Nat.zero_add, eq_self, Nat.not_lt_zero, Nat.reduceAdd, Nat.reduceMul, Nat.reduceSub, Nat.reduceDiv, Nat.reduceMod, Nat.reduceAnd, Nat.reduceXor, Nat.reduceEqDiff, Nat.reducePow, lt_T, lt_F, le_T, le_F, eq_F, o, m_ls, eF]
      rw [show min (bsM (mH (pR π) n (pn π)) bo) (mH (pR π) n (pn π) u) = bsM (mH (pR π) n (pn π)) bo by omega]
theorem m_div44 {i0 : Nat} {π : qQ} {h : qm_H} (k : pOK π) (M : pM i0 π h) {n : Nat} {x : Int32} : ∀ d i fuel, i + d = pn π → d < fuel → qX12_divided_44 fuel 62 (nI n) x (nI (n ^ i)) (nI i) h = qX12_divided_76 qm_N 62 (nI n) x (nI (n ^ pn π)) (nI 0) (nI 1000000) (nI 0) h := by
  have k1 := k.1
  have b2 := M.2.1
  intro d
  induction d with
  | zero =>
    intro i fuel hi hf
    obtain ⟨g, rfl⟩ : ∃ g, fuel = g + 1 := ⟨fuel - 1, by omega⟩
    have : i = pn π := by omega
    subst this
    unfold qX12_divided_44
    simp (disch := omega) only [↓reduceIte, ↓q_m1, ↓q_m2, k_o, k_0, k_1, k_2, k_3, k_4, k_5, k_6, k_7, k_8, k_9, k_10, k_11, k_16, k_17, k_19, k_20, k_24, k_26, k_27, k_30, k_32, k_33, k_35, k_40, k_43, k_48, k_50, k_57, k_60, k_64, k_81, k_86, k_34, k_66, k_322, k_97, k_99, k_100, k_122, k_128, k_160, k_161, k_255, k_256, k_512, k_580, k_600, k_1000, k_4096, k_far, k_o, nI_add, n_mul, n_sub, n_div, n_rem, n_lt, n_le, n_eq, n_cl, n_and, n_or, n_xor, m1_lt, lt_m1, m1_eq, eq_m1, le_m1, m1_le, m2_eq, up_eq, up_ne, n_shl, n_shr, b2_some, let_e, ob_some, bI_0, bI_a, bI_t, bI_f, if_true, if_false, ite_true, ite_false, true_and, and_true, false_and, and_false, true_or, or_true, false_or, or_false, not_true_eq_false, not_false_eq_true, ite_not, ne_eq, Bool.true_eq_false, Bool.false_eq_true, reduceCtorEq, decide_true, decide_false, Bool.and_true, Bool.and_false, Bool.true_and, Bool.false_and, Bool.or_true, Bool.or_false, Bool.not_true, Bool.not_false, Nat.add_zero, Nat.zero_add, eq_self, Nat.not_lt_zero, Nat.reduceAdd, Nat.reduceMul, Nat.reduceSub, Nat.reduceDiv, Nat.reduceMod, Nat.reduceAnd, Nat.reduceXor, Nat.reduceEqDiff, Nat.reducePow, lt_T, lt_F, le_T, le_F, eq_F, b2]
  | succ d ih =>
    intro i fuel hi hf
    obtain ⟨g, rfl⟩ : ∃ g, fuel = g + 1 := ⟨fuel - 1, by omega⟩
    rw [← ih (i + 1) g (by omega) (by omega), Nat.pow_succ]
    generalize eF : qX12_divided_44 g = F
    unfold qX12_divided_44
    simp (disch := omega) only [↓reduceIte, ↓q_m1, ↓q_m2, k_o, k_0, k_1, k_2, k_3, k_4, k_5, k_6, k_7, k_8, k_9, k_10, k_11, k_16, k_17, k_19, k_20, k_24, k_26, k_27, k_30, k_32, k_33, k_35, k_40, k_43, k_48, k_50, k_57, k_60, k_64, k_81, k_86, k_34, k_66, k_322, k_97, k_99, k_100, k_122, k_128, k_160, k_161, k_255, k_256, k_512, k_580, k_600, k_1000, k_4096, k_far, k_o, nI_add, n_mul, n_sub, n_div, n_rem, n_lt, n_le, n_eq, n_cl, n_and, n_or, n_xor, m1_lt, lt_m1, m1_eq, eq_m1, le_m1, m1_le, m2_eq, up_eq, up_ne, n_shl, n_shr, b2_some, let_e, ob_some, bI_0, bI_a, bI_t, bI_f, if_true, if_false, ite_true, ite_false, true_and, and_true, false_and, and_false, true_or, or_true, false_or, or_false, not_true_eq_false, not_false_eq_true, ite_not, ne_eq, Bool.true_eq_false, Bool.false_eq_true, reduceCtorEq, decide_true, decide_false, Bool.and_true, Bool.and_false, Bool.true_and, Bool.false_and, Bool.or_true, Bool.or_false, Bool.not_true, Bool.not_false, Nat.add_zero, Nat.zero_add, eq_self, Nat.not_lt_zero, Nat.reduceAdd, Nat.reduceMul, Nat.reduceSub, Nat.reduceDiv, Nat.reduceMod, Nat.reduceAnd, Nat.reduceXor, Nat.reduceEqDiff, Nat.reducePow, lt_T, lt_F, le_T, le_F, eq_F, b2, eF]
theorem m1_lt_m1 : (m1 < m1) = False := eq_false (by decide)
theorem m1_le_m1 : (m1 ≤ m1) = True := eq_true (by decide)
theorem neg_m1 {x : Int32} (h1 : x < 0) (h2 : x ≠ m1) : (x < m1) = True ∧ (m1 ≤ x) = False := by
  rw [Int32.lt_iff_toInt_lt] at h1
  have e : m1.toInt = -1 := rfl
  have z : (0 : Int32).toInt = 0 := rfl
  have h3 : x.toInt ≠ m1.toInt := fun y => h2 (Int32.toInt_inj.mp y)
  constructor
  · rw [Int32.lt_iff_toInt_lt]
    exact eq_true (by omega)
  · rw [Int32.le_iff_toInt_le]
    exact eq_false (by omega)
theorem m1_sub {m : Nat} (hm : m < 1000) : (m1 ≤ nI m - nI 1) = True := by
  cases m with
  | zero => exact eq_true (by decide)
  | succ m =>
    rw [n_sub (by omega)]
    exact m1_le (by omega)
theorem P_27 : ∀ h, qR h → ∀ x1 x2 x3 : Int32, ∃ (r : Int32) (h1 h2 : qm_H), qX11_divided 0 x1 x2 x3 h = some (r, h1) ∧ qX12_divided 62 x1 x2 x3 h1 = some (r, h2) ∧ qR h2 := by
  intro h R x1 x2 x3
  have hE := e0 (qFr.refl qScr h)
  rcases c_par R x1 with ⟨y1, y2⟩ | ⟨i, π, hi, rfl, k, C, y1, y2⟩
  · obtain ⟨h2, w1, w2⟩ := y2 _ hE
    have c1 : qX11_divided 0 x1 x2 x3 h = some (m1, h) := by
      unfold qX11_divided
      simp (disch := omega) only [↓q_m1, ↓q_m2, k_o, k_0, k_1, k_2, k_3, k_4, k_5, k_6, k_7, k_8, k_9, k_10, k_11, k_16, k_17, k_19, k_20, k_24, k_26, k_27, k_30, k_32, k_33, k_35, k_40, k_43, k_48, k_50, k_57, k_60, k_64, k_81, k_86, k_34, k_66, k_322, k_97, k_99, k_100, k_122, k_128, k_160, k_161, k_255, k_256, k_512, k_580, k_600, k_1000, k_4096, k_far, k_o, nI_add, n_mul, n_sub, n_div, n_rem, n_lt, n_le, n_eq, n_cl, n_and, n_or, n_xor, m1_lt, lt_m1, m1_eq, eq_m1, le_m1, m1_le, m2_eq, up_eq, up_ne, n_shl, n_shr, b2_some, let_e, ob_some, bI_0, bI_a, bI_t, bI_f, if_true, if_false, ite_true, ite_false, true_and, and_true, false_and, and_false, true_or, or_true, false_or, or_false, not_true_eq_false, not_false_eq_true, ite_not, ne_eq, Bool.true_eq_false, Bool.false_eq_true, reduceCtorEq, decide_true, decide_false, Bool.and_true, Bool.and_false, Bool.true_and, Bool.false_and, Bool.or_true, Bool.or_false, Bool.not_true, Bool.not_false, Nat.add_zero, Nat.zero_add, eq_self, Nat.not_lt_zero, Nat.reduceAdd, Nat.reduceMul, Nat.reduceSub, Nat.reduceDiv, Nat.reduceMod, Nat.reduceAnd, Nat.reduceXor, Nat.reduceEqDiff, Nat.reducePow, y1, om_n]
    unfold qX12_divided
    simp only [let_e, m_in, b2_some]
    cases decide ((1 : Int32) ≤ x2 ∧ x2 ≤ 4)
    · refine ⟨m1, h, qm_seti h 62 0 (nI 0), c1, ?_, R.mvm (em0 h)⟩
      simp (disch := omega) only [↓q_m1, ↓q_m2, k_o, k_0, k_1, k_2, k_3, k_4, k_5, k_6, k_7, k_8, k_9, k_10, k_11, k_16, k_17, k_19, k_20, k_24, k_26, k_27, k_30, k_32, k_33, k_35, k_40, k_43, k_48, k_50, k_57, k_60, k_64, k_81, k_86, k_34, k_66, k_322, k_97, k_99, k_100, k_122, k_128, k_160, k_161, k_255, k_256, k_512, k_580, k_600, k_1000, k_4096, k_far, k_o, nI_add, n_mul, n_sub, n_div, n_rem, n_lt, n_le, n_eq, n_cl, n_and, n_or, n_xor, m1_lt, lt_m1, m1_eq, eq_m1, le_m1, m1_le, m2_eq, up_eq, up_ne, n_shl, n_shr, b2_some, let_e, ob_some, bI_0, bI_a, bI_t, bI_f, if_true, if_false, ite_true, ite_false, true_and, and_true, false_and, and_false, true_or, or_true, false_or, or_false, not_true_eq_false, not_false_eq_true, ite_not, ne_eq, Bool.true_eq_false, Bool.false_eq_true, reduceCtorEq, decide_true, decide_false, Bool.and_true, Bool.and_false, Bool.true_and, Bool.false_and, Bool.or_true, Bool.or_false, Bool.not_true, Bool.not_false, Nat.add_zero, Nat.zero_add, eq_self, Nat.not_lt_zero, Nat.reduceAdd, Nat.reduceMul, Nat.reduceSub, Nat.reduceDiv, Nat.reduceMod, Nat.reduceAnd, Nat.reduceXor, Nat.reduceEqDiff, Nat.reducePow]
    · refine ⟨m1, h, h2, c1, ?_, R.mvm ((em0 h).trans (qPd.e w2))⟩
      simp (disch := omega) only [↓q_m1, ↓q_m2, k_o, k_0, k_1, k_2, k_3, k_4, k_5, k_6, k_7, k_8, k_9, k_10, k_11, k_16, k_17, k_19, k_20, k_24, k_26, k_27, k_30, k_32, k_33, k_35, k_40, k_43, k_48, k_50, k_57, k_60, k_64, k_81, k_86, k_34, k_66, k_322, k_97, k_99, k_100, k_122, k_128, k_160, k_161, k_255, k_256, k_512, k_580, k_600, k_1000, k_4096, k_far, k_o, nI_add, n_mul, n_sub, n_div, n_rem, n_lt, n_le, n_eq, n_cl, n_and, n_or, n_xor, m1_lt, lt_m1, m1_eq, eq_m1, le_m1, m1_le, m2_eq, up_eq, up_ne, n_shl, n_shr, b2_some, let_e, ob_some, bI_0, bI_a, bI_t, bI_f, if_true, if_false, ite_true, ite_false, true_and, and_true, false_and, and_false, true_or, or_true, false_or, or_false, not_true_eq_false, not_false_eq_true, ite_not, ne_eq, Bool.true_eq_false, Bool.false_eq_true, reduceCtorEq, decide_true, decide_false, Bool.and_true, Bool.and_false, Bool.true_and, Bool.false_and, Bool.or_true, Bool.or_false, Bool.not_true, Bool.not_false, Nat.add_zero, Nat.zero_add, eq_self, Nat.not_lt_zero, Nat.reduceAdd, Nat.reduceMul, Nat.reduceSub, Nat.reduceDiv, Nat.reduceMod, Nat.reduceAnd, Nat.reduceXor, Nat.reduceEqDiff, Nat.reducePow, w1]
  · have k1 := k.1
    obtain ⟨h2, w1, w2, M⟩ := y2 _ hE
    have hR : qR h2 := R.mvm ((em0 h).trans (qPd.e w2))
    have b2 := M.2.1
    have c1 := C.1
    have bad2 : (x2 < nI 1 ∨ nI 4 < x2) → (∀ h, qX12_in x2 (nI 1) (nI 4) h = some (bI false, h)) → ∃ (r : Int32) (h1 h2 : qm_H), qX11_divided 0 (nI i) x2 x3 h = some (r, h1) ∧ qX12_divided 62 (nI i) x2 x3 h1 = some (r, h2) ∧ qR h2 := by
      intro z1 z2
      refine ⟨m1, h, qm_seti h 62 0 (nI 0), ?_, ?_, R.mvm (em0 h)⟩
      · unfold qX11_divided
        rcases z1 with z1 | z1
        · simp (disch := omega) only [↓reduceIte, ↓q_m1, ↓q_m2, k_o, k_0, k_1, k_2, k_3, k_4, k_5, k_6, k_7, k_8, k_9, k_10, k_11, k_16, k_17, k_19, k_20, k_24, k_26, k_27, k_30, k_32, k_33, k_35, k_40, k_43, k_48, k_50, k_57, k_60, k_64, k_81, k_86, k_34, k_66, k_322, k_97, k_99, k_100, k_122, k_128, k_160, k_161, k_255, k_256, k_512, k_580, k_600, k_1000, k_4096, k_far, k_o, nI_add, n_mul, n_sub, n_div, n_rem, n_lt, n_le, n_eq, n_cl, n_and, n_or, n_xor, m1_lt, lt_m1, m1_eq, eq_m1, le_m1, m1_le, m2_eq, up_eq, up_ne, n_shl, n_shr, b2_some, let_e, ob_some, bI_0, bI_a, bI_t, bI_f, if_true, if_false, ite_true, ite_false, true_and, and_true, false_and, and_false, true_or, or_true, false_or, or_false, not_true_eq_false, not_false_eq_true, ite_not, ne_eq, Bool.true_eq_false, Bool.false_eq_true, reduceCtorEq, decide_true, decide_false, Bool.and_true, Bool.and_false, Bool.true_and, Bool.false_and, Bool.or_true, Bool.or_false, Bool.not_true, Bool.not_false, Nat.add_zero, Nat.zero_add, eq_self, Nat.not_lt_zero, Nat.reduceAdd, Nat.reduceMul, Nat.reduceSub, Nat.reduceDiv, Nat.reduceMod, Nat.reduceAnd, Nat.reduceXor, Nat.reduceEqDiff, Nat.reducePow, lt_T, lt_F, le_T, le_F, eq_F, y1, om_s, z1]
        · simp (disch := omega) only [↓q_m1, ↓q_m2, k_o, k_0, k_1, k_2, k_3, k_4, k_5, k_6, k_7, k_8, k_9, k_10, k_11, k_16, k_17, k_19, k_20, k_24, k_26, k_27, k_30, k_32, k_33, k_35, k_40, k_43, k_48, k_50, k_57, k_60, k_64, k_81, k_86, k_34, k_66, k_322, k_97, k_99, k_100, k_122, k_128, k_160, k_161, k_255, k_256, k_512, k_580, k_600, k_1000, k_4096, k_far, k_o, nI_add, n_mul, n_sub, n_div, n_rem, n_lt, n_le, n_eq, n_cl, n_and, n_or, n_xor, m1_lt, lt_m1, m1_eq, eq_m1, le_m1, m1_le, m2_eq, up_eq, up_ne, n_shl, n_shr, b2_some, let_e, ob_some, bI_0, bI_a, bI_t, bI_f, if_true, if_false, ite_true, ite_false, true_and, and_true, false_and, and_false, true_or, or_true, false_or, or_false, not_true_eq_false, not_false_eq_true, ite_not, ne_eq, Bool.true_eq_false, Bool.false_eq_true, reduceCtorEq, decide_true, decide_false, Bool.and_true, Bool.and_false, Bool.true_and, Bool.false_and, Bool.or_true, Bool.or_false, Bool.not_true, Bool.not_false, Nat.add_zero, Nat.zero_add, eq_self, Nat.not_lt_zero, Nat.reduceAdd, Nat.reduceMul, Nat.reduceSub, Nat.reduceDiv, Nat.reduceMod, Nat.reduceAnd, Nat.reduceXor, Nat.reduceEqDiff, Nat.reducePow, y1, om_s, z1]
          split <;> rfl
      · unfold qX12_divided
        simp (disch := omega) only [↓q_m1, ↓q_m2, k_o, k_0, k_1, k_2, k_3, k_4, k_5, k_6, k_7, k_8, k_9, k_10, k_11, k_16, k_17, k_19, k_20, k_24, k_26, k_27, k_30, k_32, k_33, k_35, k_40, k_43, k_48, k_50, k_57, k_60, k_64, k_81, k_86, k_34, k_66, k_322, k_97, k_99, k_100, k_122, k_128, k_160, k_161, k_255, k_256, k_512, k_580, k_600, k_1000, k_4096, k_far, k_o, nI_add, n_mul, n_sub, n_div, n_rem, n_lt, n_le, n_eq, n_cl, n_and, n_or, n_xor, m1_lt, lt_m1, m1_eq, eq_m1, le_m1, m1_le, m2_eq, up_eq, up_ne, n_shl, n_shr, b2_some, let_e, ob_some, bI_0, bI_a, bI_t, bI_f, if_true, if_false, ite_true, ite_false, true_and, and_true, false_and, and_false, true_or, or_true, false_or, or_false, not_true_eq_false, not_false_eq_true, ite_not, ne_eq, Bool.true_eq_false, Bool.false_eq_true, reduceCtorEq, decide_true, decide_false, Bool.and_true, Bool.and_false, Bool.true_and, Bool.false_and, Bool.or_true, Bool.or_false, Bool.not_true, Bool.not_false, Nat.add_zero, Nat.zero_add, eq_self, Nat.not_lt_zero, Nat.reduceAdd, Nat.reduceMul, Nat.reduceSub, Nat.reduceDiv, Nat.reduceMod, Nat.reduceAnd, Nat.reduceXor, Nat.reduceEqDiff, Nat.reducePow, z2]
    rcases i_cases x2 with hx | ⟨n, hn, rfl⟩
    · refine bad2 (Or.inl (by rw [ng_lt hx (by omega)]; trivial)) (fun h => by simp (disch := omega) only [↓q_m1, ↓q_m2, k_o, k_0, k_1, k_2, k_3, k_4, k_5, k_6, k_7, k_8, k_9, k_10, k_11, k_16, k_17, k_19, k_20, k_24, k_26, k_27, k_30, k_32, k_33, k_35, k_40, k_43, k_48, k_50, k_57, k_60, k_64, k_81, k_86, k_34, k_66, k_322, k_97, k_99, k_100, k_122, k_128, k_160, k_161, k_255, k_256, k_512, k_580, k_600, k_1000, k_4096, k_far, k_o, nI_add, n_mul, n_sub, n_div, n_rem, n_lt, n_le, n_eq, n_cl, n_and, n_or, n_xor, m1_lt, lt_m1, m1_eq, eq_m1, le_m1, m1_le, m2_eq, up_eq, up_ne, n_shl, n_shr, b2_some, let_e, ob_some, bI_0, bI_a, bI_t, bI_f, if_true, if_false, ite_true, ite_false, true_and, and_true, false_and, and_false, true_or, or_true, false_or, or_false, not_true_eq_false, not_false_eq_true, ite_not, ne_eq, Bool.true_eq_false, Bool.false_eq_true, reduceCtorEq, decide_true, decide_false, Bool.and_true, Bool.and_false, Bool.true_and, Bool.false_and, Bool.or_true, Bool.or_false, Bool.not_true, Bool.not_false, Nat.add_zero, Nat.zero_add, eq_self, Nat.not_lt_zero, Nat.reduceAdd, Nat.reduceMul, Nat.reduceSub, Nat.reduceDiv, Nat.reduceMod, Nat.reduceAnd, Nat.reduceXor, Nat.reduceEqDiff, Nat.reducePow, lt_T, lt_F, le_T, le_F, eq_F, m_in, ng_le hx])
    · by_cases q1 : n < 1
      · exact bad2 (Or.inl (by rw [n_lt (by omega) (by omega)]; exact q1)) (fun h => by simp (disch := omega) only [↓q_m1, ↓q_m2, k_o, k_0, k_1, k_2, k_3, k_4, k_5, k_6, k_7, k_8, k_9, k_10, k_11, k_16, k_17, k_19, k_20, k_24, k_26, k_27, k_30, k_32, k_33, k_35, k_40, k_43, k_48, k_50, k_57, k_60, k_64, k_81, k_86, k_34, k_66, k_322, k_97, k_99, k_100, k_122, k_128, k_160, k_161, k_255, k_256, k_512, k_580, k_600, k_1000, k_4096, k_far, k_o, nI_add, n_mul, n_sub, n_div, n_rem, n_lt, n_le, n_eq, n_cl, n_and, n_or, n_xor, m1_lt, lt_m1, m1_eq, eq_m1, le_m1, m1_le, m2_eq, up_eq, up_ne, n_shl, n_shr, b2_some, let_e, ob_some, bI_0, bI_a, bI_t, bI_f, if_true, if_false, ite_true, ite_false, true_and, and_true, false_and, and_false, true_or, or_true, false_or, or_false, not_true_eq_false, not_false_eq_true, ite_not, ne_eq, Bool.true_eq_false, Bool.false_eq_true, reduceCtorEq, decide_true, decide_false, Bool.and_true, Bool.and_false, Bool.true_and, Bool.false_and, Bool.or_true, Bool.or_false, Bool.not_true, Bool.not_false, Nat.add_zero, Nat.zero_add, eq_self, Nat.not_lt_zero, Nat.reduceAdd, Nat.reduceMul, Nat.reduceSub, Nat.reduceDiv, Nat.reduceMod, Nat.reduceAnd, Nat.reduceXor, Nat.reduceEqDiff, Nat.reducePow, lt_T, lt_F, le_T, le_F, eq_F, m_in])
      · by_cases q2 : 4 < n
        · exact bad2 (Or.inr (by rw [n_lt (by omega) (by omega)]; exact q2)) (fun h => by simp (disch := omega) only [↓q_m1, ↓q_m2, k_o, k_0, k_1, k_2, k_3, k_4, k_5, k_6, k_7, k_8, k_9, k_10, k_11, k_16, k_17, k_19, k_20, k_24, k_26, k_27, k_30, k_32, k_33, k_35, k_40, k_43, k_48, k_50, k_57, k_60, k_64, k_81, k_86, k_34, k_66, k_322, k_97, k_99, k_100, k_122, k_128, k_160, k_161, k_255, k_256, k_512, k_580, k_600, k_1000, k_4096, k_far, k_o, nI_add, n_mul, n_sub, n_div, n_rem, n_lt, n_le, n_eq, n_cl, n_and, n_or, n_xor, m1_lt, lt_m1, m1_eq, eq_m1, le_m1, m1_le, m2_eq, up_eq, up_ne, n_shl, n_shr, b2_some, let_e, ob_some, bI_0, bI_a, bI_t, bI_f, if_true, if_false, ite_true, ite_false, true_and, and_true, false_and, and_false, true_or, or_true, false_or, or_false, not_true_eq_false, not_false_eq_true, ite_not, ne_eq, Bool.true_eq_false, Bool.false_eq_true, reduceCtorEq, decide_true, decide_false, Bool.and_true, Bool.and_false, Bool.true_and, Bool.false_and, Bool.or_true, Bool.or_false, Bool.not_true, Bool.not_false, Nat.add_zero, Nat.zero_add, eq_self, Nat.not_lt_zero, Nat.reduceAdd, Nat.reduceMul, Nat.reduceSub, Nat.reduceDiv, Nat.reduceMod, Nat.reduceAnd, Nat.reduceXor, Nat.reduceEqDiff, Nat.reducePow, lt_T, lt_F, le_T, le_F, eq_F, m_in])
        · have hp := pw_le (n := n) (m := pn π) (by omega) (by omega) (by omega)
          have bad3 : (x3 < m1) = True ∨ ((x3 < m1) = False ∧ (x3 < nI (pn π)) = False) → (∀ h, qX12_in x3 m1 (nI (pn π) - nI 1) h = some (bI false, h)) → ∃ (r : Int32) (h1 h2 : qm_H), qX11_divided 0 (nI i) (nI n) x3 h = some (r, h1) ∧ qX12_divided 62 (nI i) (nI n) x3 h1 = some (r, h2) ∧ qR h2 := by
            intro z1 z2
            refine ⟨m1, h, h2, ?_, ?_, hR⟩
            · unfold qX11_divided
              rcases z1 with z1 | ⟨z1, z3⟩
              · simp (disch := omega) only [↓reduceIte, ↓q_m1, ↓q_m2, k_o, k_0, k_1, k_2, k_3, k_4, k_5, k_6, k_7, k_8, k_9, k_10, k_11, k_16, k_17, k_19, k_20, k_24, k_26, k_27, k_30, k_32, k_33, k_35, k_40, k_43, k_48, k_50, k_57, k_60, k_64, k_81, k_86, k_34, k_66, k_322, k_97, k_99, k_100, k_122, k_128, k_160, k_161, k_255, k_256, k_512, k_580, k_600, k_1000, k_4096, k_far, k_o, nI_add, n_mul, n_sub, n_div, n_rem, n_lt, n_le, n_eq, n_cl, n_and, n_or, n_xor, m1_lt, lt_m1, m1_eq, eq_m1, le_m1, m1_le, m2_eq, up_eq, up_ne, n_shl, n_shr, b2_some, let_e, ob_some, bI_0, bI_a, bI_t, bI_f, if_true, if_false, ite_true, ite_false, true_and, and_true, false_and, and_false, true_or, or_true, false_or, or_false, not_true_eq_false, not_false_eq_true, ite_not, ne_eq, Bool.true_eq_false, Bool.false_eq_true, reduceCtorEq, decide_true, decide_false, Bool.and_true, Bool.and_false, Bool.true_and, Bool.false_and, Bool.or_true, Bool.or_false, Bool.not_true, Bool.not_false, Nat.add_zero, Nat.zero_add, eq_self, Nat.not_lt_zero, Nat.reduceAdd, Nat.reduceMul, Nat.reduceSub, Nat.reduceDiv, Nat.reduceMod, Nat.reduceAnd, Nat.reduceXor, Nat.reduceEqDiff, Nat.reducePow, lt_T, lt_F, le_T, le_F, eq_F, y1, om_s, z1]
              · simp (disch := omega) only [↓reduceIte, ↓q_m1, ↓q_m2, k_o, k_0, k_1, k_2, k_3, k_4, k_5, k_6, k_7, k_8, k_9, k_10, k_11, k_16, k_17, k_19, k_20, k_24, k_26, k_27, k_30, k_32, k_33, k_35, k_40, k_43, k_48, k_50, k_57, k_60, k_64, k_81, k_86, k_34, k_66, k_322, k_97, k_99, k_100, k_122, k_128, k_160, k_161, k_255, k_256, k_512, k_580, k_600, k_1000, k_4096, k_far, k_o, nI_add, n_mul, n_sub, n_div, n_rem, n_lt, n_le, n_eq, n_cl, n_and, n_or, n_xor, m1_lt, lt_m1, m1_eq, eq_m1, le_m1, m1_le, m2_eq, up_eq, up_ne, n_shl, n_shr, b2_some, let_e, ob_some, bI_0, bI_a, bI_t, bI_f, if_true, if_false, ite_true, ite_false, true_and, and_true, false_and, and_false, true_or, or_true, false_or, or_false, not_true_eq_false, not_false_eq_true, ite_not, ne_eq, Bool.true_eq_false, Bool.false_eq_true, reduceCtorEq, decide_true, decide_false, Bool.and_true, Bool.and_false, Bool.true_and, Bool.false_and, Bool.or_true, Bool.or_false, Bool.not_true, Bool.not_false, Nat.add_zero, Nat.zero_add, eq_self, Nat.not_lt_zero, Nat.reduceAdd, Nat.reduceMul, Nat.reduceSub, Nat.reduceDiv, Nat.reduceMod, Nat.reduceAnd, Nat.reduceXor, Nat.reduceEqDiff, Nat.reducePow, lt_T, lt_F, le_T, le_F, eq_F, y1, om_s, z1, z3, c1]
            · unfold qX12_divided
              have e : qX12_in (nI n) (nI 1) (nI 4) (qm_seti h 62 0 (nI 0)) = some (bI true, qm_seti h 62 0 (nI 0)) := by simp (disch := omega) only [↓reduceIte, ↓q_m1, ↓q_m2, k_o, k_0, k_1, k_2, k_3, k_4, k_5, k_6, k_7, k_8, k_9, k_10, k_11, k_16, k_17, k_19, k_20, k_24, k_26, k_27, k_30, k_32, k_33, k_35, k_40, k_43, k_48, k_50, k_57, k_60, k_64, k_81, k_86, k_34, k_66, k_322, k_97, k_99, k_100, k_122, k_128, k_160, k_161, k_255, k_256, k_512, k_580, k_600, k_1000, k_4096, k_far, k_o, nI_add, n_mul, n_sub, n_div, n_rem, n_lt, n_le, n_eq, n_cl, n_and, n_or, n_xor, m1_lt, lt_m1, m1_eq, eq_m1, le_m1, m1_le, m2_eq, up_eq, up_ne, n_shl, n_shr, b2_some, let_e, ob_some, bI_0, bI_a, bI_t, bI_f, if_true, if_false, ite_true, ite_false, true_and, and_true, false_and, and_false, true_or, or_true, false_or, or_false, not_true_eq_false, not_false_eq_true, ite_not, ne_eq, Bool.true_eq_false, Bool.false_eq_true, reduceCtorEq, decide_true, decide_false, Bool.and_true, Bool.and_false, Bool.true_and, Bool.false_and, Bool.or_true, Bool.or_false, Bool.not_true, Bool.not_false, Nat.add_zero, Nat.zero_add, eq_self, Nat.not_lt_zero, Nat.reduceAdd, Nat.reduceMul, Nat.reduceSub, Nat.reduceDiv, Nat.reduceMod, Nat.reduceAnd, Nat.reduceXor, Nat.reduceEqDiff, Nat.reducePow, lt_T, lt_F, le_T, le_F, eq_F, m_in]
              simp only [k_1, k_4, k_0, ↓q_m1, let_e, e, b2_some, bI_0, Bool.true_eq_false, if_false, w1, b2, z2, if_true]
          have good : (x3 = m1 ∨ ∃ j, j < pn π ∧ x3 = nI j) → (∀ h, qX12_in x3 m1 (nI (pn π) - nI 1) h = some (bI true, h)) → ∃ (r : Int32) (h1 h2 : qm_H), qX11_divided 0 (nI i) (nI n) x3 h = some (r, h1) ∧ qX12_divided 62 (nI i) (nI n) x3 h1 = some (r, h2) ∧ qR h2 := by
            intro hx z2
            obtain ⟨h3, d1, d2, d3, d4⟩ := c_divide k C (by omega) (n := n) (by omega) (by omega)
            have E3 : qE h h3 := d2.mono (fun a q z => by unfold qScr; omega)
            have R3 : qR h3 := R.mv E3 (R.2.2.mv (fun a q z => (d2 a q (by omega)).1))
            obtain ⟨h4, u1, u2, M4⟩ := y2 _ (e0 E3)
            have b2' := M4.2.1
            have o := m_div76 hi k M4 (n := n) (N := n ^ pn π) (by omega) (by omega) (by omega) hx (n ^ pn π) 0 none qm_N (by omega) (by unfold qm_N; omega) (fun b hb => by cases hb)
            have o2 := m_div44 k M4 (n := n) (x := x3) (pn π) 0 qm_N (by omega) (by unfold qm_N; omega)
            rw [Nat.pow_zero] at o2
            refine ⟨if x3 = m1 then nI (bsM (mH (pR π) n (pn π)) (am (fun _ => true) (mH (pR π) n (pn π)) (n ^ pn π) 0 none)) else nI (dg n (pn π) ((am (fun _ => true) (mH (pR π) n (pn π)) (n ^ pn π) 0 none).getD 0) x3.toNatClampNeg), h3, h4, ?_, ?_, R3.mvm ((em0 h3).trans (qPd.e u2))⟩
            · unfold qX11_divided
              rcases hx with rfl | ⟨j, hj, rfl⟩
              · simp (disch := omega) only [↓reduceIte, ↓q_m1, ↓q_m2, k_o, k_0, k_1, k_2, k_3, k_4, k_5, k_6, k_7, k_8, k_9, k_10, k_11, k_16, k_17, k_19, k_20, k_24, k_26, k_27, k_30, k_32, k_33, k_35, k_40, k_43, k_48, k_50, k_57, k_60, k_64, k_81, k_86, k_34, k_66, k_322, k_97, k_99, k_100, k_122, k_128, k_160, k_161, k_255, k_256, k_512, k_580, k_600, k_1000, k_4096, k_far, k_o, nI_add, n_mul, n_sub, n_div, n_rem, n_lt, n_le, n_eq, n_cl, n_and, n_or, n_xor, m1_lt, lt_m1, m1_eq, eq_m1, le_m1, m1_le, m2_eq, up_eq, up_ne, n_shl, n_shr, b2_some, let_e, ob_some, bI_0, bI_a, bI_t, bI_f, if_true, if_false, ite_true, ite_false, true_and, and_true, false_and, and_false, true_or, or_true, false_or, or_false, not_true_eq_false, not_false_eq_true, ite_not, ne_eq, Bool.true_eq_false, Bool.false_eq_true, reduceCtorEq, decide_true, decide_false, Bool.and_true, Bool.and_false, Bool.true_and, Bool.false_and, Bool.or_true, Bool.or_false, Bool.not_true, Bool.not_false, Nat.add_zero, Nat.zero_add, eq_self, Nat.not_lt_zero, Nat.reduceAdd, Nat.reduceMul, Nat.reduceSub, Nat.reduceDiv, Nat.reduceMod, Nat.reduceAnd, Nat.reduceXor, Nat.reduceEqDiff, Nat.reducePow, lt_T, lt_F, le_T, le_F, eq_F, y1, om_s, m1_lt_m1, c1, d1, d3]
              · have d5 := d4 j hj
                simp (disch := omega) only [↓reduceIte, ↓q_m1, ↓q_m2, k_o, k_0, k_1, k_2, k_3, k_4, k_5, k_6, k_7, k_8, k_9, k_10, k_11, k_16, k_17, k_19, k_20, k_24, k_26, k_27, k_30, k_32, k_33, k_35, k_40, k_43, k_48, k_50, k_57, k_60, k_64, k_81, k_86, k_34, k_66, k_322, k_97, k_99, k_100, k_122, k_128, k_160, k_161, k_255, k_256, k_512, k_580, k_600, k_1000, k_4096, k_far, k_o, nI_add, n_mul, n_sub, n_div, n_rem, n_lt, n_le, n_eq, n_cl, n_and, n_or, n_xor, m1_lt, lt_m1, m1_eq, eq_m1, le_m1, m1_le, m2_eq, up_eq, up_ne, n_shl, n_shr, b2_some, let_e, ob_some, bI_0, bI_a, bI_t, bI_f, if_true, if_false, ite_true, ite_false, true_and, and_true, false_and, and_false, true_or, or_true, false_or, or_false, not_true_eq_false, not_false_eq_true, ite_not, ne_eq, Bool.true_eq_false, Bool.false_eq_true, reduceCtorEq, decide_true, decide_false, Bool.and_true, Bool.and_false, Bool.true_and, Bool.false_and, Bool.or_true, Bool.or_false, Bool.not_true, Bool.not_false, Nat.add_zero, Nat.zero_add, eq_self, Nat.not_lt_zero, Nat.reduceAdd, Nat.reduceMul, Nat.reduceSub, Nat.reduceDiv, Nat.reduceMod, Nat.reduceAnd, Nat.reduceXor, Nat.reduceEqDiff, Nat.reducePow, lt_T, lt_F, le_T, le_F, eq_F, y1, om_s, c1, d1, d5]
            · unfold qX12_divided
              have e : qX12_in (nI n) (nI 1) (nI 4) (qm_seti h3 62 0 (nI 0)) = some (bI true, qm_seti h3 62 0 (nI 0)) := by simp (disch := omega) only [↓reduceIte, ↓q_m1, ↓q_m2, k_o, k_0, k_1, k_2, k_3, k_4, k_5, k_6, k_7, k_8, k_9, k_10, k_11, k_16, k_17, k_19, k_20, k_24, k_26, k_27, k_30, k_32, k_33, k_35, k_40, k_43, k_48, k_50, k_57, k_60, k_64, k_81, k_86, k_34, k_66, k_322, k_97, k_99, k_100, k_122, k_128, k_160, k_161, k_255, k_256, k_512, k_580, k_600, k_1000, k_4096, k_far, k_o, nI_add, n_mul, n_sub, n_div, n_rem, n_lt, n_le, n_eq, n_cl, n_and, n_or, n_xor, m1_lt, lt_m1, m1_eq, eq_m1, le_m1, m1_le, m2_eq, up_eq, up_ne, n_shl, n_shr, b2_some, let_e, ob_some, bI_0, bI_a, bI_t, bI_f, if_true, if_false, ite_true, ite_false, true_and, and_true, false_and, and_false, true_or, or_true, false_or, or_false, not_true_eq_false, not_false_eq_true, ite_not, ne_eq, Bool.true_eq_false, Bool.false_eq_true, reduceCtorEq, decide_true, decide_false, Bool.and_true, Bool.and_false, Bool.true_and, Bool.false_and, Bool.or_true, Bool.or_false, Bool.not_true, Bool.not_false, Nat.add_zero, Nat.zero_add, eq_self, Nat.not_lt_zero, Nat.reduceAdd, Nat.reduceMul, Nat.reduceSub, Nat.reduceDiv, Nat.reduceMod, Nat.reduceAnd, Nat.reduceXor, Nat.reduceEqDiff, Nat.reducePow, lt_T, lt_F, le_T, le_F, eq_F, m_in]
              simp only [k_1, k_4, k_0, ↓q_m1, let_e, e, b2_some, bI_0, Bool.true_eq_false, if_false, u1, b2', z2]
              rw [o2]
              exact o
          rcases i_cases x3 with hx | ⟨j, hj, rfl⟩
          · by_cases z : x3 = m1
            · subst z
              refine good (Or.inl rfl) (fun h => ?_)
              rw [m_in, decide_eq_true]
              rw [m1_le_m1, m1_sub (by omega)]
              trivial
            · obtain ⟨z1, z2⟩ := neg_m1 hx z
              refine bad3 (Or.inl z1) (fun h => ?_)
              rw [m_in, decide_eq_false]
              rw [z2]
              exact fun y => y.1
          · by_cases z : j < pn π
            · refine good (Or.inr ⟨j, z, rfl⟩) (fun h => ?_)
              rw [m_in, decide_eq_true]
              rw [m1_le hj, sub1_r (by omega) hj]
              exact ⟨trivial, z⟩
            · refine bad3 (Or.inr ⟨m1_lt hj, by rw [n_lt hj (by omega)]; exact eq_false z⟩) (fun h => ?_)
              rw [m_in, decide_eq_false]
              rw [sub1_r (by omega) hj]
              exact fun y => z y.2
