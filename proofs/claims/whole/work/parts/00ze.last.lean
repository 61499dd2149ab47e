/-! last: which RODS to mend first. -/
def pr (g : Nat → Nat) : Nat → Nat
  | 0 => 1
  | n + 1 => pr g n * g n
theorem pr_cong {g g' : Nat → Nat} : ∀ {n : Nat}, (∀ k, k < n → g k = g' k) → pr g n = pr g' n := by
  intro n
  induction n with
  | zero => intro _; rfl
  | succ n ih =>
    intro H
    show pr g n * g n = pr g' n * g' n
    rw [ih (fun k hk => H k (by omega)), H n (by omega)]
theorem pr_pos {g : Nat → Nat} : ∀ {n : Nat}, (∀ k, k < n → 0 < g k) → 0 < pr g n := by
  intro n
  induction n with
  | zero => intro _; exact Nat.one_pos
  | succ n ih =>
    intro H
    exact Nat.mul_pos (ih (fun k hk => H k (by omega))) (H n (by omega))
theorem pr_le {g : Nat → Nat} {c : Nat} : ∀ {n : Nat}, (∀ k, k < n → g k ≤ c) → pr g n ≤ c ^ n := by
  intro n
  induction n with
  | zero => intro _; exact Nat.le_refl _
  | succ n ih =>
    intro H
    rw [Nat.pow_succ]
    exact Nat.mul_le_mul (ih (fun k hk => H k (by omega))) (H n (by omega))
theorem pr_upd {g : Nat → Nat} {i v : Nat} : ∀ {n : Nat}, i < n → pr (fun k => if k = i then v else g k) n * g i = pr g n * v := by
  intro n
  induction n with
  | zero => intro h; omega
  | succ n ih =>
    intro h
    show pr (fun k => if k = i then v else g k) n * (if n = i then v else g n) * g i = pr g n * g n * v
    by_cases q : n = i
    · subst q
      rw [if_pos rfl, pr_cong (g' := g) (fun k hk => if_neg (by omega))]
      rw [Nat.mul_assoc, Nat.mul_comm v, ← Nat.mul_assoc]
    · rw [if_neg q]
      have := ih (show i < n by omega)
      rw [Nat.mul_assoc, Nat.mul_comm (g n) (g i), ← Nat.mul_assoc, this, Nat.mul_assoc, Nat.mul_comm v, ← Nat.mul_assoc]
def fac (w : Nat → Nat) (f : Nat → Bool) (r : Nat) : Nat := if f r then 10 else 10 - w r
def vl (w : Nat → Nat) (H : Nat) (f : Nat → Bool) : Nat := pr (fac w f) H
def btr (w : Nat → Nat) (H : Nat) (f G : Nat → Bool) : Prop := vl w H f < vl w H G ∨ (vl w H f = vl w H G ∧ (fb_ct G H < fb_ct f H ∨ (fb_ct f H = fb_ct G H ∧ rowB G ≤ rowB f)))
def up1 (f : Nat → Bool) (i : Nat) (b : Bool) : Nat → Bool := fun c => if c = i then b else f c
theorem up1_eq (f : Nat → Bool) (i : Nat) (b : Bool) : up1 f i b i = b := if_pos rfl
theorem up1_ne {f : Nat → Bool} {i k : Nat} {b : Bool} (h : k ≠ i) : up1 f i b k = f k := if_neg h
theorem ct_up1 (f : Nat → Bool) (b : Bool) {i n : Nat} (h : i < n) : fb_ct (up1 f i b) n + (if f i then 1 else 0) = fb_ct f n + (if b then 1 else 0) := fb_ct_upd f b h
theorem rowB_upd (f : Nat → Bool) {i : Nat} (hi : i < 8) (b : Bool) : rowB (up1 f i b) + (if f i then 2 ^ i else 0) = rowB f + (if b then 2 ^ i else 0) := by
  unfold rowB
  have := fb_sm_upd (fun c => if f c then 2 ^ c else 0) (if b then 2 ^ i else 0) hi
  rw [← this]
  congr 1
  apply fb_sm_cong
  intro c hc
  by_cases q : c = i
  · subst q
    rw [up1_eq, if_pos rfl]
  · rw [up1_ne q, if_neg q]
theorem fac_up1 {w : Nat → Nat} {f : Nat → Bool} {i : Nat} {b : Bool} (k : Nat) : fac w (up1 f i b) k = if k = i then (if b then 10 else 10 - w i) else fac w f k := by
  unfold fac
  by_cases q : k = i
  · subst q
    rw [up1_eq, if_pos rfl]
  · rw [up1_ne q, if_neg q]
theorem vl_up1 {w : Nat → Nat} {H : Nat} {f : Nat → Bool} {i : Nat} (b : Bool) (hi : i < H) : vl w H (up1 f i b) * fac w f i = vl w H f * (if b then 10 else 10 - w i) := by
  have := pr_upd (g := fac w f) (i := i) (v := if b then 10 else 10 - w i) hi
  rw [show vl w H (up1 f i b) = pr (fun k => if k = i then (if b then 10 else 10 - w i) else fac w f k) H from pr_cong (fun k _ => fac_up1 k), this]
  rfl
section EX
variable {w : Nat → Nat} {H n : Nat} {G : Nat → Bool}
theorem fac_pos (hw : ∀ r, r < H → w r ≤ 9) (f : Nat → Bool) {r : Nat} (hr : r < H) : 0 < fac w f r := by
  have := hw r hr
  unfold fac
  split <;> omega
theorem ex_best (hH : H ≤ 8) (hw : ∀ r, r < H → w r ≤ 9) (hG0 : ∀ r, H ≤ r → G r = false) (hG1 : ∀ r, r < H → G r = true → 0 < w r) (hG2 : ∀ r r', r < H → r' < H → G r = true → G r' = false → w r' < w r ∨ (w r' = w r ∧ r < r')) (hG3 : fb_ct G H ≤ n) (hG4 : fb_ct G H < n → ∀ r, r < H → G r = false → w r = 0) : ∀ m (f : Nat → Bool), (∀ r, H ≤ r → f r = false) → fb_ct f H ≤ n → fb_ct (fun r => G r && !f r) H = m → btr w H f G := by
  intro m
  induction m with
  | zero =>
    intro f hf0 hfn hm
    have sub : ∀ r, r < H → G r = true → f r = true := fun r hr hg => by
      have := fb_ct_zero.mp hm r hr
      rw [hg, Bool.true_and] at this
      cases q : f r
      · rw [q] at this; cases this
      · rfl
    by_cases z : ∃ r, r < H ∧ (f r && !G r) = true
    · have hsum : fb_ct f H = fb_ct G H + fb_ct (fun r => f r && !G r) H := by
        rw [← fb_ct_or (p := G) (q := fun r => f r && !G r) (fun k hk y => by
          have y2 := y.2
          rw [y.1] at y2
          simp at y2)]
        exact fb_ct_cong (fun k hk => by
          cases q : G k
          · cases f k <;> rfl
          · rw [sub k hk q]
            rfl)
      have hpos := fb_ct_pos.mpr z
      have hz := hG4 (by omega)
      right
      refine ⟨?_, Or.inl (by omega)⟩
      apply pr_cong
      intro r hr
      unfold fac
      cases q : G r
      · rw [hz r hr q]
        cases f r <;> rfl
      · rw [sub r hr q]
    · have e : f = G := by
        funext r
        by_cases hr : r < H
        · cases q : G r
          · cases q2 : f r
            · rfl
            · exact absurd ⟨r, hr, by rw [q, q2]; rfl⟩ z
          · exact sub r hr q
        · rw [hf0 r (by omega), hG0 r (by omega)]
      rw [e]
      exact Or.inr ⟨rfl, Or.inr ⟨rfl, Nat.le_refl _⟩⟩
  | succ m ih =>
    intro f hf0 hfn hm
    obtain ⟨r, hr, hgr⟩ := fb_ct_pos.mp (show 0 < fb_ct (fun r => G r && !f r) H by omega)
    rw [Bool.and_eq_true] at hgr
    have hg : G r = true := hgr.1
    have hfr : f r = false := by
      have := hgr.2
      cases q : f r
      · rfl
      · rw [q] at this; cases this
    have hwr := hw r hr
    have c1 := ct_up1 f true hr
    rw [hfr] at c1
    have c1' : fb_ct (up1 f r true) H = fb_ct f H + 1 := c1
    have v1 := vl_up1 (w := w) (f := f) true hr
    have fr : fac w f r = 10 - w r := by unfold fac; rw [hfr]; rfl
    rw [fr] at v1
    have v1' : vl w H (up1 f r true) * (10 - w r) = vl w H f * 10 := v1
    have R1 := rowB_upd f (show r < 8 by omega) true
    rw [hfr] at R1
    have R1' : rowB (up1 f r true) = rowB f + 2 ^ r := R1
    have m1e : fb_ct (fun q => G q && !up1 f r true q) H = m := by
      have := ct_up1 (fun q => G q && !f q) false hr
      rw [hg, hfr] at this
      have this' : fb_ct (up1 (fun q => G q && !f q) r false) H + 1 = fb_ct (fun q => G q && !f q) H := this
      have e : fb_ct (fun q => G q && !up1 f r true q) H = fb_ct (up1 (fun q => G q && !f q) r false) H := fb_ct_cong (fun k hk => by
        by_cases q : k = r
        · rw [q, up1_eq, up1_eq, Bool.not_true, Bool.and_false]
        · rw [up1_ne q, up1_ne q])
      rw [e]
      omega
    by_cases z : ∃ r', r' < H ∧ (f r' && !G r') = true
    · obtain ⟨s, hs, hfs⟩ := z
      rw [Bool.and_eq_true] at hfs
      have hfs1 : f s = true := hfs.1
      have hgs : G s = false := by
        have := hfs.2
        cases q : G s
        · rfl
        · rw [q] at this; cases this
      have hne : s ≠ r := fun y => by rw [y, hfr] at hfs1; cases hfs1
      have hws := hw s hs
      have cmp := hG2 r s hr hs hg hgs
      have us : up1 f r true s = true := by rw [up1_ne hne]; exact hfs1
      have c2 := ct_up1 (up1 f r true) false hs
      rw [us] at c2
      have c2' : fb_ct (up1 (up1 f r true) s false) H + 1 = fb_ct (up1 f r true) H := c2
      have R2 := rowB_upd (up1 f r true) (show s < 8 by omega) false
      rw [us] at R2
      have R2' : rowB (up1 (up1 f r true) s false) + 2 ^ s = rowB (up1 f r true) := R2
      have v2 := vl_up1 (w := w) (f := up1 f r true) false hs
      have fs' : fac w (up1 f r true) s = 10 := by unfold fac; rw [us]; rfl
      rw [fs'] at v2
      have v2' : vl w H (up1 (up1 f r true) s false) * 10 = vl w H (up1 f r true) * (10 - w s) := v2
      have ihx := ih (up1 (up1 f r true) s false) (fun q hq => by rw [up1_ne (by omega), up1_ne (by omega)]; exact hf0 q hq) (by omega) (by
        rw [← m1e]
        exact fb_ct_cong (fun k hk => by
          by_cases q : k = s
          · rw [q, hgs, Bool.false_and, Bool.false_and]
          · rw [up1_ne q]))
      have hA : 0 < vl w H f := pr_pos (fun k hk => fac_pos hw f hk)
      have key : vl w H (up1 (up1 f r true) s false) * (10 - w r) = vl w H f * (10 - w s) := by
        have h1 : vl w H (up1 (up1 f r true) s false) * 10 * (10 - w r) = vl w H f * 10 * (10 - w s) := by
          rw [v2', Nat.mul_assoc, Nat.mul_comm (10 - w s), ← Nat.mul_assoc, v1']
        have h2 : ∀ a b c d : Nat, a * 10 * b = c * 10 * d → a * b = c * d := fun a b c d y => by
          rw [Nat.mul_assoc, Nat.mul_comm 10 b, ← Nat.mul_assoc, Nat.mul_assoc c, Nat.mul_comm 10 d, ← Nat.mul_assoc] at y
          omega
        exact h2 _ _ _ _ h1
      have hcn : fb_ct (up1 (up1 f r true) s false) H = fb_ct f H := by omega
      rcases cmp with cmp | ⟨cmp, cmp2⟩
      · have hlt : vl w H f < vl w H (up1 (up1 f r true) s false) := by
          have h1 : vl w H f * (10 - w r) < vl w H f * (10 - w s) := Nat.mul_lt_mul_of_pos_left (by omega) hA
          rw [← key] at h1
          exact Nat.lt_of_mul_lt_mul_right h1
        rcases ihx with y | ⟨y, _⟩
        · exact Or.inl (by omega)
        · exact Or.inl (by omega)
      · have heq : vl w H f = vl w H (up1 (up1 f r true) s false) := by
          rw [cmp] at key
          exact (Nat.eq_of_mul_eq_mul_right (by omega) key).symm
        have hp : 2 ^ r < 2 ^ s := Nat.pow_lt_pow_right (by omega) cmp2
        have hrow : rowB (up1 (up1 f r true) s false) ≤ rowB f := by omega
        rcases ihx with y | ⟨y1, y2 | ⟨y2, y3⟩⟩
        · exact Or.inl (by omega)
        · exact Or.inr ⟨by omega, Or.inl (by omega)⟩
        · exact Or.inr ⟨by omega, Or.inr ⟨by omega, by omega⟩⟩
    · have sub : ∀ q, q < H → up1 f r true q = true → G q = true := fun q hq y => by
        by_cases q1 : q = r
        · rw [q1]; exact hg
        · rw [up1_ne q1] at y
          cases q2 : G q
          · exact absurd ⟨q, hq, by rw [y, q2]; rfl⟩ z
          · rfl
      have hcle := fb_ct_sub sub
      have ihx := ih (up1 f r true) (fun q hq => by rw [up1_ne (by omega)]; exact hf0 q hq) (by omega) m1e
      have hA : 0 < vl w H f := pr_pos (fun k hk => fac_pos hw f hk)
      have hwp := hG1 r hr hg
      have hlt : vl w H f < vl w H (up1 f r true) := by
        have h1 : vl w H f * (10 - w r) < vl w H f * 10 := Nat.mul_lt_mul_of_pos_left (by omega) hA
        rw [← v1'] at h1
        exact Nat.lt_of_mul_lt_mul_right h1
      rcases ihx with y | ⟨y, _⟩
      · exact Or.inl (by omega)
      · exact Or.inl (by omega)
end EX
/-! the reference's best -/
def lsI (V C : Nat → Nat) (n i b : Nat) : Nat := if C i ≤ n ∧ (V b < V i ∨ (V i = V b ∧ C i < C b)) then i else b
def ls (V C : Nat → Nat) (n : Nat) : Nat → Nat → Nat → Nat
  | 0, _, b => b
  | d + 1, i, b => ls V C n d (i + 1) (lsI V C n i b)
theorem ls_best {V C : Nat → Nat} {n : Nat} : ∀ {d i b : Nat}, b < i → C b ≤ n → (∀ s, s < i → C s ≤ n → V s < V b ∨ (V s = V b ∧ (C b < C s ∨ (C s = C b ∧ b ≤ s)))) → ls V C n d i b < i + d ∧ C (ls V C n d i b) ≤ n ∧ ∀ s, s < i + d → C s ≤ n → V s < V (ls V C n d i b) ∨ (V s = V (ls V C n d i b) ∧ (C (ls V C n d i b) < C s ∨ (C s = C (ls V C n d i b) ∧ ls V C n d i b ≤ s))) := by
  intro d
  induction d with
  | zero => intro i b h1 h2 h3; exact ⟨h1, h2, h3⟩
  | succ d ih =>
    intro i b h1 h2 h3
    show ls V C n d (i + 1) (lsI V C n i b) < i + (d + 1) ∧ _
    rw [show i + (d + 1) = i + 1 + d by omega]
    unfold lsI
    by_cases q : C i ≤ n ∧ (V b < V i ∨ (V i = V b ∧ C i < C b))
    · have e : ls V C n (d + 1) i b = ls V C n d (i + 1) i := by
        show ls V C n d (i + 1) (lsI V C n i b) = _
        unfold lsI
        rw [if_pos q]
      rw [e, if_pos q]
      refine ih (by omega) q.1 (fun s hs hc => ?_)
      by_cases z : s = i
      · rw [z]; exact Or.inr ⟨rfl, Or.inr ⟨rfl, Nat.le_refl _⟩⟩
      · have := h3 s (by omega) hc
        omega
    · have e : ls V C n (d + 1) i b = ls V C n d (i + 1) b := by
        show ls V C n d (i + 1) (lsI V C n i b) = _
        unfold lsI
        rw [if_neg q]
      rw [e, if_neg q]
      refine ih (by omega) h2 (fun s hs hc => ?_)
      by_cases z : s = i
      · rw [z] at hc ⊢
        omega
      · exact h3 s (by omega) hc
/-! longs -/
theorem lN_div {a b : Nat} (ha : a < 2 ^ 63) (hb : b < 2 ^ 63) : lN a / lN b = lN (a / b) := (Int64.ofNat_div ha hb).symm
theorem lN_rem {a b : Nat} (ha : a < 2 ^ 63) (hb : b < 2 ^ 63) : qm_lrem (lN a) (lN b) = lN (a % b) := by
  unfold qm_lrem
  rw [lN_div ha hb, lN_mul, lN_sub (Nat.div_mul_le_self a b)]
  congr 1
  have := Nat.div_add_mod a b
  rw [Nat.mul_comm] at this
  omega
theorem l_sub {a b : Nat} (ha : a < 2 ^ 31) (hb : b < 2 ^ 31) : (lN a - lN b).toInt = (a : Int) - (b : Int) := by
  rw [Int64.toInt_sub, lN_toInt ha, lN_toInt hb]
  exact Int.bmod_eq_of_le (by simp only [Nat.reducePow] at *; omega) (by simp only [Nat.reducePow] at *; omega)
theorem l_cmpg (x y : Int64) : (nI 0 < lg_cmp x y) = (y < x) := by
  unfold lg_cmp
  by_cases h : x > y
  · rw [if_pos h]
    exact propext ⟨fun _ => h, fun _ => by decide⟩
  · rw [if_neg h]
    refine propext ⟨fun z => ?_, fun z => absurd z h⟩
    by_cases e : x = y
    · rw [if_pos e] at z
      exact absurd z (by decide)
    · rw [if_neg e] at z
      exact absurd z (by decide)
theorem l_gt {a b : Nat} (ha : a < 2 ^ 31) (hb : b < 2 ^ 31) : ((0 : Int64) < lN a - lN b) = (b < a) := by
  rw [Int64.lt_iff_toInt_lt, l_sub ha hb, show (0 : Int64).toInt = 0 from rfl]
  exact propext ⟨fun z => by omega, fun z => by omega⟩
theorem l_eq0 {a b : Nat} (ha : a < 2 ^ 31) (hb : b < 2 ^ 31) : (lN a - lN b = (0 : Int64)) = (a = b) := by
  rw [← Int64.toInt_inj, l_sub ha hb, show (0 : Int64).toInt = 0 from rfl]
  exact propext ⟨fun z => by omega, fun z => by omega⟩
theorem l_k0 : (0 : Int64) = lN 0 := rfl
/-! Euclid -/
theorem eu_rounds : ∀ k x y, y < 2 ^ k → ∀ (E : Nat → Nat → Nat → Prop), (∀ t x, E t x 0) → (∀ t x y, 0 < y → E t y (x % y) → E (t + 1) x y) → (∀ t x y, E t x y → E (t + 1) x y) → E (2 * k + 1) x y := by
  intro k
  induction k with
  | zero =>
    intro x y hy E h0 h1 h2
    have : y = 0 := by simp at hy; exact hy
    subst this
    exact h0 _ _
  | succ k ih =>
    intro x y hy E h0 h1 h2
    by_cases z : y = 0
    · subst z; exact h0 _ _
    · rw [show 2 * (k + 1) + 1 = (2 * k + 1 + 1) + 1 by omega]
      refine h1 _ _ _ (by omega) ?_
      by_cases z2 : x % y = 0
      · rw [z2]; exact h0 _ _
      · have hr : x % y < y := Nat.mod_lt _ (by omega)
        have hr2 : y % (x % y) < x % y := Nat.mod_lt _ (by omega)
        refine h1 _ _ _ (by omega) (ih _ _ ?_ E h0 h1 h2)
        have hle : x % y + y % (x % y) ≤ y := by
          have hd := Nat.div_add_mod y (x % y)
          have : 1 ≤ y / (x % y) := (Nat.one_le_div_iff (by omega)).mpr (by omega)
          have : x % y * 1 ≤ x % y * (y / (x % y)) := Nat.mul_le_mul_left _ this
          omega
        rw [Nat.pow_succ] at hy
        omega
theorem gcd_step {x y : Nat} (hy : 0 < y) : Nat.gcd y (x % y) = Nat.gcd x y := by
  rw [Nat.gcd_comm x y, Nat.gcd_rec y x, Nat.gcd_comm]
theorem c_gcd {x y : Nat} (hx : x < 2 ^ 28) (hy : y < 2 ^ 28) (h : qm_H) : qX11_commonDivisor (lN x) (lN y) h = some (lN (Nat.gcd x y), h) := by
  unfold qX11_commonDivisor
  have := eu_rounds 28 x y hy (fun t x y => x < 2 ^ 28 → y < 2 ^ 28 → ∀ i fuel, i + t ≤ 199 → t < fuel → qX11_commonDivisor_9 fuel (lN x) (lN y) (nI i) h = some (lN (Nat.gcd x y), h)) (fun t x hx _ i fuel hi hf => by
    obtain ⟨g, rfl⟩ : ∃ g, fuel = g + 1 := ⟨fuel - 1, by omega⟩
    have k200 : (200 : Int32) = nI 200 := rfl
    unfold qX11_commonDivisor_9
    rw [k200, if_pos (show nI i < nI 200 by rw [n_lt (by omega) (by omega)]; omega), if_pos (by rw [k_0, l_cmp0]; rfl), Nat.gcd_zero_right]) (fun t x y hyp IH hx hy i fuel hi hf => by
    obtain ⟨g, rfl⟩ : ∃ g, fuel = g + 1 := ⟨fuel - 1, by omega⟩
    have k200 : (200 : Int32) = nI 200 := rfl
    have hr : x % y < y := Nat.mod_lt _ hyp
    have ne : ¬ lN y = (0 : Int64) := by
      rw [l_k0, lN_eq (by omega) (by omega)]
      omega
    unfold qX11_commonDivisor_9
    rw [k200, if_pos (show nI i < nI 200 by rw [n_lt (by omega) (by omega)]; omega), if_neg (by rw [k_0, l_cmp0]; exact ne), if_neg ne, let_e, lN_rem (by omega) (by omega), k_1, nI_add, IH hy (by omega) (i + 1) g (by omega) (by omega), gcd_step hyp]) (fun t x y IH hx hy i fuel hi hf => IH hx hy i fuel (by omega) (by omega))
  exact this hx hy 0 qm_N (by omega) (by unfold qm_N; omega)
theorem m_gcd {x y : Nat} (hx : x < 2 ^ 28) (hy : y < 2 ^ 28) (h : qm_H) : qX12_common (lN x) (lN y) h = some (lN (Nat.gcd x y), h) := by
  unfold qX12_common
  have := eu_rounds 28 x y hy (fun t x y => x < 2 ^ 28 → y < 2 ^ 28 → ∀ fuel, t < fuel → qX12_common_6 fuel (lN x) (lN y) h = some (lN (Nat.gcd x y), h)) (fun t x hx _ fuel hf => by
    obtain ⟨g, rfl⟩ : ∃ g, fuel = g + 1 := ⟨fuel - 1, by omega⟩
    unfold qX12_common_6
    rw [if_pos (by rw [k_0, l_cmp0]; rfl), Nat.gcd_zero_right]) (fun t x y hyp IH hx hy fuel hf => by
    obtain ⟨g, rfl⟩ : ∃ g, fuel = g + 1 := ⟨fuel - 1, by omega⟩
    have hr : x % y < y := Nat.mod_lt _ hyp
    have ne : ¬ lN y = (0 : Int64) := by
      rw [l_k0, lN_eq (by omega) (by omega)]
      omega
    unfold qX12_common_6
    rw [if_neg (by rw [k_0, l_cmp0]; exact ne), if_neg ne, let_e, lN_rem (by omega) (by omega), IH hy (by omega) g (by omega), gcd_step hyp]) (fun t x y IH hx hy fuel hf => IH hx hy fuel (by omega))
  exact this hx hy qm_N (by unfold qm_N; omega)
