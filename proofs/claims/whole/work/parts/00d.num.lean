/-! NUMBERS: ints that are small naturals. -/
theorem n_mul (a b : Nat) : nI a * nI b = nI (a * b) := (Int32.ofNat_mul a b).symm
theorem n_sub {a b : Nat} (h : b ≤ a) : nI a - nI b = nI (a - b) := (Int32.ofNat_sub a b h).symm
theorem n_div {a b : Nat} (ha : a < 2147483648) (hb : b < 2147483648) : nI a / nI b = nI (a / b) := (Int32.ofNat_div ha hb).symm
theorem n_rem {a b : Nat} (ha : a < 2147483648) (hb : b < 2147483648) : qm_irem (nI a) (nI b) = nI (a % b) := by
  unfold qm_irem
  rw [n_div ha hb, n_mul, n_sub (Nat.div_mul_le_self a b)]
  congr 1
  have := Nat.div_add_mod a b
  rw [Nat.mul_comm] at this
  omega
theorem n_lt {a b : Nat} (ha : a < 2147483648) (hb : b < 2147483648) : (nI a < nI b) = (a < b) := propext (nI_ltI ha hb)
theorem n_le {a b : Nat} (ha : a < 2147483648) (hb : b < 2147483648) : (nI a ≤ nI b) = (a ≤ b) := propext (nI_leI ha hb)
theorem n_eq {a b : Nat} (ha : a < 2147483648) (hb : b < 2147483648) : (nI a = nI b) = (a = b) := propext (nI_eq ha hb)
theorem n_cl {a : Nat} (ha : a < 2147483648) : (nI a).toNatClampNeg = a := nI_clamp ha
theorem n_and (a b : Nat) : nI a &&& nI b = nI (a &&& b) := by
  apply Int32.toBitVec_inj.mp
  rw [Int32.toBitVec_and]
  show BitVec.ofNat 32 a &&& BitVec.ofNat 32 b = BitVec.ofNat 32 (a &&& b)
  exact (BitVec.ofNat_and ..).symm
theorem n_or (a b : Nat) : nI a ||| nI b = nI (a ||| b) := by
  apply Int32.toBitVec_inj.mp
  rw [Int32.toBitVec_or]
  show BitVec.ofNat 32 a ||| BitVec.ofNat 32 b = BitVec.ofNat 32 (a ||| b)
  exact (BitVec.ofNat_or ..).symm
theorem n_xor (a b : Nat) : nI a ^^^ nI b = nI (a ^^^ b) := by
  apply Int32.toBitVec_inj.mp
  rw [Int32.toBitVec_xor]
  show BitVec.ofNat 32 a ^^^ BitVec.ofNat 32 b = BitVec.ofNat 32 (a ^^^ b)
  exact (BitVec.ofNat_xor ..).symm
/-! literals -/
theorem k_0 : (0 : Int32) = nI 0 := rfl
theorem k_1 : (1 : Int32) = nI 1 := rfl
theorem k_2 : (2 : Int32) = nI 2 := rfl
theorem k_3 : (3 : Int32) = nI 3 := rfl
theorem k_4 : (4 : Int32) = nI 4 := rfl
theorem k_5 : (5 : Int32) = nI 5 := rfl
theorem k_6 : (6 : Int32) = nI 6 := rfl
theorem k_7 : (7 : Int32) = nI 7 := rfl
theorem k_8 : (8 : Int32) = nI 8 := rfl
theorem k_9 : (9 : Int32) = nI 9 := rfl
theorem k_10 : (10 : Int32) = nI 10 := rfl
theorem k_11 : (11 : Int32) = nI 11 := rfl
theorem k_16 : (16 : Int32) = nI 16 := rfl
theorem k_17 : (17 : Int32) = nI 17 := rfl
theorem k_19 : (19 : Int32) = nI 19 := rfl
theorem k_20 : (20 : Int32) = nI 20 := rfl
theorem k_24 : (24 : Int32) = nI 24 := rfl
theorem k_26 : (26 : Int32) = nI 26 := rfl
theorem k_27 : (27 : Int32) = nI 27 := rfl
theorem k_30 : (30 : Int32) = nI 30 := rfl
theorem k_32 : (32 : Int32) = nI 32 := rfl
theorem k_33 : (33 : Int32) = nI 33 := rfl
theorem k_35 : (35 : Int32) = nI 35 := rfl
theorem k_40 : (40 : Int32) = nI 40 := rfl
theorem k_43 : (43 : Int32) = nI 43 := rfl
theorem k_48 : (48 : Int32) = nI 48 := rfl
theorem k_50 : (50 : Int32) = nI 50 := rfl
theorem k_57 : (57 : Int32) = nI 57 := rfl
theorem k_60 : (60 : Int32) = nI 60 := rfl
theorem k_64 : (64 : Int32) = nI 64 := rfl
theorem k_81 : (81 : Int32) = nI 81 := rfl
theorem k_86 : (86 : Int32) = nI 86 := rfl
theorem k_34 : (34 : Int32) = nI 34 := rfl
theorem k_66 : (66 : Int32) = nI 66 := rfl
theorem k_322 : (322 : Int32) = nI 322 := rfl
theorem k_97 : (97 : Int32) = nI 97 := rfl
theorem k_99 : (99 : Int32) = nI 99 := rfl
theorem k_100 : (100 : Int32) = nI 100 := rfl
theorem k_122 : (122 : Int32) = nI 122 := rfl
theorem k_128 : (128 : Int32) = nI 128 := rfl
theorem k_160 : (160 : Int32) = nI 160 := rfl
theorem k_161 : (161 : Int32) = nI 161 := rfl
theorem k_255 : (255 : Int32) = nI 255 := rfl
theorem k_256 : (256 : Int32) = nI 256 := rfl
theorem k_512 : (512 : Int32) = nI 512 := rfl
theorem k_580 : (580 : Int32) = nI 580 := rfl
theorem k_600 : (600 : Int32) = nI 600 := rfl
theorem k_1000 : (1000 : Int32) = nI 1000 := rfl
theorem k_4096 : (4096 : Int32) = nI 4096 := rfl
theorem k_far : (1000000 : Int32) = nI 1000000 := rfl
/-! -1, -2 -/
def m1 : Int32 := -1
def m2 : Int32 := -2
theorem q_m1 : (-1 : Int32) = m1 := rfl
theorem q_m2 : (-2 : Int32) = m2 := rfl
theorem m1_lt {a : Nat} (h : a < 2147483648) : (nI a < m1) = False := by
  rw [Int32.lt_iff_toInt_lt, nI_toInt h, show m1.toInt = -1 from rfl]
  exact eq_false (by omega)
theorem lt_m1 {a : Nat} (h : a < 2147483648) : (m1 < nI a) = True := by
  rw [Int32.lt_iff_toInt_lt, nI_toInt h, show m1.toInt = -1 from rfl]
  exact eq_true (by omega)
theorem m1_eq {a : Nat} (h : a < 2147483648) : (nI a = m1) = False := by
  rw [← Int32.toInt_inj, nI_toInt h, show m1.toInt = -1 from rfl]
  exact eq_false (by omega)
theorem eq_m1 {a : Nat} (h : a < 2147483648) : (m1 = nI a) = False := by
  rw [← Int32.toInt_inj, nI_toInt h, show m1.toInt = -1 from rfl]
  exact eq_false (by omega)
theorem le_m1 {a : Nat} (h : a < 2147483648) : (nI a ≤ m1) = False := by
  rw [Int32.le_iff_toInt_le, nI_toInt h, show m1.toInt = -1 from rfl]
  exact eq_false (by omega)
theorem m1_le {a : Nat} (h : a < 2147483648) : (m1 ≤ nI a) = True := by
  rw [Int32.le_iff_toInt_le, nI_toInt h, show m1.toInt = -1 from rfl]
  exact eq_true (by omega)
theorem m2_eq {a : Nat} (h : a < 2147483648) : (nI a = m2) = False := by
  rw [← Int32.toInt_inj, nI_toInt h, show m2.toInt = -2 from rfl]
  exact eq_false (by omega)
/-! a bit of a small set; shifts -/
theorem sh_c : ∀ n, n < 32 → ((nI n &&& 31).toBitVec.smod 32).toNat = n := by decide +kernel
theorem n_shl {a k : Nat} (hk : k < 32) (h : a * 2 ^ k < 4294967296) : qm_ishl (nI a) (nI k) = nI (a * 2 ^ k) := pk_shlN _ k (sh_c k hk) h
theorem n_shr {a k : Nat} (ha : a < 2147483648) (hk : k < 32) : qm_ishr (nI a) (nI k) = nI (a / 2 ^ k) := pk_shrN ha _ k (sh_c k hk)
/-! heaps -/
theorem up_eq {α : Type} (f : Nat → Nat → α) (a k : Nat) (x : α) : qm_up f a k x a k = x := if_pos ⟨rfl, rfl⟩
theorem up_ne {α : Type} {f : Nat → Nat → α} {a k b j : Nat} {x : α} (h : ¬ (b = a ∧ j = k)) : qm_up f a k x b j = f b j := if_neg h
theorem up_na {α : Type} {f : Nat → Nat → α} {a k b : Nat} {x : α} (h : b ≠ a) : qm_up f a k x b = f b := funext fun _ => if_neg (fun q => h q.1)
/-- h' is h but at the cells of P -/
def qFr (P : Nat → Nat → Prop) (h h' : qm_H) : Prop := ∀ a k, ¬ P a k → h'.1 a k = h.1 a k ∧ h'.2 a k = h.2 a k
theorem qFr.refl (P : Nat → Nat → Prop) (h : qm_H) : qFr P h h := fun _ _ _ => ⟨rfl, rfl⟩
theorem qFr.trans {P : Nat → Nat → Prop} {h h1 h2 : qm_H} (a : qFr P h h1) (b : qFr P h1 h2) : qFr P h h2 := fun q k hq => ⟨(b q k hq).1.trans (a q k hq).1, (b q k hq).2.trans (a q k hq).2⟩
theorem qFr.mono {P Q : Nat → Nat → Prop} {h h1 : qm_H} (a : qFr P h h1) (i : ∀ q k, P q k → Q q k) : qFr Q h h1 := fun q k hq => a q k (fun z => hq (i q k z))
theorem qFr.seti {P : Nat → Nat → Prop} {h : qm_H} {a k : Nat} {x : Int32} (i : P a k) : qFr P h (qm_seti h a k x) := fun q j hq => ⟨up_ne (fun e => hq (by rw [e.1, e.2]; exact i)), rfl⟩
theorem qFr.setl {P : Nat → Nat → Prop} {h : qm_H} {a k : Nat} {x : Int64} (i : P a k) : qFr P h (qm_setl h a k x) := fun q j hq => ⟨rfl, up_ne (fun e => hq (by rw [e.1, e.2]; exact i))⟩
theorem b2_some {α β : Type} (a : α) (h : qm_H) (k : α → qm_H → Option β) : qm_b2 (some (a, h)) k = k a h := Eq.trans (Eq.refl _) (Eq.refl _)
theorem let_e {α β : Type} (v : α) (k : α → β) : qm_let v k = k v := Eq.trans (Eq.refl _) (Eq.refl _)
theorem ob_some {α β : Type} (a : α) (k : α → Option β) : (some a).bind k = k a := Eq.trans (Eq.refl _) (Eq.refl _)
/-- a truth value -/
def bI (b : Bool) : Int32 := if b then 1 else 0
theorem bI_t : bI true = nI 1 := rfl
theorem bI_f : bI false = nI 0 := rfl
theorem bI_0 (b : Bool) : (bI b = nI 0) = (b = false) := by cases b <;> simp [bI, nI] 
theorem bI_a (b : Bool) : (bI b &&& nI 1 = bI b) = True := by cases b <;> simp [bI, nI] <;> decide
theorem k_o (n : Nat) : Int32.ofNat n = nI n := rfl
theorem sI_eq (h : qm_H) (a k : Nat) (x : Int32) : (qm_seti h a k x).1 a k = x := if_pos ⟨rfl, rfl⟩
theorem sI_ne {h : qm_H} {a k b j : Nat} {x : Int32} (q : ¬ (b = a ∧ j = k)) : (qm_seti h a k x).1 b j = h.1 b j := if_neg q
