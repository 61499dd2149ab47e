/-! ONE STEP of the clean machine is one step of the JVM. -/
/-- how long an instruction is -/
def qm_len (ins : Instr) (n : Nat) : Bool := match ins with
  | .bipush _ | .iload _ | .lload _ | .aload _ | .istore _ | .lstore _ | .astore _ | .ldc _ => n == 2
  | .sipush _ | .iinc _ _ | .goto _ | .ifCond _ _ | .if_icmp _ _ | .ifnull _ | .ifnonnull _ | .ldc_w _ | .ldc2_w _ | .getfield _ | .putfield _ | .invokevirtual _ | .invokespecial _ | .invokestatic _ => n == 3
  | .tableswitch _ _ _ _ => true
  | _ => n == 1
def qm_plain (ins : Instr) : Bool := match ins with
  | .ldc _ | .ldc_w _ | .ldc2_w _ | .getfield _ | .putfield _ | .arraylength | .iaload | .baload | .laload | .aaload | .iastore | .bastore | .lastore | .invokevirtual _ | .invokespecial _ | .invokestatic _ | .ireturn | .lreturn | .areturn | .return_ => false
  | _ => true
def qm_wp (X : Option (qm_F ⊕ qm_O)) (K : Nat → List (Option qm_V) → List qm_V → qm_H → Prop) (E : qm_O → Prop) : Prop := match X with
  | none => False
  | some (.inl f) => K f.1 f.2.1 f.2.2.1 f.2.2.2
  | some (.inr o) => E o
section QW
variable {K : Nat → List (Option qm_V) → List qm_V → qm_H → Prop} {E : qm_O → Prop}
theorem qm_wp_ii {S : List qm_V} {k : Int32 → Int32 → List qm_V → Option (qm_F ⊕ qm_O)} (h : qm_wp (qm_ii S k) K E) : ∃ x y T, S = qm_i y :: qm_i x :: T ∧ qm_wp (k x y T) K E := by
  unfold qm_ii at h
  split at h
  · exact ⟨_, _, _, rfl, h⟩
  · exact h.elim
theorem qm_wp_ll {S : List qm_V} {k : Int64 → Int64 → List qm_V → Option (qm_F ⊕ qm_O)} (h : qm_wp (qm_ll S k) K E) : ∃ x y T, S = qm_l y :: qm_l x :: T ∧ qm_wp (k x y T) K E := by
  unfold qm_ll at h
  split at h
  · exact ⟨_, _, _, rfl, h⟩
  · exact h.elim
theorem qm_wp_li {S : List qm_V} {k : Int64 → Int32 → List qm_V → Option (qm_F ⊕ qm_O)} (h : qm_wp (qm_li S k) K E) : ∃ x y T, S = qm_i y :: qm_l x :: T ∧ qm_wp (k x y T) K E := by
  unfold qm_li at h
  split at h
  · exact ⟨_, _, _, rfl, h⟩
  · exact h.elim
theorem qm_wp_1i {S : List qm_V} {k : Int32 → List qm_V → Option (qm_F ⊕ qm_O)} (h : qm_wp (qm_1i S k) K E) : ∃ x T, S = qm_i x :: T ∧ qm_wp (k x T) K E := by
  unfold qm_1i at h
  split at h
  · exact ⟨_, _, rfl, h⟩
  · exact h.elim
theorem qm_wp_1l {S : List qm_V} {k : Int64 → List qm_V → Option (qm_F ⊕ qm_O)} (h : qm_wp (qm_1l S k) K E) : ∃ x T, S = qm_l x :: T ∧ qm_wp (k x T) K E := by
  unfold qm_1l at h
  split at h
  · exact ⟨_, _, rfl, h⟩
  · exact h.elim
theorem qm_wp_1r {S : List qm_V} {k : Option (Nat × Nat × Nat) → List qm_V → Option (qm_F ⊕ qm_O)} (h : qm_wp (qm_1r S k) K E) : ∃ x T, S = .inr (.inr x) :: T ∧ qm_wp (k x T) K E := by
  unfold qm_1r at h
  split at h
  · exact ⟨_, _, rfl, h⟩
  · exact h.elim
theorem qm_wp_ldi {L : List (Option qm_V)} {i : Nat} {k : Int32 → Option (qm_F ⊕ qm_O)} (h : qm_wp (qm_ldi L i k) K E) : ∃ x, L[i]? = some (some (qm_i x)) ∧ qm_wp (k x) K E := by
  unfold qm_ldi at h
  split at h
  · rename_i e; exact ⟨_, qm_getD e, h⟩
  · exact h.elim
theorem qm_wp_ldl {L : List (Option qm_V)} {i : Nat} {k : Int64 → Option (qm_F ⊕ qm_O)} (h : qm_wp (qm_ldl L i k) K E) : ∃ x, L[i]? = some (some (qm_l x)) ∧ qm_wp (k x) K E := by
  unfold qm_ldl at h
  split at h
  · rename_i e; exact ⟨_, qm_getD e, h⟩
  · exact h.elim
theorem qm_wp_lda {L : List (Option qm_V)} {i : Nat} {k : Option (Nat × Nat × Nat) → Option (qm_F ⊕ qm_O)} (h : qm_wp (qm_lda L i k) K E) : ∃ x, L[i]? = some (some (.inr (.inr x))) ∧ qm_wp (k x) K E := by
  unfold qm_lda at h
  split at h
  · rename_i e; exact ⟨_, qm_getD e, h⟩
  · exact h.elim
theorem qm_wp_ai {S : List qm_V} {k : Int32 → Nat → Nat → Nat → List qm_V → Option (qm_F ⊕ qm_O)} (h : qm_wp (qm_ai S k) K E) : ∃ j s n a T, S = qm_i j :: qm_r s n a :: T ∧ vp_in j n ∧ qm_wp (k j s n a T) K E := by
  unfold qm_ai at h
  split at h
  · split at h
    · exact h.elim
    · rename_i q; exact ⟨_, _, _, _, _, rfl, q, h⟩
  · exact h.elim
theorem qm_wp_if {c : Prop} [Decidable c] {X : Option (qm_F ⊕ qm_O)} (h : qm_wp (if c then X else none) K E) : c ∧ qm_wp X K E := by
  split at h
  · rename_i q; exact ⟨q, h⟩
  · exact h.elim
theorem qm_wp_ifn {c : Prop} [Decidable c] {X : Option (qm_F ⊕ qm_O)} (h : qm_wp (if c then none else X) K E) : ¬ c ∧ qm_wp X K E := by
  split at h
  · exact h.elim
  · rename_i q; exact ⟨q, h⟩
end QW
theorem qm_tgt_eq {pc : Nat} {off : Int} (h : ¬ (pc : Int) + off < 0) : (pc : Int) + off = ((qm_tgt pc off : Nat) : Int) := by
  unfold qm_tgt
  omega
/-- what holds behind a method: its answer and the heap -/
def qm_Qc (g : qm_G) (o : qm_O) : Array Value → State → Outcome → State → Prop := fun _ _ oc t => oc = .returned (o.1.map (qm_tr g)) ∧ qm_HR g o.2 t.heap ∧ ∀ v, o.1 = some v → qm_okv g v
abbrev qm_free (g : qm_G) : Addr → Prop := fun q => qm_b g ≤ q
section QS
variable {p : Program} {l : Launch} {e : Env} {R : Room} {s : State} {m : MethodId} {args : Array Value} {below : List Frame} {meth : Method} {c : Code} {Q : State → Prop} {g : qm_G} {nL : Nat} {cc : ByteArray}
def qm_W (p : Program) (l : Launch) (e : Env) (R : Room) (s : State) (m : MethodId) (args : Array Value) (below : List Frame) (meth : Method) (c : Code) (Q : State → Prop) (g : qm_G) (nL : Nat) (pc : Nat) (L : List (Option qm_V)) (S : List qm_V) (h : qm_H) : Prop :=
  (∀ v ∈ S, qm_okv g v) → ∀ (ls : Array Slot) (H : Heap) (locs : List Loc), qm_LR g ls nL L → qm_HR g h H → (∀ q ∈ locs, qm_b g ≤ q.base) → W p l e R s m args below meth c H locs 0 0 Q (F0 m pc ls (S.map (qm_tr g)))
variable {pc : Nat} {L : List (Option qm_V)} {S T : List qm_V} {h : qm_H}
theorem qm_put_loc {locs : List Loc} {a k : Nat} (hG : qm_GO g) {so n b : Nat} (ho : qm_ok g so n b) (e : qm_ad g b = a) (hl : ∀ q ∈ locs, qm_b g ≤ q.base) : ∀ q ∈ locs ++ [(⟨a, k⟩ : Loc)], qm_b g ≤ q.base := by
  intro q hq
  rcases List.mem_append.mp hq with h1 | h1
  · exact hl q h1
  · rw [List.mem_singleton.mp h1, ← e]
    exact (hG.1 _ _ _ ho).2
/-- a step without the heap -/
theorem qm_step_plain (hx : p.tables.exec = Jvm.exec) (hb : c.code = cc) {ret : Option FieldType} {fld : Nat → Option (Nat × Nat)} {con : Nat → Option qm_V} {call : Nat → Option (Nat × Nat × qm_C)} {ins : Instr} {len : Nat} {E : qm_O → Prop}
    (hdg : decode cc pc = .ok (ins, len)) (hp : qm_plain ins = true) (hlen : qm_len ins len = true)
    (hw : qm_wp (qm_step ret fld con call ins len pc L S h) (qm_W p l e R s m args below meth c Q g nL) E) : qm_W p l e R s m args below meth c Q g nL pc L S h := by
  intro hS ls H locs hL hH hl
  cases ins
  case iconst n => obtain rfl : len = 1 := eq_of_beq hlen; exact lv_iconst hx hb hdg rfl (hw (qm_ca trivial hS) ls H locs hL hH hl)
  case bipush n => obtain rfl : len = 2 := eq_of_beq hlen; exact lv_bipush hx hb hdg rfl (hw (qm_ca trivial hS) ls H locs hL hH hl)
  case sipush n => obtain rfl : len = 3 := eq_of_beq hlen; exact lv_sipush hx hb hdg rfl (hw (qm_ca trivial hS) ls H locs hL hH hl)
  case lconst n => obtain rfl : len = 1 := eq_of_beq hlen; exact lv_lconst hx hb hdg rfl (hw (qm_ca trivial hS) ls H locs hL hH hl)
  case aconst_null => obtain rfl : len = 1 := eq_of_beq hlen; exact lv_null hx hb hdg (hw (qm_ca trivial hS) ls H locs hL hH hl)
  case iload_n k => obtain rfl : len = 1 := eq_of_beq hlen; obtain ⟨x, h1, hw⟩ := qm_wp_ldi hw; exact lv_iload_n hx hb hdg rfl (hL.2.2.2 _ _ h1).2 (hw (qm_ca trivial hS) ls H locs hL hH hl)
  case iload k => obtain rfl : len = 2 := eq_of_beq hlen; obtain ⟨x, h1, hw⟩ := qm_wp_ldi hw; exact lv_iload hx hb hdg (hL.2.2.2 _ _ h1).2 (hw (qm_ca trivial hS) ls H locs hL hH hl)
  case lload_n k => obtain rfl : len = 1 := eq_of_beq hlen; obtain ⟨x, h1, hw⟩ := qm_wp_ldl hw; exact lv_lload_n hx hb hdg rfl (hL.2.2.2 _ _ h1).2 (hw (qm_ca trivial hS) ls H locs hL hH hl)
  case lload k => obtain rfl : len = 2 := eq_of_beq hlen; obtain ⟨x, h1, hw⟩ := qm_wp_ldl hw; exact lv_lload hx hb hdg (hL.2.2.2 _ _ h1).2 (hw (qm_ca trivial hS) ls H locs hL hH hl)
  case aload_n k =>
    obtain rfl : len = 1 := eq_of_beq hlen; obtain ⟨x, h1, hw⟩ := qm_wp_lda hw
    cases x with
    | none => exact lv_aload_nN hx hb hdg rfl (hL.2.2.2 _ _ h1).2 (hw (qm_ca trivial hS) ls H locs hL hH hl)
    | some q => exact lv_aload_n hx hb hdg rfl (hL.2.2.2 _ _ h1).2 (hw (qm_ca (hL.2.2.2 _ _ h1).1 hS) ls H locs hL hH hl)
  case aload k =>
    obtain rfl : len = 2 := eq_of_beq hlen; obtain ⟨x, h1, hw⟩ := qm_wp_lda hw
    cases x with
    | none => exact lv_aloadN hx hb hdg (hL.2.2.2 _ _ h1).2 (hw (qm_ca trivial hS) ls H locs hL hH hl)
    | some q => exact lv_aload hx hb hdg (hL.2.2.2 _ _ h1).2 (hw (qm_ca (hL.2.2.2 _ _ h1).1 hS) ls H locs hL hH hl)
  case istore_n k => obtain rfl : len = 1 := eq_of_beq hlen; obtain ⟨x, T, rfl, hw⟩ := qm_wp_1i hw; obtain ⟨h1, hw⟩ := qm_wp_if hw; exact lv_istore_n hx hb hdg rfl hL.has (by rw [← hL.2.1]; exact h1) rfl (fun ls' hl' => hw (qm_tl hS) ls' H locs (hL.st1 trivial hl') hH hl)
  case istore k => obtain rfl : len = 2 := eq_of_beq hlen; obtain ⟨x, T, rfl, hw⟩ := qm_wp_1i hw; obtain ⟨h1, hw⟩ := qm_wp_if hw; exact lv_istore hx hb hdg hL.has (by rw [← hL.2.1]; exact h1) rfl (fun ls' hl' => hw (qm_tl hS) ls' H locs (hL.st1 trivial hl') hH hl)
  case lstore_n k => obtain rfl : len = 1 := eq_of_beq hlen; obtain ⟨x, T, rfl, hw⟩ := qm_wp_1l hw; obtain ⟨h1, hw⟩ := qm_wp_if hw; exact lv_lstore_n hx hb hdg rfl hL.has (by rw [← hL.2.1]; exact h1) rfl (fun ls' hl' => hw (qm_tl hS) ls' H locs (hL.st2 trivial hl') hH hl)
  case lstore k => obtain rfl : len = 2 := eq_of_beq hlen; obtain ⟨x, T, rfl, hw⟩ := qm_wp_1l hw; obtain ⟨h1, hw⟩ := qm_wp_if hw; exact lv_lstore hx hb hdg hL.has (by rw [← hL.2.1]; exact h1) rfl (fun ls' hl' => hw (qm_tl hS) ls' H locs (hL.st2 trivial hl') hH hl)
  case astore_n k =>
    obtain rfl : len = 1 := eq_of_beq hlen; obtain ⟨x, T, rfl, hw⟩ := qm_wp_1r hw; obtain ⟨h1, hw⟩ := qm_wp_if hw
    cases x with
    | none => exact lv_astore_nN hx hb hdg rfl hL.has (by rw [← hL.2.1]; exact h1) rfl (fun ls' hl' => hw (qm_tl hS) ls' H locs (hL.st1 trivial hl') hH hl)
    | some q => exact lv_astore_n hx hb hdg rfl hL.has (by rw [← hL.2.1]; exact h1) rfl (fun ls' hl' => hw (qm_tl hS) ls' H locs (hL.st1 (qm_hd hS) hl') hH hl)
  case astore k =>
    obtain rfl : len = 2 := eq_of_beq hlen; obtain ⟨x, T, rfl, hw⟩ := qm_wp_1r hw; obtain ⟨h1, hw⟩ := qm_wp_if hw
    cases x with
    | none => exact lv_astoreN hx hb hdg hL.has (by rw [← hL.2.1]; exact h1) rfl (fun ls' hl' => hw (qm_tl hS) ls' H locs (hL.st1 trivial hl') hH hl)
    | some q => exact lv_astore hx hb hdg hL.has (by rw [← hL.2.1]; exact h1) rfl (fun ls' hl' => hw (qm_tl hS) ls' H locs (hL.st1 (qm_hd hS) hl') hH hl)
  case iinc k n =>
    obtain rfl : len = 3 := eq_of_beq hlen; obtain ⟨x, h1, hw⟩ := qm_wp_ldi hw; obtain ⟨h2, hw⟩ := qm_wp_if hw
    obtain ⟨j, hj⟩ := List.getElem?_of_mem (qm_prs_mem (g := g) h1)
    exact lv_iinc hx hb hdg hL.has hj rfl (by rw [← hL.2.1]; exact h2) rfl (fun ls' hl' => hw hS ls' H locs (hL.st1 trivial hl') hH hl)
  case iadd => obtain rfl : len = 1 := eq_of_beq hlen; obtain ⟨x, y, T, rfl, hw⟩ := qm_wp_ii hw; exact lv_iadd hx hb hdg (hw (qm_ca trivial (qm_tl (qm_tl hS))) ls H locs hL hH hl)
  case isub => obtain rfl : len = 1 := eq_of_beq hlen; obtain ⟨x, y, T, rfl, hw⟩ := qm_wp_ii hw; exact lv_isub hx hb hdg (hw (qm_ca trivial (qm_tl (qm_tl hS))) ls H locs hL hH hl)
  case imul => obtain rfl : len = 1 := eq_of_beq hlen; obtain ⟨x, y, T, rfl, hw⟩ := qm_wp_ii hw; exact lv_imul hx hb hdg (hw (qm_ca trivial (qm_tl (qm_tl hS))) ls H locs hL hH hl)
  case iand => obtain rfl : len = 1 := eq_of_beq hlen; obtain ⟨x, y, T, rfl, hw⟩ := qm_wp_ii hw; exact lv_iand hx hb hdg (hw (qm_ca trivial (qm_tl (qm_tl hS))) ls H locs hL hH hl)
  case ior => obtain rfl : len = 1 := eq_of_beq hlen; obtain ⟨x, y, T, rfl, hw⟩ := qm_wp_ii hw; exact lv_ior hx hb hdg (hw (qm_ca trivial (qm_tl (qm_tl hS))) ls H locs hL hH hl)
  case ixor => obtain rfl : len = 1 := eq_of_beq hlen; obtain ⟨x, y, T, rfl, hw⟩ := qm_wp_ii hw; exact lv_ixor hx hb hdg (hw (qm_ca trivial (qm_tl (qm_tl hS))) ls H locs hL hH hl)
  case idiv => obtain rfl : len = 1 := eq_of_beq hlen; obtain ⟨x, y, T, rfl, hw⟩ := qm_wp_ii hw; obtain ⟨h1, hw⟩ := qm_wp_ifn hw; exact lv_idiv hx hb hdg h1 (hw (qm_ca trivial (qm_tl (qm_tl hS))) ls H locs hL hH hl)
  case irem => obtain rfl : len = 1 := eq_of_beq hlen; obtain ⟨x, y, T, rfl, hw⟩ := qm_wp_ii hw; obtain ⟨h1, hw⟩ := qm_wp_ifn hw; exact lv_irem hx hb hdg h1 (hw (qm_ca trivial (qm_tl (qm_tl hS))) ls H locs hL hH hl)
  case ishl => obtain rfl : len = 1 := eq_of_beq hlen; obtain ⟨x, y, T, rfl, hw⟩ := qm_wp_ii hw; exact lv_ishl hx hb hdg (hw (qm_ca trivial (qm_tl (qm_tl hS))) ls H locs hL hH hl)
  case ishr => obtain rfl : len = 1 := eq_of_beq hlen; obtain ⟨x, y, T, rfl, hw⟩ := qm_wp_ii hw; exact lv_ishr hx hb hdg (hw (qm_ca trivial (qm_tl (qm_tl hS))) ls H locs hL hH hl)
  case iushr => obtain rfl : len = 1 := eq_of_beq hlen; obtain ⟨x, y, T, rfl, hw⟩ := qm_wp_ii hw; exact lv_iushr hx hb hdg rfl (hw (qm_ca trivial (qm_tl (qm_tl hS))) ls H locs hL hH hl)
  case ineg => obtain rfl : len = 1 := eq_of_beq hlen; obtain ⟨x, T, rfl, hw⟩ := qm_wp_1i hw; exact lv_ineg hx hb hdg (hw (qm_ca trivial (qm_tl hS)) ls H locs hL hH hl)
  case i2l => obtain rfl : len = 1 := eq_of_beq hlen; obtain ⟨x, T, rfl, hw⟩ := qm_wp_1i hw; exact lv_i2l hx hb hdg rfl (hw (qm_ca trivial (qm_tl hS)) ls H locs hL hH hl)
  case i2b => obtain rfl : len = 1 := eq_of_beq hlen; obtain ⟨x, T, rfl, hw⟩ := qm_wp_1i hw; exact lv_i2b hx hb hdg rfl (hw (qm_ca trivial (qm_tl hS)) ls H locs hL hH hl)
  case l2i => obtain rfl : len = 1 := eq_of_beq hlen; obtain ⟨x, T, rfl, hw⟩ := qm_wp_1l hw; exact lv_l2i hx hb hdg rfl (hw (qm_ca trivial (qm_tl hS)) ls H locs hL hH hl)
  case lneg => obtain rfl : len = 1 := eq_of_beq hlen; obtain ⟨x, T, rfl, hw⟩ := qm_wp_1l hw; exact lv_lneg hx hb hdg (hw (qm_ca trivial (qm_tl hS)) ls H locs hL hH hl)
  case ladd => obtain rfl : len = 1 := eq_of_beq hlen; obtain ⟨x, y, T, rfl, hw⟩ := qm_wp_ll hw; exact lv_ladd hx hb hdg (hw (qm_ca trivial (qm_tl (qm_tl hS))) ls H locs hL hH hl)
  case lsub => obtain rfl : len = 1 := eq_of_beq hlen; obtain ⟨x, y, T, rfl, hw⟩ := qm_wp_ll hw; exact lv_lsub hx hb hdg (hw (qm_ca trivial (qm_tl (qm_tl hS))) ls H locs hL hH hl)
  case lmul => obtain rfl : len = 1 := eq_of_beq hlen; obtain ⟨x, y, T, rfl, hw⟩ := qm_wp_ll hw; exact lv_lmul hx hb hdg (hw (qm_ca trivial (qm_tl (qm_tl hS))) ls H locs hL hH hl)
  case land => obtain rfl : len = 1 := eq_of_beq hlen; obtain ⟨x, y, T, rfl, hw⟩ := qm_wp_ll hw; exact lv_land hx hb hdg (hw (qm_ca trivial (qm_tl (qm_tl hS))) ls H locs hL hH hl)
  case lor => obtain rfl : len = 1 := eq_of_beq hlen; obtain ⟨x, y, T, rfl, hw⟩ := qm_wp_ll hw; exact lv_lor hx hb hdg (hw (qm_ca trivial (qm_tl (qm_tl hS))) ls H locs hL hH hl)
  case lxor => obtain rfl : len = 1 := eq_of_beq hlen; obtain ⟨x, y, T, rfl, hw⟩ := qm_wp_ll hw; exact lv_lxor hx hb hdg (hw (qm_ca trivial (qm_tl (qm_tl hS))) ls H locs hL hH hl)
  case ldiv => obtain rfl : len = 1 := eq_of_beq hlen; obtain ⟨x, y, T, rfl, hw⟩ := qm_wp_ll hw; obtain ⟨h1, hw⟩ := qm_wp_ifn hw; exact lv_ldiv hx hb hdg h1 (hw (qm_ca trivial (qm_tl (qm_tl hS))) ls H locs hL hH hl)
  case lrem => obtain rfl : len = 1 := eq_of_beq hlen; obtain ⟨x, y, T, rfl, hw⟩ := qm_wp_ll hw; obtain ⟨h1, hw⟩ := qm_wp_ifn hw; exact lv_lrem hx hb hdg h1 (hw (qm_ca trivial (qm_tl (qm_tl hS))) ls H locs hL hH hl)
  case lcmp => obtain rfl : len = 1 := eq_of_beq hlen; obtain ⟨x, y, T, rfl, hw⟩ := qm_wp_ll hw; exact W.lcmp hx hb hdg (hw (qm_ca trivial (qm_tl (qm_tl hS))) ls H locs hL hH hl)
  case lshl => obtain rfl : len = 1 := eq_of_beq hlen; obtain ⟨x, y, T, rfl, hw⟩ := qm_wp_li hw; exact lv_lshl hx hb hdg rfl (hw (qm_ca trivial (qm_tl (qm_tl hS))) ls H locs hL hH hl)
  case lushr => obtain rfl : len = 1 := eq_of_beq hlen; obtain ⟨x, y, T, rfl, hw⟩ := qm_wp_li hw; exact lv_lushr hx hb hdg rfl (hw (qm_ca trivial (qm_tl (qm_tl hS))) ls H locs hL hH hl)
  case dup =>
    obtain rfl : len = 1 := eq_of_beq hlen
    cases S with
    | nil => exact hw.elim
    | cons v T => obtain ⟨h1, hw⟩ := qm_wp_if hw; exact lv_dup hx hb hdg (by rw [qm_cat_tr]; exact h1) (hw (qm_ca (qm_hd hS) hS) ls H locs hL hH hl)
  case pop =>
    obtain rfl : len = 1 := eq_of_beq hlen
    cases S with
    | nil => exact hw.elim
    | cons v T => obtain ⟨h1, hw⟩ := qm_wp_if hw; exact lv_pop hx hb hdg (by rw [qm_cat_tr]; exact h1) (hw (qm_tl hS) ls H locs hL hH hl)
  case dup2 =>
    obtain rfl : len = 1 := eq_of_beq hlen
    cases S with
    | nil => exact hw.elim
    | cons v T =>
      cases T with
      | nil => exact hw.elim
      | cons w T => obtain ⟨h1, hw⟩ := qm_wp_if hw; exact lv_dup2_11 hx hb hdg (by rw [qm_cat_tr]; exact h1.1) (by rw [qm_cat_tr]; exact h1.2) (hw (qm_ca (qm_hd hS) (qm_ca (qm_hd (qm_tl hS)) hS)) ls H locs hL hH hl)
  case goto off => obtain rfl : len = 3 := eq_of_beq hlen; obtain ⟨h1, hw⟩ := qm_wp_ifn hw; exact lv_goto hx hb hdg (qm_tgt_eq h1) (hw hS ls H locs hL hH hl)
  case ifCond cd off =>
    obtain rfl : len = 3 := eq_of_beq hlen; obtain ⟨x, T, rfl, hw2⟩ := qm_wp_1i hw; unfold qm_br at hw2; obtain ⟨h1, hw2⟩ := qm_wp_ifn hw2
    have ht := qm_tgt_eq h1
    have hw3 : qm_W p l e R s m args below meth c Q g nL (if qm_cond cd x 0 = true then qm_tgt pc off else pc + 3) L T h := hw2
    have k1 : ∀ q : Bool, qm_cond cd x 0 = q → W p l e R s m args below meth c H locs 0 0 Q (F0 m (if q = true then qm_tgt pc off else pc + 3) ls (T.map (qm_tr g))) := fun q hq => by rw [← hq]; exact hw3 (qm_tl hS) ls H locs hL hH hl
    cases cd
    · exact lv_if_eq hx hb hdg ht (fun q => by simpa using k1 true (by simpa [qm_cond] using q)) (fun q => by simpa using k1 false (by simpa [qm_cond] using q))
    · exact lv_if_ne hx hb hdg ht (fun q => by simpa using k1 true (by simpa [qm_cond] using q)) (fun q => by simpa using k1 false (by simpa [qm_cond] using q))
    · exact lv_if_lt hx hb hdg ht (fun q => by simpa using k1 true (by simpa [qm_cond] using q)) (fun q => by simpa using k1 false (by simpa [qm_cond] using q))
    · exact lv_if_ge hx hb hdg ht (fun q => by simpa using k1 true (by simpa [qm_cond] using q)) (fun q => by simpa using k1 false (by simpa [qm_cond] using q))
    · exact lv_if_gt hx hb hdg ht (fun q => by simpa using k1 true (by simpa [qm_cond] using q)) (fun q => by simpa using k1 false (by simpa [qm_cond] using q))
    · exact lv_if_le hx hb hdg ht (fun q => by simpa using k1 true (by simpa [qm_cond] using q)) (fun q => by simpa using k1 false (by simpa [qm_cond] using q))
  case if_icmp cd off =>
    obtain rfl : len = 3 := eq_of_beq hlen; obtain ⟨x, y, T, rfl, hw2⟩ := qm_wp_ii hw; unfold qm_br at hw2; obtain ⟨h1, hw2⟩ := qm_wp_ifn hw2
    have ht := qm_tgt_eq h1
    have hw3 : qm_W p l e R s m args below meth c Q g nL (if qm_cond cd x y = true then qm_tgt pc off else pc + 3) L T h := hw2
    have k1 : ∀ q : Bool, qm_cond cd x y = q → W p l e R s m args below meth c H locs 0 0 Q (F0 m (if q = true then qm_tgt pc off else pc + 3) ls (T.map (qm_tr g))) := fun q hq => by rw [← hq]; exact hw3 (qm_tl (qm_tl hS)) ls H locs hL hH hl
    cases cd
    · exact lv_icmp_eq hx hb hdg ht (fun q => by simpa using k1 true (by simpa [qm_cond] using q)) (fun q => by simpa using k1 false (by simpa [qm_cond] using q))
    · exact lv_icmp_ne hx hb hdg ht (fun q => by simpa using k1 true (by simpa [qm_cond] using q)) (fun q => by simpa using k1 false (by simpa [qm_cond] using q))
    · exact lv_icmp_lt hx hb hdg ht (fun q => by simpa using k1 true (by simpa [qm_cond] using q)) (fun q => by simpa using k1 false (by simpa [qm_cond] using q))
    · exact lv_icmp_ge hx hb hdg ht (fun q => by simpa using k1 true (by simpa [qm_cond] using q)) (fun q => by simpa using k1 false (by simpa [qm_cond] using q))
    · exact lv_icmp_gt hx hb hdg ht (fun q => by simpa using k1 true (by simpa [qm_cond] using q)) (fun q => by simpa using k1 false (by simpa [qm_cond] using q))
    · exact lv_icmp_le hx hb hdg ht (fun q => by simpa using k1 true (by simpa [qm_cond] using q)) (fun q => by simpa using k1 false (by simpa [qm_cond] using q))
  case ifnull off =>
    obtain rfl : len = 3 := eq_of_beq hlen; obtain ⟨x, T, rfl, hw2⟩ := qm_wp_1r hw; unfold qm_br at hw2; obtain ⟨h1, hw2⟩ := qm_wp_ifn hw2
    have ht := qm_tgt_eq h1
    have k1 := hw2 (qm_tl hS) ls H locs hL hH hl
    cases x with
    | none => exact lv_ifnullN hx hb hdg ht (by simpa using k1)
    | some q => exact lv_ifnull hx hb hdg (by simpa using k1)
  case ifnonnull off =>
    obtain rfl : len = 3 := eq_of_beq hlen; obtain ⟨x, T, rfl, hw2⟩ := qm_wp_1r hw; unfold qm_br at hw2; obtain ⟨h1, hw2⟩ := qm_wp_ifn hw2
    have ht := qm_tgt_eq h1
    have k1 := hw2 (qm_tl hS) ls H locs hL hH hl
    cases x with
    | none => exact lv_ifnonnullN hx hb hdg (by simpa using k1)
    | some q => exact lv_ifnonnull hx hb hdg ht (by simpa using k1)
  case tableswitch d lo hi offs =>
    obtain ⟨x, T, rfl, hw2⟩ := qm_wp_1i hw
    unfold qm_sw at hw2
    split at hw2
    · rename_i hr
      obtain ⟨h1, hw2⟩ := qm_wp_ifn hw2
      exact lv_tableOut hx hb hdg hr (qm_tgt_eq h1) (hw2 (qm_tl hS) ls H locs hL hH hl)
    · rename_i hr
      split at hw2
      · rename_i o ho
        obtain ⟨h1, hw2⟩ := qm_wp_ifn hw2
        exact lv_tableIn hx hb hdg (fun q => hr (Or.inl q)) (fun q => hr (Or.inr q)) ho (qm_tgt_eq h1) (hw2 (qm_tl hS) ls H locs hL hH hl)
      · exact hw2.elim
  all_goals first | exact hw.elim | exact Bool.noConfusion (show false = true from hp)
end QS
