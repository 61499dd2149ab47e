/-! RETURNS, CONSTANTS, CALLS; a run of the clean machine is a run of the JVM; a method's contract. -/
section QI
variable {K : Nat → List (Option qm_V) → List qm_V → qm_H → Prop} {E : qm_O → Prop} {S : List qm_V} {ret : Option FieldType} {h : qm_H} {pc : Nat} {L : List (Option qm_V)}
theorem qm_wp_pf {fk : Option (Nat × Nat)} (hw : qm_wp (qm_pf S fk pc L h) K E) : (∃ x c a T j, S = qm_i x :: qm_r 0 c a :: T ∧ fk = some (c, j) ∧ (qm_ft c j = 0 ∨ qm_ft c j = 3 ∧ x &&& 1 = x) ∧ K (pc + 3) L T (qm_seti h a j x)) ∨ ∃ x c a T j, S = qm_l x :: qm_r 0 c a :: T ∧ fk = some (c, j) ∧ qm_ft c j = 1 ∧ K (pc + 3) L T (qm_setl h a j x) := by
  unfold qm_pf at hw
  split at hw
  · obtain ⟨⟨e1, hff⟩, hw3⟩ := qm_wp_if hw
    subst e1
    exact Or.inl ⟨_, _, _, _, _, rfl, rfl, hff, hw3⟩
  · obtain ⟨⟨e1, hff⟩, hw3⟩ := qm_wp_if hw
    subst e1
    exact Or.inr ⟨_, _, _, _, _, rfl, rfl, hff, hw3⟩
  · exact hw.elim
theorem qm_wp_irt (hw : qm_wp (qm_irt S ret h) K E) : ∃ x, S = [qm_i x] ∧ (ret = some .int ∨ ret = some .boolean ∧ x &&& 1 = x) ∧ E (some (qm_i x), h) := by
  unfold qm_irt at hw
  split at hw
  · exact ⟨_, rfl, Or.inl rfl, hw⟩
  · obtain ⟨h1, hw⟩ := qm_wp_if hw
    exact ⟨_, rfl, Or.inr ⟨rfl, h1⟩, hw⟩
  · exact hw.elim
theorem qm_wp_lrt (hw : qm_wp (qm_lrt S ret h) K E) : ∃ x, S = [qm_l x] ∧ ret = some .long ∧ E (some (qm_l x), h) := by
  unfold qm_lrt at hw
  split at hw
  · exact ⟨_, rfl, rfl, hw⟩
  · exact hw.elim
theorem qm_wp_art (hw : qm_wp (qm_art S ret h) K E) : ∃ x C, S = [.inr (.inr x)] ∧ ret = some (.object C) ∧ E (some (.inr (.inr x)), h) := by
  unfold qm_art at hw
  split at hw
  · exact ⟨_, _, rfl, rfl, hw⟩
  · exact hw.elim
theorem qm_wp_vrt (hw : qm_wp (qm_vrt S ret h) K E) : S = [] ∧ ret = none ∧ E (none, h) := by
  unfold qm_vrt at hw
  split at hw
  · exact ⟨rfl, rfl, hw⟩
  · exact hw.elim
theorem qm_wp_inv {call : Nat → Option (Nat × Nat × qm_C)} {kd idx : Nat} (hw : qm_wp (qm_inv call kd idx pc L S h) K E) : ∃ n f o, call idx = some (kd, n, f) ∧ n ≤ S.length ∧ ((S.drop n).map qm_cat).sum ≤ 8 ∧ f (S.take n).reverse h = some o ∧ K (pc + 3) L (o.1.toList ++ S.drop n) o.2 := by
  unfold qm_inv at hw
  cases hc : call idx with
  | none => rw [hc] at hw; exact hw.elim
  | some q =>
    obtain ⟨kd', n, f⟩ := q
    rw [hc] at hw
    obtain ⟨⟨hk, hn, hr8⟩, hv⟩ := qm_wp_if hw
    subst hk
    unfold qm_cont at hv
    cases hf : f (S.take n).reverse h with
    | none => rw [hf] at hv; exact hv.elim
    | some o => rw [hf] at hv; exact ⟨n, f, o, rfl, hn, hr8, hf, hv⟩
end QI
section QR
variable {p : Program} {l : Launch} {e : Env} {R : Room} {s : State} {m : MethodId} {args : Array Value} {below : List Frame} {meth : Method} {c : Code} {g : qm_G} {nL : Nat} {cc : ByteArray} {own : String} {Ts : List Jvm.Cond}
variable {pc : Nat} {L : List (Option qm_V)} {S T : List qm_V} {h : qm_H}
/-- how a call goes on: n arguments (the receiver among them), by the clean function f -/
def qm_COK (p : Program) (l : Launch) (e : Env) (R : Room) (s : State) (m : MethodId) (args : Array Value) (below : List Frame) (meth : Method) (c : Code) (Q : State → Prop) (g : qm_G) (nL : Nat) (cc : ByteArray) (kd idx n : Nat) (f : qm_C) : Prop :=
  ∀ (pc : Nat) (L : List (Option qm_V)) (vs rest : List qm_V) (h : qm_H) (o : qm_O), decode cc pc = .ok ((if kd = 0 then .invokevirtual idx else if kd = 1 then .invokespecial idx else .invokestatic idx), 3) → vs.length = n → (rest.map qm_cat).sum ≤ 8 → f vs h = some o → qm_W p l e R s m args below meth c Q g nL (pc + 3) L (o.1.toList ++ rest) o.2 → qm_W p l e R s m args below meth c Q g nL pc L (vs.reverse ++ rest) h
/-- the tables of a method's class -/
def qm_Tab (own : String) (Ts : List Jvm.Cond) (aS : Nat → Nat) (s : State) (fld : Nat → Option (Nat × Nat)) (con : Nat → Option qm_V) : Prop :=
  (∀ k ci j, fld k = some (ci, j) → j < qm_nf ci ∧ (Cond.fieldLink own k (qm_T ci j).1 (qm_T ci j).2.1 (qm_T ci j).2.2.1) ∈ Ts) ∧ (∀ k x, con k = some (qm_i x) → Cond.constant own k x ∈ Ts) ∧ (∀ k x, con k = some (qm_l x) → Cond.constantLong own k x ∈ Ts) ∧ ∀ k n, con k = some (qm_r 10 n 0) → n < 16 ∧ ∃ tx, vk_R own k tx (aS n) s
theorem qm_step_ok {ret : Option FieldType} {fld : Nat → Option (Nat × Nat)} {con : Nat → Option qm_V} {call : Nat → Option (Nat × Nat × qm_C)} {ins : Instr} {len : Nat} {o : qm_O} {Q : State → Prop} (hQ : Q = MQ below (qm_Qc g o) args s 0 0 (qm_free g)) (hr : meth.sig.returnType = ret) (hlocks : meth.locks = false)
    (A : qm_At p s m args c cc g own Ts) (hT : qm_Tab own Ts (qm_aS g) s fld con) (hC : ∀ idx kd n f, call idx = some (kd, n, f) → qm_COK p l e R s m args below meth c Q g nL cc kd idx n f)
    (hdg : decode cc pc = .ok (ins, len)) (hlen : qm_len ins len = true)
    (hw : qm_wp (qm_step ret fld con call ins len pc L S h) (qm_W p l e R s m args below meth c Q g nL) (fun o' => o' = o)) : qm_W p l e R s m args below meth c Q g nL pc L S h := by
  by_cases hp : qm_plain ins = true
  · exact qm_step_plain A.1 A.2.1 hdg hp hlen hw
  have inv : ∀ kd idx, decode cc pc = .ok ((if kd = 0 then .invokevirtual idx else if kd = 1 then .invokespecial idx else .invokestatic idx), 3) → qm_wp (qm_inv call kd idx pc L S h) (qm_W p l e R s m args below meth c Q g nL) (fun o' => o' = o) → qm_W p l e R s m args below meth c Q g nL pc L S h := by
    intro kd idx hd hv
    obtain ⟨n, f, o', hcall, hn, hr8, hf, hk⟩ := qm_wp_inv hv
    have := hC idx kd n f hcall pc L (S.take n).reverse (S.drop n) h o' hd (by rw [List.length_reverse, List.length_take]; omega) hr8 hf hk
    rwa [List.reverse_reverse, List.take_append_drop] at this
  cases ins
  case ldc k =>
    obtain rfl : len = 2 := eq_of_beq hlen
    replace hw : qm_wp (match con k with | some (.inl x) => qm_go (pc + 2) L (qm_i x :: S) h | some (.inr (.inr (some (10, n, 0)))) => qm_go (pc + 2) L (qm_r 10 n 0 :: S) h | _ => none) (qm_W p l e R s m args below meth c Q g nL) (fun o' => o' = o) := hw
    split at hw
    · rename_i x hc
      exact fun hS ls H locs hL hH hl => lv_ldc A.1 A.2.1 A.2.2.1 (A.2.2.2.1 _ (hT.2.1 k x hc)) hdg (hw (qm_ca trivial hS) ls H locs hL hH hl)
    · rename_i n hc
      obtain ⟨h16, tx, hv⟩ := hT.2.2.2 k n hc
      exact fun hS ls H locs hL hH hl => va_ldcS A.1 A.2.1 A.2.2.1 hv hdg (hw (qm_ca h16 hS) ls H locs hL hH hl)
    · exact hw.elim
  case ldc_w k =>
    obtain rfl : len = 3 := eq_of_beq hlen
    replace hw : qm_wp (match con k with | some (.inl x) => qm_go (pc + 3) L (qm_i x :: S) h | _ => none) (qm_W p l e R s m args below meth c Q g nL) (fun o' => o' = o) := hw
    split at hw
    · rename_i x hc
      exact fun hS ls H locs hL hH hl => lv_ldcw A.1 A.2.1 A.2.2.1 (A.2.2.2.1 _ (hT.2.1 k x hc)) hdg (hw (qm_ca trivial hS) ls H locs hL hH hl)
    · exact hw.elim
  case ldc2_w k =>
    obtain rfl : len = 3 := eq_of_beq hlen
    replace hw : qm_wp (match con k with | some (.inr (.inl x)) => qm_go (pc + 3) L (qm_l x :: S) h | _ => none) (qm_W p l e R s m args below meth c Q g nL) (fun o' => o' = o) := hw
    split at hw
    · rename_i x hc
      exact fun hS ls H locs hL hH hl => lv_ldc2 A.1 A.2.1 A.2.2.1 (A.2.2.2.1 _ (hT.2.2.1 k x hc)) hdg (hw (qm_ca trivial hS) ls H locs hL hH hl)
    · exact hw.elim
  case getfield k =>
    obtain rfl : len = 3 := eq_of_beq hlen
    obtain ⟨r, T, rfl, hw2⟩ := qm_wp_1r hw
    clear hw
    split at hw2
    · rename_i c1 a c2 j hf
      obtain ⟨e1, hw3⟩ := qm_wp_if hw2
      subst e1
      exact qm_getfield A (hT.1 k c1 j hf).1 (hT.1 k c1 j hf).2 hdg hw3
    · exact hw2.elim
  case putfield k =>
    obtain rfl : len = 3 := eq_of_beq hlen
    rcases qm_wp_pf hw with ⟨x, c1, a, T, j, rfl, hf, hff, hw3⟩ | ⟨x, c1, a, T, j, rfl, hf, hff, hw3⟩
    · exact qm_puti A (hT.1 k c1 j hf).1 (hT.1 k c1 j hf).2 hdg hff hw3
    · exact qm_putl A (hT.1 k c1 j hf).1 (hT.1 k c1 j hf).2 hdg hff hw3
  case arraylength =>
    obtain rfl : len = 1 := eq_of_beq hlen
    obtain ⟨r, T, rfl, hw2⟩ := qm_wp_1r hw
    clear hw
    split at hw2
    · obtain ⟨h1, hw3⟩ := qm_wp_if hw2
      exact qm_alen A h1.1 h1.2 hdg hw3
    · exact hw2.elim
  case iaload =>
    obtain rfl : len = 1 := eq_of_beq hlen
    obtain ⟨j, so, n, a, T, rfl, hin, hw2⟩ := qm_wp_ai hw
    obtain ⟨h1, hw3⟩ := qm_wp_if hw2
    subst h1
    exact qm_iald A hin hdg hw3
  case baload =>
    obtain rfl : len = 1 := eq_of_beq hlen
    obtain ⟨j, so, n, a, T, rfl, hin, hw2⟩ := qm_wp_ai hw
    obtain ⟨h1, hw3⟩ := qm_wp_if hw2
    rcases h1 with h1 | h1
    · subst h1; exact qm_bald A hin hdg hw3
    · subst h1; exact qm_zald A hin hdg hw3
  case laload =>
    obtain rfl : len = 1 := eq_of_beq hlen
    obtain ⟨j, so, n, a, T, rfl, hin, hw2⟩ := qm_wp_ai hw
    obtain ⟨h1, hw3⟩ := qm_wp_if hw2
    subst h1
    exact qm_lald A hin hdg hw3
  case aaload =>
    obtain rfl : len = 1 := eq_of_beq hlen
    obtain ⟨j, so, n, a, T, rfl, hin, hw2⟩ := qm_wp_ai hw
    obtain ⟨h1, hw3⟩ := qm_wp_if hw2
    exact qm_aald A h1.1 h1.2 hin hdg hw3
  case iastore =>
    obtain rfl : len = 1 := eq_of_beq hlen
    obtain ⟨x, T, rfl, hw1⟩ := qm_wp_1i hw
    obtain ⟨j, so, n, a, T, rfl, hin, hw2⟩ := qm_wp_ai hw1
    obtain ⟨h1, hw3⟩ := qm_wp_if hw2
    subst h1
    exact qm_iast A hin hdg hw3
  case bastore =>
    obtain rfl : len = 1 := eq_of_beq hlen
    obtain ⟨x, T, rfl, hw1⟩ := qm_wp_1i hw
    obtain ⟨j, so, n, a, T, rfl, hin, hw2⟩ := qm_wp_ai hw1
    clear hw hw1
    split at hw2
    · rename_i h1; subst h1; exact qm_bast A hin hdg hw2
    · obtain ⟨h1, hw3⟩ := qm_wp_if hw2
      subst h1
      exact qm_zast A hin hdg hw3
  case lastore =>
    obtain rfl : len = 1 := eq_of_beq hlen
    obtain ⟨x, T, rfl, hw1⟩ := qm_wp_1l hw
    obtain ⟨j, so, n, a, T, rfl, hin, hw2⟩ := qm_wp_ai hw1
    obtain ⟨h1, hw3⟩ := qm_wp_if hw2
    subst h1
    exact qm_last A hin hdg hw3
  case invokevirtual k => obtain rfl : len = 3 := eq_of_beq hlen; exact inv 0 k hdg hw
  case invokespecial k => obtain rfl : len = 3 := eq_of_beq hlen; exact inv 1 k hdg hw
  case invokestatic k => obtain rfl : len = 3 := eq_of_beq hlen; exact inv 2 k hdg hw
  case ireturn =>
    obtain rfl : len = 1 := eq_of_beq hlen
    obtain ⟨x, rfl, hrt, ho⟩ := qm_wp_irt hw
    intro hS ls H locs hL hH hl
    subst ho
    rw [hQ]
    rcases hrt with hrt | ⟨hrt, hz⟩
    · exact W.iret A.1 A.2.1 (hr.trans hrt) (fun t ht _ => ⟨rfl, by rw [ht]; exact hH, fun v hv => by cases hv; trivial⟩) hl hdg
    · exact W.zret A.1 A.2.1 (hr.trans hrt) (by show Value.int (x &&& 1) = _; rw [hz]) (fun t ht _ => ⟨rfl, by rw [ht]; exact hH, fun v hv => by cases hv; trivial⟩) hl hdg
  case lreturn =>
    obtain rfl : len = 1 := eq_of_beq hlen
    obtain ⟨x, rfl, hrt, ho⟩ := qm_wp_lrt hw
    intro hS ls H locs hL hH hl
    subst ho
    rw [hQ]
    exact W.lret A.1 A.2.1 (hr.trans hrt) (fun t ht _ => ⟨rfl, by rw [ht]; exact hH, fun v hv => by cases hv; trivial⟩) hl hdg
  case areturn =>
    obtain rfl : len = 1 := eq_of_beq hlen
    obtain ⟨x, C, rfl, hrt, ho⟩ := qm_wp_art hw
    intro hS ls H locs hL hH hl
    subst ho
    rw [hQ]
    have hv : qm_tr g (.inr (.inr x)) = .null ∨ ∃ a, qm_tr g (.inr (.inr x)) = .ref a := by
      cases x with
      | none => exact Or.inl rfl
      | some q => exact Or.inr ⟨_, rfl⟩
    exact W.aret A.1 A.2.1 (hr.trans hrt) (Or.inl ⟨_, rfl⟩) hv (fun t ht _ => ⟨rfl, by rw [ht]; exact hH, fun v hv => by cases hv; exact hS _ List.mem_cons_self⟩) hl hdg
  case return_ =>
    obtain rfl : len = 1 := eq_of_beq hlen
    obtain ⟨rfl, hrt, ho⟩ := qm_wp_vrt hw
    intro hS ls H locs hL hH hl
    subst ho
    rw [hQ]
    exact W.vret A.1 A.2.1 (hr.trans hrt) (fun t ht _ => ⟨rfl, by rw [ht]; exact hH, fun v hv => by cases hv⟩) hl hdg
  all_goals exact absurd rfl hp
/-- a whole run -/
theorem qm_run_ok {ret : Option FieldType} {fld : Nat → Option (Nat × Nat)} {con : Nat → Option qm_V} {call : Nat → Option (Nat × Nat × qm_C)} {tab : Nat → Option (Instr × Nat)} {o : qm_O} {Q : State → Prop} (hQ : Q = MQ below (qm_Qc g o) args s 0 0 (qm_free g)) (hr : meth.sig.returnType = ret) (hlocks : meth.locks = false)
    (A : qm_At p s m args c cc g own Ts) (hT : qm_Tab own Ts (qm_aS g) s fld con) (hC : ∀ idx kd n f, call idx = some (kd, n, f) → qm_COK p l e R s m args below meth c Q g nL cc kd idx n f)
    (htab : ∀ pc i, tab pc = some i → decode cc pc = .ok i ∧ qm_len i.1 i.2 = true) : ∀ (n : Nat) (f : qm_F), qm_run ret fld con call tab n f = some o → qm_W p l e R s m args below meth c Q g nL f.1 f.2.1 f.2.2.1 f.2.2.2 := by
  intro n
  induction n with
  | zero => intro f hf; cases hf
  | succ n ih =>
    intro f hf
    obtain ⟨pc, L, S, h⟩ := f
    unfold qm_run at hf
    split at hf
    · rename_i ins len ht
      obtain ⟨hd, hlen⟩ := htab pc _ ht
      refine qm_step_ok hQ hr hlocks A hT hC hd hlen ?_
      split at hf
      · rename_i f' hs
        rw [hs]
        exact ih f' hf
      · rename_i o' hs
        rw [hs]
        exact Option.some.inj hf
      · cases hf
    · cases hf
end QR
