/-! A METHOD'S CONTRACT out of its run; calls out of contracts. -/
def qm_sx (n : Nat) : Nat := (qm_strs.getD n (0, "")).1
def qm_stx (n : Nat) : String := (qm_strs.getD n (0, "")).2
def qm_SR (g : qm_G) (U : State) : Prop := (∀ n, n < 16 → vk_R RX3 (qm_sx n) (qm_stx n) (qm_aS g n) U) ∧ (∃ adV, vk_S 16 qm_slen qm_sbyt (qm_aS g) adV (qm_free g) U (qm_H0 g)) ∧ va_Z "java/lang/String" "COMPACT_STRINGS" "Z" (.int 1) (qm_free g) U (qm_H0 g) ∧ va_Zq "jdk/internal/util/Preconditions" "SIOOBE_FORMATTER" "Ljava/util/function/BiFunction;" (qm_free g) U (qm_H0 g) ∧ (qm_H0 g).size = qm_b g
theorem qm_SR.warm {g : qm_G} {s U : State} (hW : s.WarmedH U.vm) (h : qm_SR g s) : qm_SR g U := by
  obtain ⟨h1, ⟨adV, h2⟩, h3, h5, h4⟩ := h
  exact ⟨fun n hn => (h1 n hn).warm hW, ⟨adV, h2.moved hW.alike⟩, h3.moved hW.alike, h5.moved hW.alike, h4⟩
theorem qm_SR.same {g : qm_G} {u U : State} (hv : U.vm = u.vm) (h : qm_SR g u) : qm_SR g U := by
  obtain ⟨h1, ⟨adV, h2⟩, h3, h5, h4⟩ := h
  have ha : u.vm.Alike U.vm := by rw [hv]; exact Vm.Alike.refl _
  exact ⟨fun n hn => (h1 n hn).same hv, ⟨adV, h2.moved ha⟩, h3.moved ha, h5.moved ha, h4⟩
def qm_Pc (g : qm_G) (vs : List qm_V) (h : qm_H) : Array Value → State → Prop := va_Pc (vs.map (qm_tr g)) fun U => qm_HR g h U.heap ∧ va_K (qm_D g) vwCl (qm_tys g) U ∧ qm_SR g U
theorem qm_Pc_blind (g : qm_G) (vs : List qm_V) (h : qm_H) : FrameBlind (qm_Pc g vs h) := by
  intro a U fr mk q
  obtain ⟨q0, q1, q2, q3⟩ := q
  exact ⟨q0, q1, va_K.moved (u := U) (U := U.calling fr mk a) (Vm.Alike.refl U.vm) q2, q3.same rfl⟩
abbrev qm_rm (fr lo : Nat) : Jvm.Room := { frames := fr, cells := 0, slots := 0, locals := lo }
def qm_Snd (y : MethodName) (cc : ByteArray) (maxL : Nat) (ret : Option FieldType) (fr lo : Nat) (f : qm_C) : Prop :=
  ∀ (l : Launch) (g : qm_G), qm_GO g → ∀ (vs : List qm_V) (h : qm_H) (o : qm_O), f vs h = some o → (∀ v ∈ vs, qm_okv g v) → Met l y (Jvm.Cond.code y cc maxL ret :: qm_all) (qm_rm fr lo) (qm_Pc g vs h) (qm_Qc g o) 0 0 (qm_free g)
/-- System.arraycopy -/
def qm_cpy : qm_C := fun vs h => match vs with
  | [.inr (.inr (some (s0, n0, a0))), .inl sp, .inr (.inr (some (s1, n1, a1))), .inl dp, .inl n] =>
    if s0 = s1 ∧ (s0 = 1 ∨ s0 = 2 ∧ ∀ i, i < n.toNatClampNeg → fits .byte (.int (h.1 a0 (sp.toNatClampNeg + i))) = true) ∧ ¬ sp < 0 ∧ ¬ dp < 0 ∧ ¬ n < 0 ∧ sp.toNatClampNeg + n.toNatClampNeg ≤ n0 ∧ dp.toNatClampNeg + n.toNatClampNeg ≤ n1 then
      some (none, (fun b j => if b = a1 then va_cpy (h.1 a0) (h.1 a1) sp.toNatClampNeg dp.toNatClampNeg n.toNatClampNeg j else h.1 b j, h.2))
    else none
  | _ => none
/-- a call that stands: by a contract, or one of the JDK's own -/
def qm_CallOK (own : String) (fr lo kd idx n : Nat) (f : qm_C) : Prop :=
  (∃ (y : MethodName) (cc : ByteArray) (maxL : Nat) (ret : Option FieldType) (fr' lo' k : Nat), qm_Snd y cc maxL ret fr' lo' f ∧ (fr' + 1 ≤ fr ∧ 8 + (maxL + 11) + lo' ≤ lo) ∧ (Jvm.Cond.code y cc maxL ret ∈ qm_all ∧ Jvm.Cond.methodLink own idx y ∈ qm_all ∧ Jvm.Cond.initialized y.cls ∈ qm_all) ∧ (y.cls ≠ "java/lang/invoke/MethodHandle" ∧ y.cls ≠ "java/lang/invoke/VarHandle" ∧ (parseMethodDescriptor y.desc).map (fun d => d.parameters.length) = some k) ∧
    ((kd = 0 ∧ n = k + 1 ∧ (Jvm.Cond.instanceMethod y ∈ qm_all ∧ Jvm.Cond.selects y.cls y y ∈ qm_all) ∧ ∀ vs h o, f vs h = some o → ∃ ci a rest, vs = qm_r 0 ci a :: rest ∧ qm_R ci = y.cls) ∨ (kd = 2 ∧ n = k ∧ Jvm.Cond.static y ∈ qm_all) ∨ (kd = 0 ∧ n = k + 1 ∧ (Jvm.Cond.instanceMethod y ∈ qm_all ∧ Jvm.Cond.selects y.cls y y ∈ qm_all) ∧ y.cls = "java/lang/String" ∧ ∀ vs h o, f vs h = some o → ∃ j rest, vs = qm_r 10 j 0 :: rest))) ∨
  (f = qm_cpy ∧ kd = 2 ∧ n = 5 ∧ 1 ≤ fr ∧ 8 + (nativeFrameWords "java/lang/System" "arraycopy" 5 + 11) ≤ lo ∧ Jvm.Cond.methodLink own idx arraycopyName ∈ qm_all)
theorem qm_all_in {w : Jvm.Cond} (h : w ∈ qm_all) : w ∈ lw_tbl ∧ goodWord w = true := List.mem_filter.mp h
theorem qm_GoodIn {w0 w1 : Jvm.Cond} (h : w1 ∈ qm_all) : GoodIn (w0 :: qm_all) (w1 :: qm_all) := by
  intro w hw
  have hw' : w ∈ qm_all := (List.mem_cons.mp hw).elim (fun e => e ▸ h) id
  exact ⟨List.mem_cons_of_mem _ hw', good_of_word (qm_all_in hw').2⟩
theorem qm_w_native : Jvm.Cond.native arraycopyName ∈ qm_all := List.mem_filter.mpr ⟨by decide +kernel, by decide +kernel⟩
theorem qm_w_cpystat : Jvm.Cond.static arraycopyName ∈ qm_all := List.mem_filter.mpr ⟨by decide +kernel, by decide +kernel⟩
theorem qm_w_sysini : Jvm.Cond.initialized "java/lang/System" ∈ qm_all := List.mem_filter.mpr ⟨by decide +kernel, by decide +kernel⟩
theorem qm_u_in : ∀ cl, cl < 13 → ∀ w ∈ u_ws (qm_R cl) (qm_T cl) (qm_nf cl), w ∈ qm_all := by
  intro cl hcl
  match cl, hcl with
  | 0, _ => decide +kernel
  | 1, _ => decide +kernel
  | 2, _ => decide +kernel
  | 3, _ => decide +kernel
  | 4, _ => decide +kernel
  | 5, _ => decide +kernel
  | 6, _ => decide +kernel
  | 7, _ => decide +kernel
  | 8, _ => decide +kernel
  | 9, _ => decide +kernel
  | 10, _ => decide +kernel
  | 11, _ => decide +kernel
  | 12, _ => decide +kernel
section QC
variable {p : Program} {l : Launch} {e : Env} {s : State} {m : MethodId} {args : Array Value} {below : List Frame} {meth : Method} {c : Code} {Q : State → Prop} {g : qm_G} {nL : Nat} {cc : ByteArray} {own : String} {w0 : Jvm.Cond} {fr lo : Nat}
/-- behind a call -/
theorem qm_after {R : Room} {H : Heap} {locs : List Loc} {fr0 : JFrame} {rest : List Value} {a : Array Value} {o : qm_O} {pc : Nat} {ls : Array Slot} {st : List Value} (hr : va_Run p l e R s m args below meth c H locs 0 0 0 0 (F0 m pc ls st) rest (qm_Qc g o a) (qm_free g)) (hl : ∀ q ∈ locs, qm_b g ≤ q.base)
    (kk : ∀ (H1 : Heap) (locs1 : List Loc), qm_HR g o.2 H1 → (∀ v, o.1 = some v → qm_okv g v) → (∀ q ∈ locs1, qm_b g ≤ q.base) → W p l e R s m args below meth c H1 locs1 0 0 Q (F0 m (pc + 3) ls ((o.1.map (qm_tr g)).toList ++ rest))) : W p l e R s m args below meth c H locs 0 0 Q (F0 m pc ls st) := by
  intro T hT X
  obtain ⟨v, st₀, t, T', L, h0, X', hL, e1, e2, ⟨hv, hH, hok⟩, st⟩ := hr T hT X
  have hv' : v = o.1.map (qm_tr g) := Outcome.returned.inj hv
  subst hv'
  obtain ⟨t2, a1, b1⟩ := kk T'.heap (locs ++ L) (by rw [e1]; exact hH) hok (fun q hq => (List.mem_append.mp hq).elim (hl q) (hL q)) T' rfl X'
  exact ⟨t2, st t2 a1, b1⟩
/-- a row of ints written anew -/
abbrev qm_row (h : qm_H) (a : Nat) (f : Nat → Int32) : qm_H := (fun b j => if b = a then f j else h.1 b j, h.2)
theorem qm_HR.row {h : qm_H} {H H' : Heap} {s n a : Nat} {f : Nat → Int32} (hG : qm_GO g) (hR : qm_HR g h H) (ho : qm_ok g s n a) (hs : ¬ s = 8) (hz : H'.size = H.size) (hq : ∀ q, q ≠ qm_ad g a → H'[q]? = H[q]?) (hc : va_at (qm_D g) vwCl (qm_ad g a, qm_cell g (qm_row h a f) s n a) H') : qm_HR g (qm_row h a f) H' := by
  have er : ∀ b, ¬ b = a → (qm_row h a f).1 b = h.1 b := fun b hb => funext fun j => if_neg hb
  refine ⟨by rw [hz]; exact hR.1, fun q hl => ?_, fun s' n' a' ho' => ?_, fun n' a' j ho' hj hf => ?_⟩
  · rw [hq q (fun e => ?_)]
    · exact hR.2.1 q hl
    · have := (hG.1 s n a ho).2
      omega
  · by_cases e : a' = a
    · subst e
      obtain ⟨e1, e2, -⟩ := hG.2.2.2.2 _ _ _ _ _ _ ho' ho rfl
      subst e1; subst e2
      exact hc
    · have ec : qm_cell g (qm_row h a f) s' n' a' = qm_cell g h s' n' a' := by
        unfold qm_cell qm_getf qm_elv
        simp only [if_neg e]
      rw [ec]
      exact (hR.2.2.1 s' n' a' ho').kept (hq _ (fun q => e (hG.2.2.2.2 _ _ _ _ _ _ ho' ho q).2.2))
  · have e : ¬ a' = a := fun e => by
      subst e
      exact hs (hG.2.2.2.2 _ _ _ _ _ _ ho ho' rfl).1
    refine hR.2.2.2 n' a' j ho' hj ?_
    rwa [er a' e] at hf
theorem qm_copyK {R : Room} {pc idx : Nat} {ls : Array Slot} {H : Heap} {locs : List Loc} {rest : List Value} (hx : p.tables.exec = Jvm.exec) (hb : c.code = cc) (hml : c.maxLocals = ls.size) (hown : s.vm.findClass own = some m.cls) (hlink : (Cond.methodLink own idx arraycopyName).before args s = true) (hnat : (Cond.native arraycopyName).before args s = true) (hstat : (Cond.static arraycopyName).before args s = true) (hini : (Cond.initialized "java/lang/System").before args s = true)
    {a0 a1 : Nat} {c0 c1 : ClassId} {n0 n1 : Nat} {f0 f1 : Nat → Int32} {ty : FieldType} (hc0 : H[a0]? = some (vp_cell c0 (n0, .inl f0))) (hc1 : H[a1]? = some (vp_cell c1 (n1, .inl f1))) (t0 : ArrOfT s c0 ty) (t1 : ArrOfT s c1 ty) (hprim : refKind ty = false)
    {sp dp n : Int32} (h1 : ¬ sp < 0) (h2 : ¬ dp < 0) (h3 : ¬ n < 0) (h4 : sp.toNatClampNeg + n.toNatClampNeg ≤ n0) (h5 : dp.toNatClampNeg + n.toNatClampNeg ≤ n1) (hfit : ∀ i, i < n.toNatClampNeg → fits ty (.int (f0 (sp.toNatClampNeg + i))) = true)
    (hframes : 1 ≤ R.frames) (hlocals : (rest.map fun v => v.category).sum + (nativeFrameWords "java/lang/System" "arraycopy" 5 + 11) ≤ R.locals) (hdg : decode cc pc = .ok (.invokestatic idx, 3))
    (kk : ∀ (H1 : Heap) (L : List Loc), H1[a1]? = some (vp_cell c1 (n1, .inl (va_cpy f0 f1 sp.toNatClampNeg dp.toNatClampNeg n.toNatClampNeg))) → H1.size = H.size → (∀ q, q ≠ a1 → H1[q]? = H[q]?) → (∀ q ∈ L, q.base = a1) → W p l e R s m args below meth c H1 (locs ++ L) 0 0 Q (F0 m (pc + 3) ls rest)) : W p l e R s m args below meth c H locs 0 0 Q (F0 m pc ls (.int n :: .int dp :: .ref a1 :: .int sp :: .ref a0 :: rest)) := by
  have nn : ∀ z : Int32, ¬ z < 0 → z.toInt = (z.toNatClampNeg : Int) := by
    intro z hz
    have hz0 : (0 : Int) ≤ z.toInt := by
      have := Int32.not_lt.mp hz
      simpa using Int32.le_iff_toInt_le.mp this
    show z.toInt = ((z.toInt.toNat : Nat) : Int)
    omega
  intro T hT X
  obtain ⟨-, k0, hk0, cm0, hkk0⟩ := t0 n0 (fun j => .int (f0 j))
  obtain ⟨-, k1, hk1, cm1, hkk1⟩ := t1 n1 (fun j => .int (f1 j))
  obtain ⟨vm', X', step⟩ := X.arraycopy hx hown hlink hnat hstat hini (src := a0) (dst := a1) (cs := vp_cell c0 (n0, .inl f0)) (cd := vp_cell c1 (n1, .inl f1)) (srcPos := sp) (destPos := dp) (n := n) (by rw [hT]; exact hc0) (by rw [hT]; exact hc1)
    (fun _ h => by cases h) (fun _ h => by cases h) (fun h => by cases h) (fun h => by cases h) hk0 hk1 hkk0 hkk1 (by simp [hprim]) h1 h2 h3
    (by rw [nn sp h1, nn n h3]; show ¬ _ > ((arrV c0 n0 (fun j => .int (f0 j))).slots.size : Int); rw [arrV_size]; omega)
    (by rw [nn dp h2, nn n h3]; show ¬ _ > ((arrV c1 n1 (fun j => .int (f1 j))).slots.size : Int); rw [arrV_size]; omega)
    (fun vm₁ _ i hi => by
      have e : (vp_cell c0 (n0, .inl f0)).slots.getD (sp.toNatClampNeg + i) .null = .int (f0 (sp.toNatClampNeg + i)) := by
        show (arrV c0 n0 (fun j => .int (f0 j))).slots.getD _ _ = _
        rw [Array.getD_eq_getD_getElem?, arrV_read _ _ (by omega)]
        rfl
      refine ⟨?_, ?_⟩
      · rw [e]
        exact hfit i hi
      · rw [e]
        exact trivial)
    (g := F0 m pc ls (.int n :: .int dp :: .ref a1 :: .int sp :: .ref a0 :: rest)) rfl (by rw [hml]) (rest := rest) rfl (by rw [hb]; exact hdg) hframes (by show 2 * 0 + _ + _ ≤ _; omega)
  have e1 : copied (vp_cell c0 (n0, .inl f0)) (vp_cell c1 (n1, .inl f1)) sp dp n = vp_cell c1 (n1, .inl (va_cpy f0 f1 sp.toNatClampNeg dp.toNatClampNeg n.toNatClampNeg)) := va_copied (fun z => .int z) c0 c1 f0 f1 h4
  rw [e1] at X' step
  have hl : a1 < H.size := (Array.getElem?_eq_some_iff.mp hc1).1
  have hheap : ((T.setVm vm').setCell a1 (vp_cell c1 (n1, .inl (va_cpy f0 f1 sp.toNatClampNeg dp.toNatClampNeg n.toNatClampNeg)))).heap = H.setIfInBounds a1 (vp_cell c1 (n1, .inl (va_cpy f0 f1 sp.toNatClampNeg dp.toNatClampNeg n.toNatClampNeg))) := by rw [← hT]; rfl
  obtain ⟨t, b0, b1⟩ := kk _ _ (show (H.setIfInBounds a1 _)[a1]? = some _ by simp [Array.getElem?_setIfInBounds, hl]) (by simp) (fun q hq => by simp [Array.getElem?_setIfInBounds, Ne.symm hq]) (fun q hq => by
      obtain ⟨z, -, hz⟩ := List.mem_map.mp hq
      rw [← hz]) _ hheap X'
  exact ⟨t, step t b0, b1⟩
theorem qm_cok (A : qm_At p s m args c cc g own (w0 :: qm_all)) (hml : c.maxLocals = nL) (hSR : qm_SR g s) {kd idx n : Nat} {f : qm_C} (h : qm_CallOK own fr lo kd idx n f) : qm_COK p l e (qm_rm fr lo) s m args below meth c Q g nL cc kd idx n f := by
  intro pc L vs rest h0 o hdg hn hr8 hf kk hS ls H locs hL hH hl
  obtain ⟨hx, hb, hown, hts, hK, hG, hin⟩ := A
  have hokr : ∀ v ∈ rest, qm_okv g v := fun v hv => hS v (List.mem_append_right _ hv)
  have hokv : ∀ v ∈ vs, qm_okv g v := fun v hv => hS v (List.mem_append_left _ (List.mem_reverse.mpr hv))
  have tsa : ∀ w ∈ qm_all, w.before args s = true := fun w hw => hts w (List.mem_cons_of_mem _ hw)
  have cats : ((rest.map (qm_tr g)).map fun v => v.category).sum ≤ 8 := by
    rw [List.map_map]
    have : ((fun v : Value => v.category) ∘ qm_tr g) = qm_cat := funext fun v => qm_cat_tr g v
    rw [this]
    exact hr8
  have fin : ∀ (H1 : Heap) (locs1 : List Loc), qm_HR g o.2 H1 → (∀ v, o.1 = some v → qm_okv g v) → (∀ q ∈ locs1, qm_b g ≤ q.base) → W p l e (qm_rm fr lo) s m args below meth c H1 locs1 0 0 Q (F0 m (pc + 3) ls ((o.1.map (qm_tr g)).toList ++ rest.map (qm_tr g))) := by
    intro H1 locs1 h1 h2 h3
    have k1 := kk (fun v hv => by
      rcases List.mem_append.mp hv with hv | hv
      · exact h2 v (Option.mem_toList.mp hv)
      · exact hokr v hv) ls H1 locs1 hL h1 h3
    rw [List.map_append] at k1
    have e1 : (o.1.toList).map (qm_tr g) = (o.1.map (qm_tr g)).toList := by cases o.1 <;> rfl
    rw [e1] at k1
    exact k1
  have pre : ∀ U : State, U.heap = H → s.WarmedH U.vm → qm_Pc g vs h0 (vs.map (qm_tr g)).toArray U := fun U hU hW => ⟨rfl, by rw [hU]; exact hH, va_K.moved hW.alike hK, hSR.warm hW⟩
  rcases h with ⟨y, cb, maxL, ret, fr', lo', k, hSnd, hroom, ⟨w1, w2, w3⟩, hd, hkd⟩ | ⟨rfl, rfl, rfl, hfr, hlo, hlink⟩
  · have hM := hSnd l g hG vs h0 o hf hokv
    have hGI : GoodIn (w0 :: qm_all) (Jvm.Cond.code y cb maxL ret :: qm_all) := qm_GoodIn w1
    have cb0 : CallB (qm_rm fr lo) s args own idx y cb maxL ret (Jvm.Cond.code y cb maxL ret :: qm_all) (qm_rm fr' lo') 0 0 k := callB_of k hts hGI rfl rfl rfl (tsa _ w3) (tsa _ w2) hd hroom
    rcases hkd with ⟨rfl, hnk, ⟨w4, w5⟩, hrecv⟩ | ⟨rfl, hnk, w4⟩ | ⟨rfl, hnk, ⟨w4, w5⟩, hcs, hrecv⟩
    · obtain ⟨ci, a, vs', hvs, hci⟩ := hrecv vs h0 o hf
      subst hvs
      have ho : qm_ok g 0 ci a := qm_okv_ref (by omega) (hokv _ List.mem_cons_self)
      have hc := hG.2.1 ci a ho
      have hst : ((qm_r 0 ci a :: vs').reverse ++ rest).map (qm_tr g) = (vs'.map (qm_tr g)).reverse ++ .ref (qm_ad g a) :: rest.map (qm_tr g) := by
        rw [List.map_append, List.reverse_cons, List.map_append, List.map_reverse, List.append_assoc]
        rfl
      rw [hst]
      refine qm_after (fr0 := F0 m pc ls []) (va_runV (S := ⟨hx, hb, hml, hown, hts⟩) (hM := hM) (cw := ⟨cb0, tsa _ w4, tsa _ w5⟩) (As := vs'.map (qm_tr g)) (rest := rest.map (qm_tr g)) (b := qm_ad g a) ⟨qm_Pc_blind g _ _, ?_, fun U hU hW => pre U hU hW⟩ rfl ?_ hL.1 rfl (lv_room cats) hdg ⟨Nat.le_refl _, Nat.le_refl _⟩) hl fin
      · obtain ⟨cell, c1, c2, c3⟩ := va_recv (q0 := 0) hK (qm_P1 (hH.2.2.1 0 ci a ho)) (qm_cl ci hc) rfl
        exact ⟨cell, c1, c2, by rw [← hci]; exact c3⟩
      · rw [List.length_map]
        simp only [List.length_cons] at hn
        omega
    · have hst : (vs.reverse ++ rest).map (qm_tr g) = (vs.map (qm_tr g)).reverse ++ rest.map (qm_tr g) := by
        rw [List.map_append, List.map_reverse]
      rw [hst]
      exact qm_after (fr0 := F0 m pc ls []) (va_runS (S := ⟨hx, hb, hml, hown, hts⟩) (hM := hM) (cw := ⟨cb0, tsa _ w4⟩) (As := vs.map (qm_tr g)) (rest := rest.map (qm_tr g)) ⟨qm_Pc_blind g _ _, fun U hU hW => pre U hU hW⟩ rfl (by rw [List.length_map]; omega) hL.1 rfl (lv_room cats) hdg ⟨Nat.le_refl _, Nat.le_refl _⟩) hl fin
    · obtain ⟨j, vs', hvs⟩ := hrecv vs h0 o hf
      subst hvs
      have h16 : j < 16 := hokv _ List.mem_cons_self
      have hst : ((qm_r 10 j 0 :: vs').reverse ++ rest).map (qm_tr g) = (vs'.map (qm_tr g)).reverse ++ .ref (qm_aS g j) :: rest.map (qm_tr g) := by
        rw [List.map_append, List.reverse_cons, List.map_append, List.map_reverse, List.append_assoc]
        rfl
      rw [hst]
      refine qm_after (fr0 := F0 m pc ls []) (va_runV (S := ⟨hx, hb, hml, hown, hts⟩) (hM := hM) (cw := ⟨cb0, tsa _ w4, tsa _ w5⟩) (As := vs'.map (qm_tr g)) (rest := rest.map (qm_tr g)) (b := qm_aS g j) ⟨qm_Pc_blind g _ _, ?_, fun U hU hW => pre U hU hW⟩ rfl ?_ hL.1 rfl (lv_room cats) hdg ⟨Nat.le_refl _, Nat.le_refl _⟩) hl fin
      · obtain ⟨-, ⟨adV, hvk⟩, -, -, hsz⟩ := hSR
        obtain ⟨cell, c1, c2, c3, -⟩ := (hvk.1 j h16).1.kept (H1 := H) (fun a _ hA => hH.2.1 a (Nat.not_le.mp hA))
        exact ⟨cell, c1, c2, by rw [hcs]; exact c3⟩
      · rw [List.length_map]
        simp only [List.length_cons] at hn
        omega
  · unfold qm_cpy at hf
    split at hf
    · rename_i s0 n0 a0 sp s1 n1 a1 dp n1'
      split at hf
      · rename_i hcond
        obtain ⟨es, hty, h1, h2, h3, h4, h5⟩ := hcond
        subst es
        cases hf
        have h9 : s0 ≤ 9 := by rcases hty with q | q <;> omega
        have o0 : qm_ok g s0 n0 a0 := qm_okv_ref h9 (hokv _ List.mem_cons_self)
        have o1 : qm_ok g s0 n1 a1 := qm_okv_ref h9 (hokv _ (List.mem_cons_of_mem _ (List.mem_cons_of_mem _ List.mem_cons_self)))
        show W p l e (qm_rm fr lo) s m args below meth c H locs 0 0 Q (F0 m pc ls (.int n1' :: .int dp :: qm_tr g (qm_r s0 n1 a1) :: .int sp :: qm_tr g (qm_r s0 n0 a0) :: rest.map (qm_tr g)))
        rw [qm_tr_ref h9, qm_tr_ref h9]
        have wn : Jvm.Cond.native arraycopyName ∈ qm_all := qm_w_native
        have ws : Jvm.Cond.static arraycopyName ∈ qm_all := qm_w_cpystat
        have wi : Jvm.Cond.initialized "java/lang/System" ∈ qm_all := qm_w_sysini
        have go : ∀ (ty : FieldType), refKind ty = false → H[qm_ad g a0]? = some (vp_cell (qm_dA g s0) (n0, .inl (h0.1 a0))) → H[qm_ad g a1]? = some (vp_cell (qm_dA g s0) (n1, .inl (h0.1 a1))) → ArrOfT s (qm_dA g s0) ty → (∀ i, i < n1'.toNatClampNeg → fits ty (.int (h0.1 a0 (sp.toNatClampNeg + i))) = true) → qm_cell g (qm_row h0 a1 (va_cpy (h0.1 a0) (h0.1 a1) sp.toNatClampNeg dp.toNatClampNeg n1'.toNatClampNeg)) s0 n1 a1 = .inl (qm_dA g s0, n1, .inl (va_cpy (h0.1 a0) (h0.1 a1) sp.toNatClampNeg dp.toNatClampNeg n1'.toNatClampNeg)) → W p l e (qm_rm fr lo) s m args below meth c H locs 0 0 Q (F0 m pc ls (.int n1' :: .int dp :: .ref (qm_ad g a1) :: .int sp :: .ref (qm_ad g a0) :: rest.map (qm_tr g))) := by
          intro ty hrk c0 c1 ht hft hcell
          refine qm_copyK hx hb (by rw [hml]; exact hL.1.symm) hown (tsa _ hlink) (tsa _ wn) (tsa _ ws) (tsa _ wi) c0 c1 ht ht hrk h1 h2 h3 h4 h5 hft hfr (by have := cats; show _ ≤ lo; omega) hdg fun H1 L e1 e2 e3 e4 => ?_
          refine fin H1 _ (hH.row hG o1 (by rcases hty with q | q <;> omega) e2 e3 ?_) (fun v hv => by cases hv) (fun q hq => ?_)
          · rw [hcell]
            exact e1
          · rcases List.mem_append.mp hq with hq | hq
            · exact hl q hq
            · rw [e4 q hq]
              exact (hG.1 _ _ _ o1).2
        rcases hty with hty | ⟨hty, hfb⟩
        · subst hty
          exact go .int rfl (hH.2.2.1 1 n0 a0 o0) (hH.2.2.1 1 n1 a1 o1) (hK.2 0 _ (qm_tys_at g 1 (by omega) (by omega))).1 (fun _ _ => rfl) (by unfold qm_cell; simp)
        · subst hty
          exact go .byte rfl (hH.2.2.1 2 n0 a0 o0) (hH.2.2.1 2 n1 a1 o1) (hK.2 1 _ (qm_tys_at g 2 (by omega) (by omega))).1 hfb (by unfold qm_cell; simp)
      · cases hf
    · cases hf
/-- the locals at a method's entry -/
def qm_ent (n : Nat) (vs : List qm_V) : List (Option qm_V) := (vs.flatMap fun v => if qm_cat v = 2 then [some v, none] else [some v]) ++ List.replicate (n - (vs.flatMap fun v => if qm_cat v = 2 then [some v, none] else [some v]).length) none
theorem qm_ent_args : ∀ (vs : List qm_V) (k i : Nat) (v : qm_V), ((vs.flatMap fun v => if qm_cat v = 2 then [some v, none] else [some v]) : List (Option qm_V))[i]? = some (some v) → v ∈ vs ∧ (k + i, qm_tr g v) ∈ lv_args k (vs.map (qm_tr g)) := by
  intro vs
  induction vs with
  | nil => intro k i v h; simp at h
  | cons w vs ih =>
    intro k i v h
    rw [List.flatMap_cons] at h
    by_cases hc : qm_cat w = 2
    · rw [if_pos hc] at h
      have e : lv_args k ((w :: vs).map (qm_tr g)) = (k, qm_tr g w) :: lv_args (k + 2) (vs.map (qm_tr g)) := by
        show (k, qm_tr g w) :: lv_args (if (qm_tr g w).category = 2 then k + 2 else k + 1) _ = _
        rw [if_pos (by rw [qm_cat_tr]; exact hc)]
      rw [e]
      match i, h with
      | 0, h => cases h; exact ⟨List.mem_cons_self, List.mem_cons_self⟩
      | 1, h => cases h
      | j + 2, h =>
        obtain ⟨h1, h2⟩ := ih (k + 2) j v h
        exact ⟨List.mem_cons_of_mem _ h1, List.mem_cons_of_mem _ (by rw [show k + (j + 2) = k + 2 + j by omega]; exact h2)⟩
    · rw [if_neg hc] at h
      have e : lv_args k ((w :: vs).map (qm_tr g)) = (k, qm_tr g w) :: lv_args (k + 1) (vs.map (qm_tr g)) := by
        show (k, qm_tr g w) :: lv_args (if (qm_tr g w).category = 2 then k + 2 else k + 1) _ = _
        rw [if_neg (by rw [qm_cat_tr]; exact hc)]
      rw [e]
      match i, h with
      | 0, h => cases h; exact ⟨List.mem_cons_self, List.mem_cons_self⟩
      | j + 1, h =>
        obtain ⟨h1, h2⟩ := ih (k + 1) j v h
        exact ⟨List.mem_cons_of_mem _ h1, List.mem_cons_of_mem _ (by rw [show k + (j + 1) = k + 1 + j by omega]; exact h2)⟩
theorem qm_sl_len : ∀ vs : List qm_V, (lg_sl (vs.map (qm_tr g))).length = ((vs.flatMap fun v => if qm_cat v = 2 then [some v, none] else [some v]) : List (Option qm_V)).length := by
  intro vs
  induction vs with
  | nil => rfl
  | cons w vs ih =>
    unfold lg_sl at ih ⊢
    rw [List.map_cons, List.flatMap_cons, List.flatMap_cons, List.length_append, List.length_append, ih, qm_cat_tr]
    by_cases hc : qm_cat w = 2
    · rw [if_pos hc, if_pos hc]; rfl
    · rw [if_neg hc, if_neg hc]; rfl
/-- A METHOD'S CONTRACT: its clean function is a run of its bytes -/
theorem qm_met {y : MethodName} {maxL : Nat} {ret : Option FieldType} {f : qm_C} {fld : Nat → Option (Nat × Nat)} {con : Nat → Option qm_V} {call : Nat → Option (Nat × Nat × qm_C)} {tab : Nat → Option (Instr × Nat)} (hy : plainFor y = true)
    (hfld : ∀ k ci j, fld k = some (ci, j) → j < qm_nf ci ∧ (Jvm.Cond.fieldLink y.cls k (qm_T ci j).1 (qm_T ci j).2.1 (qm_T ci j).2.2.1) ∈ qm_all) (hcon : (∀ k x, con k = some (qm_i x) → Jvm.Cond.constant y.cls k x ∈ qm_all) ∧ (∀ k x, con k = some (qm_l x) → Jvm.Cond.constantLong y.cls k x ∈ qm_all) ∧ ∀ k n, con k = some (qm_r 10 n 0) → n < 16 ∧ y.cls = RX3 ∧ k = qm_sx n)
    (hcall : ∀ idx kd n f, call idx = some (kd, n, f) → qm_CallOK y.cls fr lo kd idx n f) (htab : ∀ pc i, tab pc = some i → decode cc pc = .ok i ∧ qm_len i.1 i.2 = true)
    (hf : ∀ vs h o, f vs h = some o → (vs.flatMap fun v => if qm_cat v = 2 then [some v, none] else [some v] : List (Option qm_V)).length ≤ maxL ∧ ∃ n, qm_run ret fld con call tab n (0, qm_ent maxL vs, [], h) = some o) : qm_Snd y cc maxL ret fr lo f := by
  intro l g hG vs h o hfo hok
  obtain ⟨hlen, n, hrun⟩ := hf vs h o hfo
  refine va_MetF (cc := cc) (maxL := maxL) (ret := ret) hy rfl ?_
  intro p e s m args below meth c s₁ B hml hv
  obtain ⟨rfl, hH, hK, hSR⟩ := hv
  have hts := atoms_spec (ws := Jvm.Cond.code y cc maxL ret :: qm_all) B.pre
  have hown : s.vm.findClass y.cls = some m.cls := findClass_of_methodNamed B.named
  have A : qm_At p s m (vs.map (qm_tr g)).toArray c cc g y.cls (Jvm.Cond.code y cc maxL ret :: qm_all) := ⟨B.exec, B.bytes, hown, hts, hK, hG, fun cl hcl w hw => List.mem_cons_of_mem _ (qm_u_in cl hcl w hw)⟩
  have hT : qm_Tab y.cls (Jvm.Cond.code y cc maxL ret :: qm_all) (qm_aS g) s fld con := ⟨fun k ci j hk => ⟨(hfld k ci j hk).1, List.mem_cons_of_mem _ (hfld k ci j hk).2⟩, fun k x hk => List.mem_cons_of_mem _ (hcon.1 k x hk), fun k x hk => List.mem_cons_of_mem _ (hcon.2.1 k x hk), fun k n hk => by
    obtain ⟨h16, e1, e2⟩ := hcon.2.2 k n hk
    exact ⟨h16, qm_stx n, by rw [e1, e2]; exact hSR.1 n h16⟩⟩
  have hl := lv_entry (vs.map (qm_tr g)) (n := maxL) (by rw [qm_sl_len]; exact hlen)
  rw [lg_entry_eq]
  generalize (lg_sl (vs.map (qm_tr g)) ++ List.replicate (maxL - (lg_sl (vs.map (qm_tr g))).length) Slot.unset).toArray = ls at hl ⊢
  have hLR : qm_LR g ls maxL (qm_ent maxL vs) := by
    refine ⟨hl.1, ?_, hl.2.1, fun i v hv => ?_⟩
    · unfold qm_ent
      rw [List.length_append, List.length_replicate]
      omega
    · unfold qm_ent at hv
      by_cases hi : i < (vs.flatMap fun v => if qm_cat v = 2 then [some v, none] else [some v] : List (Option qm_V)).length
      · rw [List.getElem?_append_left hi] at hv
        obtain ⟨h1, h2⟩ := qm_ent_args (g := g) vs 0 i v hv
        rw [Nat.zero_add] at h2
        exact ⟨hok v h1, hl.2.2 _ h2⟩
      · rw [List.getElem?_append_right (by omega), List.getElem?_replicate] at hv
        split at hv <;> cases hv
  exact qm_run_ok rfl B.returns B.notSynchronized A hT (fun idx kd n f hc => qm_cok A hml hSR (hcall idx kd n f hc)) htab n _ hrun (fun v hv => by cases hv) ls s.heap [] hLR hH (fun q hq => by cases hq)
end QC
