def R_law : String := "WillowLawLaw"
def lw_P (b : Addr) (xs : List Int32) (args : Array Value) (s : State) : Prop := args = #[.ref b] ∧ s.IntsAt b xs ∧ xs.length ≤ 3072 ∧ (Jvm.Cond.and given_1 narrow_1).before args s = true
def lw_Q (_ : Array Value) (s : State) (o : Outcome) (t : State) : Prop := o = .returned (some (.int 1)) ∧ Framed s o t [] 600000 7302250
def lw_Z (below : List Frame) (a : Array Value) (s : State) : State → Prop := fun t => ∃ o, t.status = .running ∧ Ended t below o ∧ lw_Q a s o t
/-- the law's own end, with 1 on the stack, nothing written that was there before, its room as the claim has it -/
theorem lw_ret {p : Program} {l : Launch} {e : Env} {s : State} {m : MethodId} {below : List Frame} {meth : Method} {c : Code} {b : Nat} (hx : p.tables.exec = Jvm.exec) (hb : c.code = code) (hr : meth.sig.returnType = ret) (hlocks : meth.locks = false) {pc : Nat} {H : Heap} {ls : Array Slot} (hdg : decode code pc = .ok (.ireturn, 1)) : W p l e room_1 s m #[Value.ref b] below meth c H [] 600000 7302250 (lw_Z below #[Value.ref b] s) (F0 m pc ls [.int 1]) := by
  intro T hT X
  obtain ⟨fs, hret, hrun, hended, hW, hframe⟩ := X.leave (v := some (.int 1)) (hlocks := hlocks) (fun h => by rw [hr] at h; cases h)
  have hmeth' : T.vm.method? m = some meth := X.method'
  refine ⟨T.setFrames fs, ?_, .returned (some (.int 1)), hrun, hended, rfl, ⟨_, rfl⟩, hW, hframe⟩
  jvm_step X.here [X.here.top, hx, hb, hdg, hmeth', hr, ret, narrow_b1]
  (try refine ⟨rfl, ?_⟩); (try refine ⟨rfl, ?_⟩)
  first | (intro acts; rw [hret _ acts rfl rfl rfl]) | rw [hret _ _ rfl rfl rfl]
  exact Steps.refl _
/-- what holds at the law's entry: the machine, the code, the tables' words (any of lw_tbl by 'hts w (by decide +kernel)'), the script of L ints xs at the cell b, what the Statement gives of the start (any of its parts by flat_of_before) -/
def lw_At (p : Program) (s : State) (m : MethodId) (meth : Method) (c : Code) (b L : Nat) (xs : Nat → Int32) : Prop :=
  p.tables.exec = Jvm.exec ∧ c.code = code ∧ meth.sig.returnType = ret ∧ c.maxLocals = 4 ∧ s.vm.findClass R_law = some m.cls ∧ (∀ w ∈ lw_tbl, w.before #[Value.ref b] s = true) ∧ va_X b L xs s s.heap ∧ b < s.heap.size ∧ meth.locks = false ∧ (Jvm.Cond.and given_1 narrow_1).before #[Value.ref b] s = true
/-! THE LAW'S WALK: its context, its frames, its calls. -/
def qL_C (p : Program) (s : State) (m : MethodId) (meth : Method) (c : Code) (b L : Nat) (xs : Nat → Int32) (g : qm_G) : Prop := lw_At p s m meth c b L xs ∧ qm_GO g ∧ va_K (qm_D g) vwCl (qm_tys g) s ∧ qm_SR g s ∧ qz_NK s ∧ (qm_b g = s.heap.size ∧ qm_H0 g = s.heap) ∧ qm_ok g 0 11 0 ∧ qm_ok g 0 12 62
def qL_W (p : Program) (l : Launch) (e : Env) (s : State) (m : MethodId) (below : List Frame) (meth : Method) (c : Code) (b : Nat) (g : qm_G) (cells slots i : Nat) (pc : Nat) (S : List qm_V) (h : qm_H) : Prop := ∀ (ls : Array Slot) (H : Heap) (locs : List Loc), lv_has ls 4 [(0, .ref b), (1, .ref (qm_ad g 0)), (2, .ref (qm_ad g 62)), (3, .int (nI i))] → qm_HR g h H → (∀ q ∈ locs, qm_b g ≤ q.base) → W p l e room_1 s m #[Value.ref b] below meth c H locs cells slots (lw_Z below #[Value.ref b] s) (F0 m pc ls (S.map (qm_tr g)))
section QLW
variable {p : Program} {l : Launch} {e : Env} {s : State} {m : MethodId} {below : List Frame} {meth : Method} {c : Code} {b L : Nat} {xs : Nat → Int32} {g : qm_G} {cells slots i pc : Nat} {S : List qm_V} {h : qm_H}
theorem qL_S (C : qL_C p s m meth c b L xs g) {H : Heap} {locs : List Loc} (hH : qm_HR g h H) (hl : ∀ q ∈ locs, qm_b g ≤ q.base) : va_S (qm_free g) s.heap H locs := by
  obtain ⟨-, -, -, -, -, ⟨e1, e2⟩, -⟩ := C
  refine ⟨by rw [← e1]; exact hH.1, fun q h1 h2 => ?_, hl⟩
  rw [← e2]
  exact hH.2.1 q (Nat.not_le.mp h2)
theorem qL_arg (C : qL_C p s m meth c b L xs g) {k : Nat} {n : Int} (hn : Int32.ofInt n = nI k) (hik : i + k < L) (hL : L ≤ 3072) (d0 : decode code pc = .ok (.aload_n 0, 1)) (d1 : decode code (pc + 1) = .ok (.iload_n 3, 1)) (d2 : decode code (pc + 1 + 1) = .ok (.iconst n, 1)) (d3 : decode code (pc + 1 + 1 + 1) = .ok (.iadd, 1)) (d4 : decode code (pc + 1 + 1 + 1 + 1) = .ok (.iaload, 1)) (kk : qL_W p l e s m below meth c b g cells slots i (pc + 5) (qm_i (xs (i + k)) :: S) h) : qL_W p l e s m below meth c b g cells slots i pc S h := by
  intro ls H locs hl hH hlo
  have hS := qL_S C hH hlo
  obtain ⟨⟨hx, hb, hr, hml, hown, hts, hX, hbl, hlocks, hgv⟩, -, -, -, -, ⟨e1, e2⟩, -⟩ := C
  refine lv_aload_n hx hb d0 rfl (lv_at hl 0 rfl) ?_
  refine lv_iload_n hx hb d1 rfl (lv_at hl 3 rfl) ?_
  refine lv_iconst hx hb d2 hn ?_
  refine lv_iadd hx hb d3 ?_
  rw [nI_add]
  refine va_sld hx hb hX hbl (by rw [← e1] at hbl; exact Nat.not_le.mpr hbl) hS (vp_in_nI hik (by omega)) d4 ?_
  rw [nI_clamp (by omega)]
  exact kk ls H locs hl hH hlo
theorem qL_ldx (C : qL_C p s m meth c b L xs g) (d0 : decode code pc = .ok (.aload_n 1, 1)) (kk : qL_W p l e s m below meth c b g cells slots i (pc + 1) (qm_r 0 11 0 :: S) h) : qL_W p l e s m below meth c b g cells slots i pc S h := by
  intro ls H locs hl hH hlo
  exact lv_aload_n C.1.1 C.1.2.1 d0 rfl (lv_at hl 1 rfl) (kk ls H locs hl hH hlo)
theorem qL_ldm (C : qL_C p s m meth c b L xs g) (d0 : decode code pc = .ok (.aload_n 2, 1)) (kk : qL_W p l e s m below meth c b g cells slots i (pc + 1) (qm_r 0 12 62 :: S) h) : qL_W p l e s m below meth c b g cells slots i pc S h := by
  intro ls H locs hl hH hlo
  exact lv_aload_n C.1.1 C.1.2.1 d0 rfl (lv_at hl 2 rfl) (kk ls H locs hl hH hlo)
theorem qL_bool (C : qL_C p s m meth c b L xs g) {x : Int32} (d0 : decode code pc = .ok (.ifCond .eq 7, 3)) (d1 : decode code (pc + 3) = .ok (.iconst 1, 1)) (d2 : decode code (pc + 3 + 1) = .ok (.goto 4, 3)) (d3 : decode code (pc + 7) = .ok (.iconst 0, 1)) (kk : qL_W p l e s m below meth c b g cells slots i (pc + 8) (qm_i (qL_b x) :: S) h) : qL_W p l e s m below meth c b g cells slots i pc (qm_i x :: S) h := by
  intro ls H locs hl hH hlo
  have hx := C.1.1
  have hb := C.1.2.1
  have k1 := kk ls H locs hl hH hlo
  refine lv_if_eq (tgt := pc + 7) hx hb d0 (by omega) (fun q => ?_) (fun q => ?_)
  · refine lv_iconst (v := 0) hx hb d3 (by decide) ?_
    have e : qL_b x = 0 := if_pos q
    rw [e] at k1
    exact k1
  · refine lv_iconst (v := 1) hx hb d1 (by decide) ?_
    refine lv_goto (tgt := pc + 8) hx hb d2 (by omega) ?_
    have e : qL_b x = 1 := if_neg q
    rw [e] at k1
    exact k1
theorem qL_cmp (C : qL_C p s m meth c b L xs g) {x : Int32} {off : Int} {tgt : Nat} (d0 : decode code pc = .ok (.if_icmp .eq off, 3)) (ht : (pc : Int) + off = (tgt : Int)) (kk : qL_W p l e s m below meth c b g cells slots i tgt S h) : qL_W p l e s m below meth c b g cells slots i pc (qm_i x :: qm_i x :: S) h := by
  intro ls H locs hl hH hlo
  exact lv_icmp_eq C.1.1 C.1.2.1 d0 ht (fun _ => kk ls H locs hl hH hlo) (fun q => absurd rfl q)
theorem qL_lcmp (C : qL_C p s m meth c b L xs g) {x : Int64} {off : Int} {tgt : Nat} (d0 : decode code pc = .ok (.lcmp, 1)) (d1 : decode code (pc + 1) = .ok (.ifCond .eq off, 3)) (ht : ((pc + 1 : Nat) : Int) + off = (tgt : Int)) (kk : qL_W p l e s m below meth c b g cells slots i tgt S h) : qL_W p l e s m below meth c b g cells slots i pc (qm_l x :: qm_l x :: S) h := by
  intro ls H locs hl hH hlo
  refine W.lcmp C.1.1 C.1.2.1 d0 ?_
  have e1 : lg_cmp x x = 0 := by
    unfold lg_cmp
    rw [if_neg (by simp), if_pos rfl]
  exact lv_if_eq C.1.1 C.1.2.1 d1 ht (fun _ => kk ls H locs hl hH hlo) (fun q => absurd e1 q)
theorem qL_GoodIn {w1 : Jvm.Cond} (h : w1 ∈ qm_all) : GoodIn lw_tbl (w1 :: qm_all) := by
  intro w hw
  have hw' : w ∈ qm_all := (List.mem_cons.mp hw).elim (fun e => e ▸ h) id
  exact ⟨(qm_all_in hw').1, good_of_word (qm_all_in hw').2⟩
theorem qL_call (C : qL_C p s m meth c b L xs g) {y : MethodName} {cb : ByteArray} {maxL fr lo k idx ci a : Nat} {ret' : Option FieldType} {f : qm_C} {vs : List qm_V} {o : qm_O} (hSnd : qm_Snd y cb maxL ret' fr lo f) (hroom : fr + 1 ≤ 13 ∧ 8 + (maxL + 11) + lo ≤ 486) (w1 : Jvm.Cond.code y cb maxL ret' ∈ qm_all) (w2 : Jvm.Cond.methodLink R_law idx y ∈ qm_all) (w3 : Jvm.Cond.initialized y.cls ∈ qm_all) (hd : y.cls ≠ "java/lang/invoke/MethodHandle" ∧ y.cls ≠ "java/lang/invoke/VarHandle" ∧ (parseMethodDescriptor y.desc).map (fun d => d.parameters.length) = some k) (w45 : Jvm.Cond.instanceMethod y ∈ qm_all ∧ Jvm.Cond.selects y.cls y y ∈ qm_all) (hci : qm_R ci = y.cls) (ho : qm_ok g 0 ci a) (hokv : ∀ v ∈ vs, qm_okv g v) (hn : vs.length = k) (hf : f (qm_r 0 ci a :: vs) h = some o) (cats : (S.map qm_cat).sum ≤ 8) (hdg : decode code pc = .ok (.invokevirtual idx, 3))
    (kk : qL_W p l e s m below meth c b g cells slots i (pc + 3) (o.1.toList ++ S) o.2) (hcs : cells ≤ 600000 ∧ slots ≤ 7302250) : qL_W p l e s m below meth c b g cells slots i pc ((qm_r 0 ci a :: vs).reverse ++ S) h := by
  intro ls H locs hl hH hlo
  obtain ⟨⟨hx, hb, hr, hml, hown, hts, hX, hbl, hlocks, hgv⟩, hG, hK, hSR, hNK, ⟨e1, e2⟩, -⟩ := C
  have tsa : ∀ w ∈ qm_all, w.before #[Value.ref b] s = true := fun w hw => hts w (qm_all_in hw).1
  have hokv' : ∀ v ∈ qm_r 0 ci a :: vs, qm_okv g v := qm_ca (qm_okv_of (by omega) ho) hokv
  have hM := hSnd l g hG _ h o hf hokv'
  have cb0 : CallB room_1 s #[Value.ref b] R_law idx y cb maxL ret' (Jvm.Cond.code y cb maxL ret' :: qm_all) (qm_rm fr lo) 0 0 k := callB_of k hts (qL_GoodIn w1) rfl rfl rfl (tsa _ w3) (tsa _ w2) hd hroom
  have hst : ((qm_r 0 ci a :: vs).reverse ++ S).map (qm_tr g) = (vs.map (qm_tr g)).reverse ++ .ref (qm_ad g a) :: S.map (qm_tr g) := by
    rw [List.map_append, List.reverse_cons, List.map_append, List.map_reverse, List.append_assoc]
    rfl
  rw [hst]
  have cats' : ((S.map (qm_tr g)).map fun v => v.category).sum ≤ 8 := by
    rw [List.map_map]
    have : ((fun v : Value => v.category) ∘ qm_tr g) = qm_cat := funext fun v => qm_cat_tr g v
    rw [this]
    exact cats
  have run := va_runV (p := p) (l := l) (e := e) (R := room_1) (below := below) (meth := meth) (H := H) (locs := locs) (cells := cells) (slots := slots) (S := ⟨hx, hb, hml, hown, hts⟩) (hM := hM) (cw := ⟨cb0, tsa _ w45.1, tsa _ w45.2⟩) (As := vs.map (qm_tr g)) (rest := S.map (qm_tr g)) (b := qm_ad g a) (g := F0 m pc ls ((vs.map (qm_tr g)).reverse ++ .ref (qm_ad g a) :: S.map (qm_tr g))) ⟨qm_Pc_blind g _ _, (by
      obtain ⟨cell, c1, c2, c3⟩ := va_recv (q0 := 0) hK (qm_P1 (hH.2.2.1 0 ci a ho)) (qm_cl ci (hG.2.1 ci a ho)) rfl
      exact ⟨cell, c1, c2, by rw [← hci]; exact c3⟩), fun U hU hW => ⟨rfl, by rw [hU]; exact hH, va_K.moved hW.alike hK, hSR.warm hW⟩⟩ rfl (by rw [List.length_map]; exact hn) hl.1 rfl (lv_room cats') hdg hcs
  intro T hT X
  obtain ⟨v, st₀, t, T', L', h0, X', hL', e3, e4, ⟨hv, hH', hok⟩, st⟩ := run T hT X
  have hv' : v = o.1.map (qm_tr g) := Outcome.returned.inj hv
  subst hv'
  have k1 := kk ls T'.heap (locs ++ L') hl (by rw [e3]; exact hH') (fun q hq => (List.mem_append.mp hq).elim (hlo q) (hL' q))
  rw [List.map_append] at k1
  have e5 : (o.1.toList).map (qm_tr g) = (o.1.map (qm_tr g)).toList := by cases o.1 <;> rfl
  rw [e5] at k1
  obtain ⟨t2, a1, b1⟩ := k1 T' rfl X'
  exact ⟨t2, st t2 a1, b1⟩
end QLW
