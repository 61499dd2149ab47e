/-! STEPS THAT READ OR WRITE the heap. -/
def qm_R (c : Nat) : String := match c with
  | 0 => RX0 | 1 => RX1 | 2 => RX2 | 3 => RX3 | 4 => RX4 | 5 => RX5 | 6 => RX6 | 7 => RX7 | 8 => RX8 | 9 => RX9 | 10 => RX10 | 11 => RX11 | _ => RX12
def qm_T (c : Nat) : u_T := match c with
  | 0 => TX0 | 1 => TX1 | 2 => TX2 | 3 => TX3 | 4 => TX4 | 5 => TX5 | 6 => TX6 | 7 => TX7 | 8 => TX8 | 9 => TX9 | 10 => TX10 | 11 => TX11 | _ => TX12
def qm_ty (c : Nat) : Nat → FieldType := match c with
  | 0 => tyX0 | 1 => tyX1 | 2 => tyX2 | 3 => tyX3 | 4 => tyX4 | 5 => tyX5 | 6 => tyX6 | 7 => tyX7 | 8 => tyX8 | 9 => tyX9 | 10 => tyX10 | 11 => tyX11 | _ => tyX12
theorem qm_cl : ∀ c, c < 13 → vwCl[c]? = some (qm_R c, qm_T c, qm_nf c) := by
  intro c hc
  match c, hc with
  | 0, _ => rfl
  | 1, _ => rfl
  | 2, _ => rfl
  | 3, _ => rfl
  | 4, _ => rfl
  | 5, _ => rfl
  | 6, _ => rfl
  | 7, _ => rfl
  | 8, _ => rfl
  | 9, _ => rfl
  | 10, _ => rfl
  | 11, _ => rfl
  | 12, _ => rfl
theorem qm_nm : ∀ c, c < 13 → ∀ a, a < qm_nf c → ∀ b, b < qm_nf c → a ≠ b → (qm_T c a).2.1 ≠ (qm_T c b).2.1 := by
  intro c hc
  match c, hc with
  | 0, _ => exact nmX0
  | 1, _ => exact nmX1
  | 2, _ => exact nmX2
  | 3, _ => exact nmX3
  | 4, _ => exact nmX4
  | 5, _ => exact nmX5
  | 6, _ => exact nmX6
  | 7, _ => exact nmX7
  | 8, _ => exact nmX8
  | 9, _ => exact nmX9
  | 10, _ => exact nmX10
  | 11, _ => exact nmX11
  | 12, _ => exact nmX12
theorem qm_tyok : ∀ c, c < 13 → ∀ k, k < qm_nf c → parseFieldDescriptor (qm_T c k).2.2.1 = some (qm_ty c k) := by
  intro c hc
  match c, hc with
  | 0, _ => exact tyX0_ok
  | 1, _ => exact tyX1_ok
  | 2, _ => exact tyX2_ok
  | 3, _ => exact tyX3_ok
  | 4, _ => exact tyX4_ok
  | 5, _ => exact tyX5_ok
  | 6, _ => exact tyX6_ok
  | 7, _ => exact tyX7_ok
  | 8, _ => exact tyX8_ok
  | 9, _ => exact tyX9_ok
  | 10, _ => exact tyX10_ok
  | 11, _ => exact tyX11_ok
  | 12, _ => exact tyX12_ok
theorem qm_ft0 : ∀ c, c < 13 → ∀ k, k < qm_nf c → qm_ft c k = 0 → qm_ty c k = .int ∧ (qm_T c k).2.2.2 = false := by decide +kernel
theorem qm_ft3 : ∀ c, c < 13 → ∀ k, k < qm_nf c → qm_ft c k = 3 → qm_ty c k = .boolean ∧ (qm_T c k).2.2.2 = false := by decide +kernel
theorem qm_ft1 : ∀ c, c < 13 → ∀ k, k < qm_nf c → qm_ft c k = 1 → qm_ty c k = .long ∧ (qm_T c k).2.2.2 = false := by decide +kernel
theorem qm_P1 {D : va_G} {q : Nat × va_E} {H : Heap} (h : va_at D vwCl q H) : va_P D vwCl [q] H := by
  intro k q' hk
  have hz : k < 1 := (List.getElem?_eq_some_iff.mp hk).1
  rw [show k = 0 by omega] at hk
  cases hk
  exact h
theorem qm_fs (f : Nat → Value) {n k : Nat} (hk : k < n) : ((List.range n).map f)[k]? = some (f k) := by
  rw [List.getElem?_map, List.getElem?_range hk]
  rfl
theorem qm_fsV (f : Nat → Value) {n k : Nat} (hk : k < n) : vp_V ((List.range n).map f) k = f k := by
  unfold vp_V
  rw [List.getD_eq_getElem?_getD, qm_fs f hk]
  rfl
/-- what is known of a frame's method: the machine, its bytes, its class, the tables' words -/
def qm_At (p : Program) (s : State) (m : MethodId) (args : Array Value) (c : Code) (cc : ByteArray) (g : qm_G) (own : String) (Ts : List Jvm.Cond) : Prop := p.tables.exec = Jvm.exec ∧ c.code = cc ∧ s.vm.findClass own = some m.cls ∧ (∀ w ∈ Ts, w.before args s = true) ∧ va_K (qm_D g) vwCl (qm_tys g) s ∧ qm_GO g ∧ ∀ cl, cl < 13 → ∀ w ∈ u_ws (qm_R cl) (qm_T cl) (qm_nf cl), w ∈ Ts
section QH
variable {p : Program} {l : Launch} {e : Env} {R : Room} {s : State} {m : MethodId} {args : Array Value} {below : List Frame} {meth : Method} {c : Code} {Q : State → Prop} {g : qm_G} {nL : Nat} {cc : ByteArray} {own : String} {Ts : List Jvm.Cond}
variable {pc : Nat} {L : List (Option qm_V)} {S T : List qm_V} {h : qm_H}
theorem qm_getfield (A : qm_At p s m args c cc g own Ts) {k ci j a : Nat} (hj : j < qm_nf ci) (hlink : (Cond.fieldLink own k (qm_T ci j).1 (qm_T ci j).2.1 (qm_T ci j).2.2.1) ∈ Ts) (hdg : decode cc pc = .ok (.getfield k, 3)) (kk : qm_W p l e R s m args below meth c Q g nL (pc + 3) L (qm_getf h ci j a :: T) h) : qm_W p l e R s m args below meth c Q g nL pc L (qm_r 0 ci a :: T) h := by
  intro hS ls H locs hL hH hl
  obtain ⟨hx, hb, hown, hts, hK, hG, hin⟩ := A
  have ho : qm_ok g 0 ci a := qm_okv_ref (by omega) (qm_hd hS)
  have hc := hG.2.1 ci a ho
  have hokv : qm_okv g (qm_getf h ci j a) := by
    unfold qm_getf
    split
    · trivial
    · rename_i e2
      have h1 := hG.2.2.1 ci j a ho hj e2
      exact qm_okv_of (hG.1 _ _ _ h1).1 h1
    · trivial
  refine va_get (D := qm_D g) (cl := vwCl) (ws := [(qm_ad g a, qm_cell g h 0 ci a)]) (ci := ci) (C := qm_R ci) (T := qm_T ci) (N := qm_nf ci) (fs := (List.range (qm_nf ci)).map fun k => qm_tr g (qm_getf h ci k a)) (v := qm_tr g (qm_getf h ci j a)) hx hb hts (hin ci hc) hown hK (qm_P1 (hH.2.2.1 0 ci a ho)) 0 rfl (qm_cl ci hc) j hj (hts _ hlink) (fun _ h9 => h9) (qm_fs _ hj) hdg ?_
  exact kk (qm_ca hokv (qm_tl hS)) ls H locs hL hH hl
/-- the JVM's store into a field, with the heap behind it -/
theorem qm_putK (A : qm_At p s m args c cc g own Ts) {k ci j a : Nat} (hj : j < qm_nf ci) (hlink : (Cond.fieldLink own k (qm_T ci j).1 (qm_T ci j).2.1 (qm_T ci j).2.2.1) ∈ Ts) (hdg : decode cc pc = .ok (.putfield k, 3)) (ho : qm_ok g 0 ci a) (hfin : (qm_T ci j).2.2.2 = false) {v : Value} (hn : narrow (qm_ty ci j) v = v) (hfit : fits (qm_ty ci j) v = true) {ls : Array Slot} {H : Heap} {locs : List Loc} {rest : List Value} (hH : qm_HR g h H) (hl : ∀ q ∈ locs, qm_b g ≤ q.base)
    (kk : ∀ (H' : Heap) (locs' : List Loc), t_OB (qm_ad g a) ((qm_D g).1 ci) (qm_nf ci) ((qm_D g).2 ci) H' (updV (fun k => qm_tr g (qm_getf h ci k a)) j v) → H'.size = H.size → (∀ q, q ≠ qm_ad g a → H'[q]? = H[q]?) → (∀ q ∈ locs', qm_b g ≤ q.base) → W p l e R s m args below meth c H' locs' 0 0 Q (F0 m (pc + 3) ls rest)) : W p l e R s m args below meth c H locs 0 0 Q (F0 m pc ls (v :: .ref (qm_ad g a) :: rest)) := by
  obtain ⟨hx, hb, hown, hts, hK, hG, hin⟩ := A
  have hc := hG.2.1 ci a ho
  have hcl := qm_cl ci hc
  have hap := va_apart (own := own) hts (hin ci hc) (qm_ty ci) (qm_tyok ci hc) (qm_nm ci hc) hK hcl
  obtain ⟨r, h1, cell, q1, q2, q3, q4⟩ := hH.2.2.1 0 ci a ho
  have hr : r = (qm_R ci, qm_T ci, qm_nf ci) := Option.some.inj (h1.symm.trans hcl)
  subst hr
  obtain ⟨hS, hfc, kC, hkC, hkind⟩ := hK.1 ci _ hcl
  obtain ⟨cf, kf, fi, f, hi, hsl⟩ := hS j hj
  have hlay := hts _ (hin ci hc _ (u_in_lay hj))
  unfold u_lay at hlay
  rw [if_neg (by rw [hfin]; decide)] at hlay
  have hst := (u_facts hfc hkC (u_lays hts (hin ci hc) hj) hi).1
  have h6 := u_store hfc hkC hkind hlay hi (qm_tyok ci hc j hj) hn hfit
  refine W.putK hx hb (f := f) ⟨hown, hts _ hlink, ⟨_, _, _, hi⟩, hst⟩ (by rw [q2]; exact h6) q1 q3 (by rw [hsl]; exact k2_hasslot (q4 j hj)) rfl rfl hdg fun H' e1 e2 e3 => ?_
  rw [hsl] at e1 ⊢
  have q4' : ∀ k, k < qm_nf ci → cell.slots[(qm_D g).2 ci k]? = some ((fun k => qm_tr g (qm_getf h ci k a)) k) := fun k hk => by
    rw [q4 k hk]
    exact congrArg some (qm_fsV _ hk)
  exact kk H' _ ⟨_, e1, q2, q3, t_set q4' hap hj v⟩ e2 e3 (qm_put_loc hG ho rfl hl)
theorem qm_getf_upi {ci j k a : Nat} {x : Int32} (hf : qm_ft ci j = 0 ∨ qm_ft ci j = 3) : updV (fun k => qm_tr g (qm_getf h ci k a)) j (.int x) k = qm_tr g (qm_getf (qm_seti h a j x) ci k a) := by
  unfold updV
  by_cases e1 : k = j
  · subst e1
    rw [if_pos rfl]
    unfold qm_getf
    rcases hf with hf | hf <;> rw [hf] <;> simp [qm_up, qm_tr]
  · rw [if_neg e1]
    unfold qm_getf
    simp [qm_up, e1]
theorem qm_getf_upl {ci j k a : Nat} {x : Int64} (hf : qm_ft ci j = 1) : updV (fun k => qm_tr g (qm_getf h ci k a)) j (.long x) k = qm_tr g (qm_getf (qm_setl h a j x) ci k a) := by
  unfold updV
  by_cases e1 : k = j
  · subst e1
    rw [if_pos rfl]
    unfold qm_getf
    rw [hf]
    simp [qm_up, qm_tr]
  · rw [if_neg e1]
    unfold qm_getf
    simp [qm_up, e1]
theorem qm_b01 {x : Int32} (h : x &&& 1 = x) : x = 0 ∨ x = 1 := by
  have h1 := pk_and x (m := 1) 1 (by decide)
  rw [h] at h1
  have h2 : x.toBitVec.toNat % 2 ^ 1 < 2 := Nat.mod_lt _ (by decide)
  generalize x.toBitVec.toNat % 2 ^ 1 = r at h1 h2
  rcases (show r = 0 ∨ r = 1 by omega) with e | e
  · left; rw [h1, e]; rfl
  · right; rw [h1, e]; rfl
theorem qm_puti (A : qm_At p s m args c cc g own Ts) {k ci j a : Nat} {x : Int32} (hj : j < qm_nf ci) (hlink : (Cond.fieldLink own k (qm_T ci j).1 (qm_T ci j).2.1 (qm_T ci j).2.2.1) ∈ Ts) (hdg : decode cc pc = .ok (.putfield k, 3)) (hf : qm_ft ci j = 0 ∨ qm_ft ci j = 3 ∧ x &&& 1 = x) (kk : qm_W p l e R s m args below meth c Q g nL (pc + 3) L T (qm_seti h a j x)) : qm_W p l e R s m args below meth c Q g nL pc L (qm_i x :: qm_r 0 ci a :: T) h := by
  intro hS ls H locs hL hH hl
  have hG := A.2.2.2.2.2.1
  have ho : qm_ok g 0 ci a := qm_okv_ref (by omega) (qm_hd (qm_tl hS))
  have hc := hG.2.1 ci a ho
  have hff : qm_ft ci j = 0 ∨ qm_ft ci j = 3 := hf.imp id (·.1)
  have hn : narrow (qm_ty ci j) (.int x) = .int x ∧ fits (qm_ty ci j) (.int x) = true ∧ (qm_T ci j).2.2.2 = false := by
    rcases hf with hf | ⟨hf, hx1⟩
    · obtain ⟨h1, h2⟩ := qm_ft0 ci hc j hj hf
      rw [h1]
      exact ⟨rfl, rfl, h2⟩
    · obtain ⟨h1, h2⟩ := qm_ft3 ci hc j hj hf
      rw [h1]
      have hz : narrow FieldType.boolean (.int x) = .int x := by
        show Value.int (x &&& 1) = _
        rw [hx1]
      refine ⟨hz, ?_, h2⟩
      simp [fits, hz]
      exact qm_b01 hx1
  refine qm_putK A hj hlink hdg ho hn.2.2 hn.1 hn.2.1 hH hl fun H' locs' e1 e2 e3 hl' => ?_
  refine kk (qm_tl (qm_tl hS)) ls H' locs' hL (hH.seti hG ho (by omega) e2 e3 ⟨_, qm_cl ci hc, e1.to fun k hk => ?_⟩) hl'
  show _ = vp_V ((List.range (qm_nf ci)).map fun k => qm_tr g (qm_getf (qm_seti h a j x) ci k a)) k
  rw [qm_fsV _ hk]
  exact qm_getf_upi hff
theorem qm_putl (A : qm_At p s m args c cc g own Ts) {k ci j a : Nat} {x : Int64} (hj : j < qm_nf ci) (hlink : (Cond.fieldLink own k (qm_T ci j).1 (qm_T ci j).2.1 (qm_T ci j).2.2.1) ∈ Ts) (hdg : decode cc pc = .ok (.putfield k, 3)) (hf : qm_ft ci j = 1) (kk : qm_W p l e R s m args below meth c Q g nL (pc + 3) L T (qm_setl h a j x)) : qm_W p l e R s m args below meth c Q g nL pc L (qm_l x :: qm_r 0 ci a :: T) h := by
  intro hS ls H locs hL hH hl
  have hG := A.2.2.2.2.2.1
  have ho : qm_ok g 0 ci a := qm_okv_ref (by omega) (qm_hd (qm_tl hS))
  have hc := hG.2.1 ci a ho
  obtain ⟨h1, h2⟩ := qm_ft1 ci hc j hj hf
  refine qm_putK A hj hlink hdg ho h2 (by rw [h1]; rfl) (by rw [h1]; rfl) hH hl fun H' locs' e1 e2 e3 hl' => ?_
  refine kk (qm_tl (qm_tl hS)) ls H' locs' hL (hH.setl hG ho e2 e3 ⟨_, qm_cl ci hc, e1.to fun k hk => ?_⟩) hl'
  show _ = vp_V ((List.range (qm_nf ci)).map fun k => qm_tr g (qm_getf (qm_setl h a j x) ci k a)) k
  rw [qm_fsV _ hk]
  exact qm_getf_upl hf
theorem qm_alen (A : qm_At p s m args c cc g own Ts) {so n a : Nat} (h1 : 1 ≤ so) (h9 : so ≤ 9) (hdg : decode cc pc = .ok (.arraylength, 1)) (kk : qm_W p l e R s m args below meth c Q g nL (pc + 1) L (qm_i (Int32.ofNat n) :: T) h) : qm_W p l e R s m args below meth c Q g nL pc L (qm_r so n a :: T) h := by
  intro hS ls H locs hL hH hl
  obtain ⟨hx, hb, hown, hts, hK, hG, hin⟩ := A
  have ho : qm_ok g so n a := qm_okv_ref h9 (qm_hd hS)
  have hP := qm_P1 (hH.2.2.1 so n a ho)
  have hk := kk (qm_ca trivial (qm_tl hS)) ls H locs hL hH hl
  show W p l e R s m args below meth c H locs 0 0 Q (F0 m pc ls (qm_tr g (qm_r so n a) :: T.map (qm_tr g)))
  rw [qm_tr_ref h9]
  have ht := qm_tys_at g so h1 h9
  match so, h1, h9, hP, ht with
  | 1, _, _, hP, ht => exact va_alen hx hb hK hP 0 _ rfl ht rfl hdg hk
  | 2, _, _, hP, ht => exact va_alen hx hb hK hP 0 _ rfl ht rfl hdg hk
  | 3, _, _, hP, ht => exact va_alen hx hb hK hP 0 _ rfl ht rfl hdg hk
  | 4, _, _, hP, ht => exact va_alen hx hb hK hP 0 _ rfl ht rfl hdg hk
  | 5, _, _, hP, ht => exact va_alen hx hb hK hP 0 _ rfl ht rfl hdg hk
  | 6, _, _, hP, ht => exact va_alen hx hb hK hP 0 _ rfl ht rfl hdg hk
  | 7, _, _, hP, ht => exact va_alen hx hb hK hP 0 _ rfl ht rfl hdg hk
  | 8, _, _, hP, ht => exact va_alen hx hb hK hP 0 _ rfl ht rfl hdg hk
  | 9, _, _, hP, ht => exact va_alen hx hb hK hP 0 _ rfl ht rfl hdg hk
theorem qm_iald (A : qm_At p s m args c cc g own Ts) {n a : Nat} {j : Int32} (hin : vp_in j n) (hdg : decode cc pc = .ok (.iaload, 1)) (kk : qm_W p l e R s m args below meth c Q g nL (pc + 1) L (qm_i (h.1 a j.toNatClampNeg) :: T) h) : qm_W p l e R s m args below meth c Q g nL pc L (qm_i j :: qm_r 1 n a :: T) h := by
  intro hS ls H locs hL hH hl
  obtain ⟨hx, hb, hown, hts, hK, hG, -⟩ := A
  have ho : qm_ok g 1 n a := qm_okv_ref (by omega) (qm_hd (qm_tl hS))
  exact va_iald hx hb hK (qm_P1 (hH.2.2.1 1 n a ho)) 0 0 rfl (qm_tys_at g 1 (by omega) (by omega)) hin hdg (kk (qm_ca trivial (qm_tl (qm_tl hS))) ls H locs hL hH hl)
theorem qm_bald (A : qm_At p s m args c cc g own Ts) {n a : Nat} {j : Int32} (hin : vp_in j n) (hdg : decode cc pc = .ok (.baload, 1)) (kk : qm_W p l e R s m args below meth c Q g nL (pc + 1) L (qm_i (h.1 a j.toNatClampNeg) :: T) h) : qm_W p l e R s m args below meth c Q g nL pc L (qm_i j :: qm_r 2 n a :: T) h := by
  intro hS ls H locs hL hH hl
  obtain ⟨hx, hb, hown, hts, hK, hG, -⟩ := A
  have ho : qm_ok g 2 n a := qm_okv_ref (by omega) (qm_hd (qm_tl hS))
  exact va_bald hx hb hK (qm_P1 (hH.2.2.1 2 n a ho)) 0 1 rfl (qm_tys_at g 2 (by omega) (by omega)) hin hdg (kk (qm_ca trivial (qm_tl (qm_tl hS))) ls H locs hL hH hl)
theorem qm_zald (A : qm_At p s m args c cc g own Ts) {n a : Nat} {j : Int32} (hin : vp_in j n) (hdg : decode cc pc = .ok (.baload, 1)) (kk : qm_W p l e R s m args below meth c Q g nL (pc + 1) L (qm_i (h.1 a j.toNatClampNeg) :: T) h) : qm_W p l e R s m args below meth c Q g nL pc L (qm_i j :: qm_r 3 n a :: T) h := by
  intro hS ls H locs hL hH hl
  obtain ⟨hx, hb, hown, hts, hK, hG, -⟩ := A
  have ho : qm_ok g 3 n a := qm_okv_ref (by omega) (qm_hd (qm_tl hS))
  exact va_zald hx hb hK (qm_P1 (hH.2.2.1 3 n a ho)) 0 2 rfl (qm_tys_at g 3 (by omega) (by omega)) hin hdg (kk (qm_ca trivial (qm_tl (qm_tl hS))) ls H locs hL hH hl)
theorem qm_lald (A : qm_At p s m args c cc g own Ts) {n a : Nat} {j : Int32} (hin : vp_in j n) (hdg : decode cc pc = .ok (.laload, 1)) (kk : qm_W p l e R s m args below meth c Q g nL (pc + 1) L (qm_l (h.2 a j.toNatClampNeg) :: T) h) : qm_W p l e R s m args below meth c Q g nL pc L (qm_i j :: qm_r 4 n a :: T) h := by
  intro hS ls H locs hL hH hl
  obtain ⟨hx, hb, hown, hts, hK, hG, -⟩ := A
  have ho : qm_ok g 4 n a := qm_okv_ref (by omega) (qm_hd (qm_tl hS))
  exact va_lald hx hb hK (qm_P1 (hH.2.2.1 4 n a ho)) 0 3 rfl (qm_tys_at g 4 (by omega) (by omega)) hin hdg (kk (qm_ca trivial (qm_tl (qm_tl hS))) ls H locs hL hH hl)
theorem qm_aald (A : qm_At p s m args c cc g own Ts) {so n a : Nat} {j : Int32} (h5 : 5 ≤ so) (h9 : so ≤ 9) (hin : vp_in j n) (hdg : decode cc pc = .ok (.aaload, 1)) (kk : qm_W p l e R s m args below meth c Q g nL (pc + 1) L (.inr (.inr (qm_elv h so a j.toNatClampNeg)) :: T) h) : qm_W p l e R s m args below meth c Q g nL pc L (qm_i j :: qm_r so n a :: T) h := by
  intro hS ls H locs hL hH hl
  obtain ⟨hx, hb, hown, hts, hK, hG, -⟩ := A
  have ho : qm_ok g so n a := qm_okv_ref h9 (qm_hd (qm_tl hS))
  have hlt : j.toNatClampNeg < n := Nat.not_le.mp fun q => hin (Or.inr q)
  have hokv : qm_okv g (.inr (.inr (qm_elv h so a j.toNatClampNeg))) := by
    unfold qm_elv
    split
    · trivial
    · rename_i hne
      refine qm_okv_of (by omega) ?_
      by_cases e8 : so = 8
      · subst e8
        exact hH.2.2.2 n a _ ho hlt (fun q => hne ⟨rfl, q⟩)
      · exact hG.2.2.2.1 so n a _ ho h5 e8 hlt
  have hk := kk (qm_ca hokv (qm_tl (qm_tl hS))) ls H locs hL hH hl
  have hv : qm_tr g (.inr (.inr (qm_elv h so a j.toNatClampNeg))) = va_rf ((qm_elv h so a j.toNatClampNeg).map fun r => qm_ad g r.2.2) := by
    unfold qm_elv
    split <;> rfl
  show W p l e R s m args below meth c H locs 0 0 Q (F0 m pc ls (.int j :: qm_tr g (qm_r so n a) :: T.map (qm_tr g)))
  rw [qm_tr_ref h9]
  rw [List.map_cons, hv] at hk
  have hP := qm_P1 (hH.2.2.1 so n a ho)
  have ht := qm_tys_at g so (by omega) h9
  match so, h5, h9, hP, ht, hk with
  | 5, _, _, hP, ht, hk => exact va_aldq hx hb hK hP 0 _ rfl ht hin hdg hk
  | 6, _, _, hP, ht, hk => exact va_aldq hx hb hK hP 0 _ rfl ht hin hdg hk
  | 7, _, _, hP, ht, hk => exact va_aldq hx hb hK hP 0 _ rfl ht hin hdg hk
  | 8, _, _, hP, ht, hk => exact va_aldq hx hb hK hP 0 _ rfl ht hin hdg hk
  | 9, _, _, hP, ht, hk => exact va_aldq hx hb hK hP 0 _ rfl ht hin hdg hk
theorem qm_arr_up {cA : ClassId} {n a k : Nat} {x : Int32} : (vp_cell cA (n, .inl (h.1 a))).setSlot k (.int x) = vp_cell cA (n, .inl ((qm_seti h a k x).1 a)) := by
  rw [vp_cell_i, vp_cell_i, arrV_store]
  congr 1
  funext q
  show updV _ k (.int x) q = .int (qm_up h.1 a k x a q)
  unfold updV qm_up
  by_cases hq : q = k
  · simp [hq]
  · simp [hq]
theorem qm_arr_upl {cA : ClassId} {n a k : Nat} {x : Int64} : (vp_cell cA (n, .inr (.inl (h.2 a)))).setSlot k (.long x) = vp_cell cA (n, .inr (.inl ((qm_setl h a k x).2 a))) := by
  rw [vp_cell_l, vp_cell_l, arrV_store]
  congr 1
  funext q
  show updV _ k (.long x) q = .long (qm_up h.2 a k x a q)
  unfold updV qm_up
  by_cases hq : q = k
  · simp [hq]
  · simp [hq]
theorem qm_iast (A : qm_At p s m args c cc g own Ts) {n a : Nat} {j x : Int32} (hin : vp_in j n) (hdg : decode cc pc = .ok (.iastore, 1)) (kk : qm_W p l e R s m args below meth c Q g nL (pc + 1) L T (qm_seti h a j.toNatClampNeg x)) : qm_W p l e R s m args below meth c Q g nL pc L (qm_i x :: qm_i j :: qm_r 1 n a :: T) h := by
  intro hS ls H locs hL hH hl
  obtain ⟨hx, hb, hown, hts, hK, hG, -⟩ := A
  have ho : qm_ok g 1 n a := qm_okv_ref (by omega) (qm_hd (qm_tl (qm_tl hS)))
  have hc : H[qm_ad g a]? = some (vp_cell (qm_dA g 1) (n, .inl (h.1 a))) := hH.2.2.1 1 n a ho
  refine W.iast hx hb hc ((hK.2 0 _ (qm_tys_at g 1 (by omega) (by omega))).1 n (fun j => .int (h.1 a j))) (fun q => by cases q) (by show ¬ (j < 0 ∨ (arrV _ _ _).slots.size ≤ _); rw [arrV_size]; exact hin) rfl rfl hdg fun H1 e1 z oq => ?_
  rw [qm_arr_up] at e1
  exact kk (qm_tl (qm_tl (qm_tl hS))) ls H1 _ hL (hH.seti hG ho (by omega) z oq e1) (qm_put_loc hG ho rfl hl)
theorem qm_bast (A : qm_At p s m args c cc g own Ts) {n a : Nat} {j x : Int32} (hin : vp_in j n) (hdg : decode cc pc = .ok (.bastore, 1)) (kk : qm_W p l e R s m args below meth c Q g nL (pc + 1) L T (qm_seti h a j.toNatClampNeg (vp_nar .byte x))) : qm_W p l e R s m args below meth c Q g nL pc L (qm_i x :: qm_i j :: qm_r 2 n a :: T) h := by
  intro hS ls H locs hL hH hl
  obtain ⟨hx, hb, hown, hts, hK, hG, -⟩ := A
  have ho : qm_ok g 2 n a := qm_okv_ref (by omega) (qm_hd (qm_tl (qm_tl hS)))
  have hc : H[qm_ad g a]? = some (vp_cell (qm_dA g 2) (n, .inl (h.1 a))) := hH.2.2.1 2 n a ho
  refine W.bast hx hb hc ((hK.2 1 _ (qm_tys_at g 2 (by omega) (by omega))).1 n (fun j => .int (h.1 a j))) (fun q => by cases q) (by show ¬ (j < 0 ∨ (arrV _ _ _).slots.size ≤ _); rw [arrV_size]; exact hin) rfl rfl hdg fun H1 e1 z oq => ?_
  replace e1 : H1[qm_ad g a]? = some ((vp_cell (qm_dA g 2) (n, .inl (h.1 a))).setSlot j.toNatClampNeg (.int (vp_nar .byte x))) := e1
  rw [qm_arr_up] at e1
  exact kk (qm_tl (qm_tl (qm_tl hS))) ls H1 _ hL (hH.seti hG ho (by omega) z oq e1) (qm_put_loc hG ho rfl hl)
theorem qm_zast (A : qm_At p s m args c cc g own Ts) {n a : Nat} {j x : Int32} (hin : vp_in j n) (hdg : decode cc pc = .ok (.bastore, 1)) (kk : qm_W p l e R s m args below meth c Q g nL (pc + 1) L T (qm_seti h a j.toNatClampNeg (vp_nar .boolean x))) : qm_W p l e R s m args below meth c Q g nL pc L (qm_i x :: qm_i j :: qm_r 3 n a :: T) h := by
  intro hS ls H locs hL hH hl
  obtain ⟨hx, hb, hown, hts, hK, hG, -⟩ := A
  have ho : qm_ok g 3 n a := qm_okv_ref (by omega) (qm_hd (qm_tl (qm_tl hS)))
  have hc : H[qm_ad g a]? = some (vp_cell (qm_dA g 3) (n, .inl (h.1 a))) := hH.2.2.1 3 n a ho
  refine W.zast hx hb hc ((hK.2 2 _ (qm_tys_at g 3 (by omega) (by omega))).1 n (fun j => .int (h.1 a j))) (fun q => by cases q) (by show ¬ (j < 0 ∨ (arrV _ _ _).slots.size ≤ _); rw [arrV_size]; exact hin) rfl rfl hdg fun H1 e1 z oq => ?_
  replace e1 : H1[qm_ad g a]? = some ((vp_cell (qm_dA g 3) (n, .inl (h.1 a))).setSlot j.toNatClampNeg (.int (vp_nar .boolean x))) := e1
  rw [qm_arr_up] at e1
  exact kk (qm_tl (qm_tl (qm_tl hS))) ls H1 _ hL (hH.seti hG ho (by omega) z oq e1) (qm_put_loc hG ho rfl hl)
theorem qm_last (A : qm_At p s m args c cc g own Ts) {n a : Nat} {j : Int32} {x : Int64} (hin : vp_in j n) (hdg : decode cc pc = .ok (.lastore, 1)) (kk : qm_W p l e R s m args below meth c Q g nL (pc + 1) L T (qm_setl h a j.toNatClampNeg x)) : qm_W p l e R s m args below meth c Q g nL pc L (qm_l x :: qm_i j :: qm_r 4 n a :: T) h := by
  intro hS ls H locs hL hH hl
  obtain ⟨hx, hb, hown, hts, hK, hG, -⟩ := A
  have ho : qm_ok g 4 n a := qm_okv_ref (by omega) (qm_hd (qm_tl (qm_tl hS)))
  have hc : H[qm_ad g a]? = some (vp_cell (qm_dA g 4) (n, .inr (.inl (h.2 a)))) := hH.2.2.1 4 n a ho
  refine W.last hx hb hc ((hK.2 3 _ (qm_tys_at g 4 (by omega) (by omega))).1 n (fun j => .long (h.2 a j))) (fun q => by cases q) (by show ¬ (j < 0 ∨ (arrV _ _ _).slots.size ≤ _); rw [arrV_size]; exact hin) rfl rfl hdg fun H1 e1 z oq => ?_
  rw [qm_arr_upl] at e1
  exact kk (qm_tl (qm_tl (qm_tl hS))) ls H1 _ hL (hH.setl hG ho z oq e1) (qm_put_loc hG ho rfl hl)
end QH
