/-! CONSTRUCTORS: worlds with exact sizes. th: the object that is being made; H0: the heap at the entry. -/
def qz_At (p : Program) (s : State) (m : MethodId) (args : Array Value) (c : Code) (cc : ByteArray) (D : va_G) (tys : List (ClassId × FieldType)) (own : String) (Ts : List Jvm.Cond) : Prop := p.tables.exec = Jvm.exec ∧ c.code = cc ∧ s.vm.findClass own = some m.cls ∧ (∀ w ∈ Ts, w.before args s = true) ∧ va_K D vwCl tys s ∧ ∀ cl, cl < 13 → ∀ w ∈ u_ws (qm_R cl) (qm_T cl) (qm_nf cl), w ∈ Ts
def qz_H (D : va_G) (H0 : Heap) (th : Nat) (ws : va_W) (H : Heap) (k : Nat) (locs : List Loc) : Prop := H.size = H0.size + k ∧ va_P D vwCl ws H ∧ va_D (fun _ => True) ws ∧ (∀ q : Nat, q < H0.size → q ≠ th → H[q]? = H0[q]?) ∧ ∀ x ∈ locs, x.base = th ∨ H0.size ≤ x.base
section QZC
variable {p : Program} {l : Launch} {e : Env} {R : Room} {s : State} {m : MethodId} {args : Array Value} {below : List Frame} {meth : Method} {c : Code} {Q : State → Prop} {H : Heap} {locs : List Loc} {cells slots : Nat} {cc : ByteArray} {own : String} {Ts : List Jvm.Cond} {D : va_G} {tys : List (ClassId × FieldType)} {ws : va_W} {th k pc : Nat} {ls : Array Slot} {rest : List Value}
theorem qz_push {H1 : Heap} {x : va_E} (hh : qz_H D s.heap th ws H k locs) (hz : H1.size = H.size + 1) (ho : ∀ q, q < H.size → H1[q]? = H[q]?) (hc : va_at D vwCl (s.heap.size + k, x) H1) : qz_H D s.heap th (ws ++ [(s.heap.size + k, x)]) H1 (k + 1) locs := by
  obtain ⟨h1, h2, h3, h4, h5⟩ := hh
  refine ⟨by rw [hz, h1]; omega, (h2.kept (fun j q hq => ho q.1 (h2 j q hq).lt)).app (qm_P1 hc), h3.push h2 h1.symm trivial, fun q hq hne => ?_, h5⟩
  rw [ho q (by omega)]
  exact h4 q hq hne
theorem qz_new (A : qz_At p s m args c cc D tys own Ts) {ad : Nat} (had : s.heap.size + k = ad) {idx ci : Nat} {fs : List Value} (hci : ci < 13) (hcl : Jvm.Cond.classLink own idx (qm_R ci) ∈ Ts) (hinst : Jvm.Cond.instantiable (qm_R ci) (qm_nf ci) ∈ Ts) (hini : Jvm.Cond.initialized (qm_R ci) ∈ Ts) (hfs : ∀ j, j < qm_nf ci → defaultValue (qm_ty ci j) = vp_V fs j) (hh : qz_H D s.heap th ws H k locs) (hcells : cells + 1 ≤ R.cells) (hslots : slots + qm_nf ci ≤ R.slots) (hdg : decode cc pc = .ok (.new idx, 3))
    (kk : ∀ H1 : Heap, qz_H D s.heap th (ws ++ [(ad, .inr (ci, fs))]) H1 (k + 1) locs → W p l e R s m args below meth c H1 locs (cells + 1) (slots + qm_nf ci) Q (F0 m (pc + 3) ls (.ref (ad) :: rest))) : W p l e R s m args below meth c H locs cells slots Q (F0 m pc ls rest) := by
  subst had
  obtain ⟨hx, hb, hown, hts, hK, hin⟩ := A
  have hKn := hK.1 ci _ (qm_cl ci hci)
  refine W.newcK hx hb hown (hts _ hcl) (hts _ hinst) (hts _ hini) rfl hdg hcells hslots hKn.2.1 (h := s.heap.size + k) hh.1 fun H1 kC hkC e1 z1 o1 => ?_
  refine kk H1 (qz_push hh (by rw [z1, hh.1]) (fun q hq => o1 q (by rw [← hh.1]; exact hq)) ⟨_, qm_cl ci hci, ?_⟩)
  exact (u_born (qm_ty ci) hts (hin ci hci) hKn hkC e1 (qm_tyok ci hci)).to hfs
theorem qz_newa (A : qz_At p s m args c cc D tys own Ts) {ad : Nat} (had : s.heap.size + k = ad) {atype : ArrayType} {ty : FieldType} (hty : newarray.typeOf atype = ty) (harr : Jvm.Cond.arrayClass ty ∈ Ts) {t0 : Nat} {cA : ClassId} (ht : tys[t0]? = some (cA, ty)) (hra : va_RA s cA ty → s.vm.findClass ("[" ++ ty.toString) = some cA) {n : Int32} {N : Nat} {a0 : vp_A} (ha : vp_cell cA a0 = arrV cA N (fun _ => defaultValue ty)) (hn : ¬ n < 0) (hN : n.toNatClampNeg = N) (hbytes : N * componentBytes ty ≤ 536870912) (hh : qz_H D s.heap th ws H k locs) (hcells : cells + 1 ≤ R.cells) (hslots : slots + N ≤ R.slots) (hdg : decode cc pc = .ok (.newarray atype, 2))
    (kk : ∀ H1 : Heap, qz_H D s.heap th (ws ++ [(ad, .inl (cA, a0))]) H1 (k + 1) locs → W p l e R s m args below meth c H1 locs (cells + 1) (slots + N) Q (F0 m (pc + 2) ls (.ref (ad) :: rest))) : W p l e R s m args below meth c H locs cells slots Q (F0 m pc ls (.int n :: rest)) := by
  subst had
  subst hty
  obtain ⟨hx, hb, hown, hts, hK, hin⟩ := A
  refine va_newaK hx hb (hts _ harr) rfl hdg rfl hn hN hbytes hcells hslots (h := s.heap.size + k) hh.1 fun H1 cA' e1 z1 o1 hAr hNm => ?_
  have ec : cA' = cA := Option.some.inj (hNm.symm.trans (hra (hK.2 t0 _ ht).2))
  subst ec
  refine kk H1 (qz_push hh (by rw [z1, hh.1]) (fun q hq => o1 q (by rw [← hh.1]; exact hq)) ?_)
  show H1[_]? = some (vp_cell cA' a0)
  rw [ha]
  exact e1
theorem qz_anew (A : qz_At p s m args c cc D tys own Ts) {ad : Nat} (had : s.heap.size + k = ad) {idx : Nat} {C : String} (hcl : Jvm.Cond.classLink own idx C ∈ Ts) (hao : va_AO C s) {t0 : Nat} {cA : ClassId} (ht : tys[t0]? = some (cA, .object C)) {n : Int32} {N : Nat} (hn : ¬ n < 0) (hN : n.toNatClampNeg = N) (hbytes : N * 4 ≤ 536870912) (hh : qz_H D s.heap th ws H k locs) (hcells : cells + 1 ≤ R.cells) (hslots : slots + N ≤ R.slots) (hdg : decode cc pc = .ok (.anewarray idx, 3))
    (kk : ∀ H1 : Heap, qz_H D s.heap th (ws ++ [(ad, .inl (cA, N, .inr (.inr (.inr (.inr fun _ => none)))))]) H1 (k + 1) locs → W p l e R s m args below meth c H1 locs (cells + 1) (slots + N) Q (F0 m (pc + 3) ls (.ref (ad) :: rest))) : W p l e R s m args below meth c H locs cells slots Q (F0 m pc ls (.int n :: rest)) := by
  subst had
  subst hN
  obtain ⟨hx, hb, hown, hts, hK, hin⟩ := A
  refine W.anew hx hb hown (hts _ hcl) hao.use rfl hdg rfl hn hbytes hcells hslots fun cA' kA comp h1 h2 h3 h4 => ?_
  obtain ⟨kA0, comp0, g1, g2, g3, g4⟩ := (hK.2 t0 _ ht).2
  have ec : cA' = cA := Option.some.inj (h1.symm.trans g4)
  subst ec
  have e1 := hh.1
  rw [← e1] at kk
  refine kk _ ?_
  rw [e1]
  refine qz_push hh (by simp) (fun q hq => by rw [Array.getElem?_push, if_neg (Nat.ne_of_lt hq)]) ?_
  show (Array.push H _)[s.heap.size + k]? = some (vp_cell cA' (n.toNatClampNeg, .inr (.inr (.inr (.inr fun _ => none)))))
  rw [← e1, vp_cell_q]
  simp only [Array.getElem?_push_size]
  congr 1
  unfold arrV
  congr 1
  apply Array.ext
  · simp
  · intro i h1 h2
    simp [va_rf]
theorem qz_set {H1 : Heap} {i a sl : Nat} {x0 x : va_E} (hh : qz_H D s.heap th ws H k locs) (he : ws[i]? = some (a, x0)) (hth : a = th ∨ s.heap.size ≤ a) (hz : H1.size = H.size) (oq : ∀ q, q ≠ a → H1[q]? = H[q]?) (hc : va_at D vwCl (a, x) H1) : qz_H D s.heap th (ws.set i (a, x)) H1 k (locs ++ [⟨a, sl⟩]) := by
  obtain ⟨h1, h2, h3, h4, h5⟩ := hh
  refine ⟨by rw [hz, h1], h2.set h3 he hc oq, h3.set he, fun q hq hne => ?_, fun y hy => ?_⟩
  · rw [oq q (fun e => by rcases hth with e2 | e2 <;> omega)]
    exact h4 q hq hne
  · rcases List.mem_append.mp hy with hy | hy
    · exact h5 y hy
    · rw [List.mem_singleton.mp hy]
      exact hth
theorem qz_put (A : qz_At p s m args c cc D tys own Ts) {idx ci j i a : Nat} {fs : List Value} {v : Value} (hci : ci < 13) (hj : j < qm_nf ci) (hlen : fs.length = qm_nf ci) (hlink : Jvm.Cond.fieldLink own idx (qm_T ci j).1 (qm_T ci j).2.1 (qm_T ci j).2.2.1 ∈ Ts) (hfin : (qm_T ci j).2.2.2 = false) (hn : narrow (qm_ty ci j) v = v) (hfit : fits (qm_ty ci j) v = true) (hh : qz_H D s.heap th ws H k locs) (he : ws[i]? = some (a, .inr (ci, fs))) (hth : a = th ∨ s.heap.size ≤ a) (hdg : decode cc pc = .ok (.putfield idx, 3))
    (kk : ∀ (H1 : Heap) (locs1 : List Loc), qz_H D s.heap th (ws.set i (a, .inr (ci, fs.set j v))) H1 k locs1 → W p l e R s m args below meth c H1 locs1 cells slots Q (F0 m (pc + 3) ls rest)) : W p l e R s m args below meth c H locs cells slots Q (F0 m pc ls (v :: .ref a :: rest)) := by
  obtain ⟨hx, hb, hown, hts, hK, hin⟩ := A
  have hcl := qm_cl ci hci
  have hap := va_apart (own := own) hts (hin ci hci) (qm_ty ci) (qm_tyok ci hci) (qm_nm ci hci) hK hcl
  obtain ⟨r, h1, cell, q1, q2, q3, q4⟩ := hh.2.1 i _ he
  have hr : r = (qm_R ci, qm_T ci, qm_nf ci) := Option.some.inj (h1.symm.trans hcl)
  subst hr
  obtain ⟨hS, hfc, kC, hkC, hkind⟩ := hK.1 ci _ hcl
  obtain ⟨cf, kf, fi, f, hi, hsl⟩ := hS j hj
  have hlay := hts _ (hin ci hci _ (u_in_lay hj))
  unfold u_lay at hlay
  rw [if_neg (by rw [hfin]; decide)] at hlay
  have hst := (u_facts hfc hkC (u_lays hts (hin ci hci) hj) hi).1
  have h6 := u_store hfc hkC hkind hlay hi (qm_tyok ci hci j hj) hn hfit
  refine W.putK hx hb (f := f) ⟨hown, hts _ hlink, ⟨_, _, _, hi⟩, hst⟩ (by rw [q2]; exact h6) q1 q3 (by rw [hsl]; exact k2_hasslot (q4 j hj)) rfl rfl hdg fun H' e1 e2 e3 => ?_
  rw [hsl] at e1 ⊢
  exact kk H' _ (qz_set hh he hth e2 e3 ⟨_, hcl, t_OB.to (V := updV (vp_V fs) j v) ⟨_, e1, q2, q3, t_set q4 hap hj v⟩ (fun z _ => vp_updV_set (by rw [hlen]; exact hj) v z)⟩)
theorem qz_putF (A : qz_At p s m args c cc D tys own Ts) (hin2 : meth.name = "<init>") {idx ci j i a : Nat} {fs : List Value} {v : Value} (hci : ci < 13) (hj : j < qm_nf ci) (hlen : fs.length = qm_nf ci) (hlink : Jvm.Cond.fieldLink own idx (qm_T ci j).1 (qm_T ci j).2.1 (qm_T ci j).2.2.1 ∈ Ts) (hfin : (qm_T ci j).2.2.2 = true) (hdecl : (qm_T ci j).1 = own) (hn : narrow (qm_ty ci j) v = v) (hfit : fits (qm_ty ci j) v = true) (hh : qz_H D s.heap th ws H k locs) (he : ws[i]? = some (a, .inr (ci, fs))) (hth : a = th ∨ s.heap.size ≤ a) (hdg : decode cc pc = .ok (.putfield idx, 3))
    (kk : ∀ (H1 : Heap) (locs1 : List Loc), qz_H D s.heap th (ws.set i (a, .inr (ci, fs.set j v))) H1 k locs1 → W p l e R s m args below meth c H1 locs1 cells slots Q (F0 m (pc + 3) ls rest)) : W p l e R s m args below meth c H locs cells slots Q (F0 m pc ls (v :: .ref a :: rest)) := by
  obtain ⟨hx, hb, hown, hts, hK, hin⟩ := A
  have hcl := qm_cl ci hci
  have hap := va_apart (own := own) hts (hin ci hci) (qm_ty ci) (qm_tyok ci hci) (qm_nm ci hci) hK hcl
  obtain ⟨r, h1, cell, q1, q2, q3, q4⟩ := hh.2.1 i _ he
  have hr : r = (qm_R ci, qm_T ci, qm_nf ci) := Option.some.inj (h1.symm.trans hcl)
  subst hr
  obtain ⟨hS, hfc, kC, hkC, hkind⟩ := hK.1 ci _ hcl
  obtain ⟨cf, kf, fi, f, hi, hsl⟩ := hS j hj
  have hlay := hts _ (hin ci hci _ (u_in_lay hj))
  unfold u_lay at hlay
  rw [if_pos hfin] at hlay
  have hst := (u_facts hfc hkC (u_lays hts (hin ci hci) hj) hi).1
  have hcf : m.cls = cf := by
    obtain ⟨_, _, c', _, _, _, -, -, hf', -, -, -, hown2, -⟩ := Cond.laysFinal_spec hlay
    have e1 : c' = cf := by have := hi.symm.trans hf'; simp at this; exact this.1.symm
    rw [hdecl] at hown2
    rw [← e1]; exact Option.some.inj (hown.symm.trans hown2)
  have h6 := u_fits hfc hkC hkind (Or.inr hlay) hi (qm_tyok ci hci j hj) hn hfit
  refine W.putFinK hx hb hown (hts _ hlink) hi hst hcf hin2 (by rw [q2]; exact h6) q1 q3 (by rw [hsl]; exact k2_hasslot (q4 j hj)) rfl rfl hdg fun H' e1 e2 e3 => ?_
  rw [hsl] at e1 ⊢
  exact kk H' _ (qz_set hh he hth e2 e3 ⟨_, hcl, t_OB.to (V := updV (vp_V fs) j v) ⟨_, e1, q2, q3, t_set q4 hap hj v⟩ (fun z _ => vp_updV_set (by rw [hlen]; exact hj) v z)⟩)
/-- behind a constructor's call: the cell q and what is new are its own, the rest is as it was -/
theorem qz_join {H1 : Heap} {q i n : Nat} {x : va_E} {w1 : va_W} {L : List Loc} (hh : qz_H D s.heap th ws H k locs) (he : ws[i]? = some (q, x)) (hq : q = th ∨ s.heap.size ≤ q) (h1 : qz_H D H q w1 H1 n L) (hw : ∀ (j : Nat) (y : Nat × va_E), w1[j]? = some y → y.1 = q ∨ H.size ≤ y.1) : qz_H D s.heap th (ws.eraseIdx i ++ w1) H1 (k + n) (locs ++ L) := by
  obtain ⟨a1, a2, a3, a4, a5⟩ := hh
  obtain ⟨b1, b2, b3, b4, b5⟩ := h1
  have hne : ∀ (j : Nat) (y : Nat × va_E), (ws.eraseIdx i)[j]? = some y → y.1 ≠ q ∧ y.1 < H.size ∧ ∃ j', j' ≠ i ∧ ws[j']? = some y ∧ (j' = j ∨ j' = j + 1) := by
    intro j y hy
    rw [List.getElem?_eraseIdx] at hy
    by_cases hj : j < i
    · rw [if_pos hj] at hy
      exact ⟨fun e => by have := a3.1 j i y (q, x) hy he e; omega, (a2 j y hy).lt, j, by omega, hy, Or.inl rfl⟩
    · rw [if_neg hj] at hy
      exact ⟨fun e => by have := a3.1 (j + 1) i y (q, x) hy he e; omega, (a2 (j + 1) y hy).lt, j + 1, by omega, hy, Or.inr rfl⟩
  refine ⟨by rw [b1, a1]; omega, ?_, ?_, fun z hz hzt => ?_, fun y hy => ?_⟩
  · refine va_P.app (fun j y hy => ?_) b2
    obtain ⟨c1, c2, j', -, c3, -⟩ := hne j y hy
    exact (a2 j' y c3).kept (b4 y.1 c2 c1)
  · refine va_D.app ⟨fun j1 j2 y1 y2 hy1 hy2 e => ?_, fun _ _ _ => trivial⟩ b3 (fun j1 j2 y1 y2 hy1 hy2 e => ?_)
    · rw [List.getElem?_eraseIdx] at hy1 hy2
      by_cases g1 : j1 < i <;> by_cases g2 : j2 < i
      · rw [if_pos g1] at hy1; rw [if_pos g2] at hy2; exact a3.1 _ _ _ _ hy1 hy2 e
      · rw [if_pos g1] at hy1; rw [if_neg g2] at hy2; have := a3.1 _ _ _ _ hy1 hy2 e; omega
      · rw [if_neg g1] at hy1; rw [if_pos g2] at hy2; have := a3.1 _ _ _ _ hy1 hy2 e; omega
      · rw [if_neg g1] at hy1; rw [if_neg g2] at hy2; have := a3.1 _ _ _ _ hy1 hy2 e; omega
    · obtain ⟨c1, c2, -⟩ := hne j1 y1 hy1
      rcases hw j2 y2 hy2 with g1 | g1
      · exact c1 (e.trans g1)
      · omega
  · rw [b4 z (by omega) (fun e2 => by rcases hq with g1 | g1 <;> omega)]
    exact a4 z hz hzt
  · rcases List.mem_append.mp hy with hy | hy
    · exact a5 y hy
    · rcases b5 y hy with g1 | g1
      · rw [g1]; exact hq
      · exact Or.inr (by omega)
theorem qz_aast (A : qz_At p s m args c cc D tys own Ts) {t0 i qk ci a v N : Nat} {cA : ClassId} {r : vw_C} {vs : List Value} {f : Nat → Option Nat} {j : Int32} (hh : qz_H D s.heap th ws H k locs) (ha : ws[i]? = some (a, .inl (cA, N, .inr (.inr (.inr (.inr f)))))) (ht : tys[t0]? = some (cA, .object r.1)) (hv : ws[qk]? = some (v, .inr (ci, vs))) (hc : vwCl[ci]? = some r) (hin : vp_in j N) (hth : a = th ∨ s.heap.size ≤ a) (hdg : decode cc pc = .ok (.aastore, 1))
    (kk : ∀ (H1 : Heap) (locs1 : List Loc), qz_H D s.heap th (ws.set i (a, .inl (cA, N, .inr (.inr (.inr (.inr (va_up f j.toNatClampNeg (some v)))))))) H1 k locs1 → W p l e R s m args below meth c H1 locs1 cells slots Q (F0 m (pc + 1) ls rest)) : W p l e R s m args below meth c H locs cells slots Q (F0 m pc ls (.ref v :: .int j :: .ref a :: rest)) := by
  obtain ⟨hx, hb, hown, hts, hK, hin1⟩ := A
  have hlt : j.toNatClampNeg < N := Nat.not_le.mp fun q => hin (Or.inr q)
  have h0 : ¬ j < 0 := fun q => hin (Or.inl q)
  obtain ⟨r', hr', cellV, g1, g2, g3, -⟩ := hh.2.1 qk _ hv
  have hcls := (hK.1 ci r hc).2
  obtain ⟨kA, comp, k1, k2, k3, -⟩ := (hK.2 t0 _ ht).2
  have hcomp : comp = D.1 ci := Option.some.inj (k3.symm.trans hcls.1)
  subst hcomp
  obtain ⟨kC, hkC, -⟩ := hcls.2
  refine W.aast hx hb (hh.2.1 i _ ha) (fun q h => by cases h) (fun h => by cases h) k1 k2 rfl hkC ⟨h0, by show _ < (arrV _ _ _).slots.size; rw [arrV_size]; exact hlt⟩ g1 (fun q h => by rw [g3] at h; cases h) (by rw [g2]; exact hkC) (by rw [g2]; exact va_assign hcls) rfl rfl hdg fun H1 e1 z oq => ?_
  refine kk H1 _ (qz_set hh ha hth z oq ?_)
  show H1[a]? = some (vp_cell _ _)
  rw [e1, vp_cell_q, vp_cell_q, arrV_store]
  congr 2
  funext q
  by_cases hq : q = j.toNatClampNeg
  · subst hq
    simp [updV, va_up, va_rf]
  · simp [updV, va_up, hq]
theorem qz_iast (A : qz_At p s m args c cc D tys own Ts) {t0 i a N : Nat} {cA : ClassId} {f : Nat → Int32} {j x : Int32} (hh : qz_H D s.heap th ws H k locs) (ha : ws[i]? = some (a, .inl (cA, N, .inl f))) (ht : tys[t0]? = some (cA, .int)) (hin : vp_in j N) (hth : a = th ∨ s.heap.size ≤ a) (hdg : decode cc pc = .ok (.iastore, 1))
    (kk : ∀ (H1 : Heap) (locs1 : List Loc), qz_H D s.heap th (ws.set i (a, .inl (cA, N, .inl (upd f j.toNatClampNeg x)))) H1 k locs1 → W p l e R s m args below meth c H1 locs1 cells slots Q (F0 m (pc + 1) ls rest)) : W p l e R s m args below meth c H locs cells slots Q (F0 m pc ls (.int x :: .int j :: .ref a :: rest)) := by
  obtain ⟨hx, hb, hown, hts, hK, hin1⟩ := A
  refine W.iast hx hb (hh.2.1 i _ ha) ((hK.2 t0 _ ht).1 N (fun z => .int (f z))) (fun q => by cases q) (by show ¬ (j < 0 ∨ (arrV _ _ _).slots.size ≤ _); rw [arrV_size]; exact hin) rfl rfl hdg fun H1 e1 z oq => ?_
  refine kk H1 _ (qz_set hh ha hth z oq ?_)
  show H1[a]? = some (vp_cell _ _)
  rw [e1, vp_cell_i, vp_cell_i, arrV_store]
  congr 2
  funext q
  by_cases hq : q = j.toNatClampNeg
  · subst hq
    simp [updV, upd]
  · simp [updV, upd, hq]
end QZC
def qz_nest : List Jvm.Cond := [.methodLinkNest RX9 47 yX0_init "WillowLaw", .methodLinkNest RX9 48 yX10_init "WillowLaw", .methodLinkNest RX9 49 yX2_init "WillowLaw", .methodLinkNest RX9 50 yX1_init "WillowLaw", .methodLinkNest RX3 11 yX0_init "WillowLaw", .methodLinkNest RX3 20 yX10_init "WillowLaw", .methodLinkNest RX3 27 yX2_init "WillowLaw", .methodLinkNest RX3 34 yX1_init "WillowLaw", .methodLinkNest RX11 35 yX6_init "WillowLaw", .methodLinkNest RX6 11 yX0_init "WillowLaw", .methodLinkNest RX11 42 yX7_init "WillowLaw", .methodLinkNest RX11 49 yX4_init "WillowLaw", .methodLinkNest RX11 56 yX5_init "WillowLaw"]
/-- the links between nest mates, and the array classes over the claim's own -/
def qz_NK (U : State) : Prop := (∀ w ∈ qz_nest, va_Nw w U) ∧ ∀ C ∈ [RX0, RX1, RX2, RX9, RX10], va_AO C U
theorem qz_nest_is : ∀ w ∈ qz_nest, ∃ a i x h, w = Jvm.Cond.methodLinkNest a i x h := by
  intro w hw
  simp only [qz_nest, List.mem_cons, List.not_mem_nil, or_false] at hw
  rcases hw with rfl | rfl | rfl | rfl | rfl | rfl | rfl | rfl | rfl | rfl | rfl | rfl | rfl <;> exact ⟨_, _, _, _, rfl⟩
theorem qz_NK.warm {s U : State} (hW : s.WarmedH U.vm) (h : qz_NK s) : qz_NK U := by
  refine ⟨fun w hw => ?_, fun C hC => (h.2 C hC).moved hW.alike⟩
  have h1 := h.1 _ hw
  obtain ⟨a, i, x, ho, rfl⟩ := qz_nest_is w hw
  exact va_Nw.warmM hW h1
theorem qz_NK.same {u U : State} (hv : u.vm = U.vm) (h : qz_NK u) : qz_NK U := by
  have ha : u.vm.Alike U.vm := by rw [hv]; exact Vm.Alike.refl _
  refine ⟨fun w hw => ?_, fun C hC => (h.2 C hC).moved ha⟩
  have h1 := h.1 _ hw
  obtain ⟨a, i, x, ho, rfl⟩ := qz_nest_is w hw
  exact va_Nw.same rfl hv h1
def qz_def (ci : Nat) : List Value := (List.range (qm_nf ci)).map fun j => defaultValue (qm_ty ci j)
def qz_Pc (g : qm_G) (H0 : Heap) (th ci : Nat) (av : List Value) : Array Value → State → Prop := va_Pc av fun U => U.heap = H0 ∧ va_at (qm_D g) vwCl (th, .inr (ci, qz_def ci)) H0 ∧ va_K (qm_D g) vwCl (qm_tys g) U ∧ qz_NK U
def qz_Qc (g : qm_G) (H0 : Heap) (th : Nat) (ws : va_W) (k : Nat) : Array Value → State → Outcome → State → Prop := fun _ _ oc t => oc = .returned none ∧ qz_H (qm_D g) H0 th ws t.heap k []
def qz_fr (H0 : Heap) (th : Nat) : Addr → Prop := fun q => q = th ∨ H0.size ≤ q
theorem qz_Pc_blind (g : qm_G) (H0 : Heap) (th ci : Nat) (av : List Value) : FrameBlind (qz_Pc g H0 th ci av) := by
  intro a U fr mk q
  obtain ⟨q0, q1, q2, q3, q4⟩ := q
  exact ⟨q0, q1, q2, va_K.moved (u := U) (U := U.calling fr mk a) (Vm.Alike.refl U.vm) q3, qz_NK.same (u := U) (U := U.calling fr mk a) rfl q4⟩
theorem qz_H0 {D : va_G} {H : Heap} {th : Nat} {x : va_E} (h : va_at D vwCl (th, x) H) : qz_H D H th [(th, x)] H 0 [] := by
  refine ⟨rfl, qm_P1 h, ⟨fun i j y z hy hz _ => ?_, fun _ _ _ => trivial⟩, fun _ _ _ => rfl, fun _ q => by cases q⟩
  have a1 : i < 1 := (List.getElem?_eq_some_iff.mp hy).1
  have a2 : j < 1 := (List.getElem?_eq_some_iff.mp hz).1
  omega
section QZD
variable {p : Program} {l : Launch} {e : Env} {R : Room} {s : State} {m : MethodId} {args : Array Value} {below : List Frame} {meth : Method} {c : Code} {Q : State → Prop} {H : Heap} {locs : List Loc} {cells slots : Nat}
theorem qz_after {g : qm_G} {ws w1 : va_W} {th k q i n mc ms pc : Nat} {x : va_E} {ls : Array Slot} {st rest : List Value} {a : Array Value} (hh : qz_H (qm_D g) s.heap th ws H k locs) (he : ws[i]? = some (q, x)) (hq1 : H.size = q + 1) (hq : q = th ∨ s.heap.size ≤ q) (hw : ∀ y ∈ w1, q ≤ y.1) (hr : va_Run p l e R s m args below meth c H locs cells slots mc ms (F0 m pc ls st) rest (qz_Qc g H q w1 n a) (qz_fr H q))
    (kk : ∀ (H1 : Heap) (locs1 : List Loc), qz_H (qm_D g) s.heap th (ws.eraseIdx i ++ w1) H1 (k + n) locs1 → W p l e R s m args below meth c H1 locs1 (cells + mc) (slots + ms) Q (F0 m (pc + 3) ls rest)) : W p l e R s m args below meth c H locs cells slots Q (F0 m pc ls st) := by
  intro T hT X
  obtain ⟨v, st₀, t, T', L, h0, X', hL, e1, e2, ⟨hv, h1, h2, h3, h4, -⟩, st⟩ := hr T hT X
  have hv' : v = none := Outcome.returned.inj hv
  subst hv'
  obtain ⟨t2, a1, b1⟩ := kk T'.heap (locs ++ L) (qz_join hh he hq (L := L) (by rw [e1]; exact ⟨h1, h2, h3, h4, fun y hy => hL y hy⟩) (fun j y hy => by
    have := hw y (List.mem_of_getElem? hy)
    omega)) T' rfl X'
  exact ⟨t2, st t2 a1, b1⟩
end QZD
