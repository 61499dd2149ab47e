-- RX12 comes(III)Z
theorem jX12_comes : Jvm.Cond.code yX12_comes cX12_comes 6 (some .boolean) ∈ qm_all := List.mem_filter.mpr ⟨by decide +kernel, rfl⟩
theorem iX12_comes : Jvm.Cond.instanceMethod yX12_comes ∈ qm_all ∧ Jvm.Cond.selects yX12_comes.cls yX12_comes yX12_comes ∈ qm_all := ⟨List.mem_filter.mpr ⟨by decide +kernel, rfl⟩, List.mem_filter.mpr ⟨by decide +kernel, rfl⟩⟩
def wX12_comes : qm_C := fun vs h => match vs with
  | [.inr (.inr (some (0, 12, p0))), .inl p1, .inl p2, .inl p3] => (qX12_comes p0 p1 p2 p3 h).map qm_Gi
  | _ => none
def aX12_comes : List (Option (Instr × Nat)) := [some (.aload_n 0, 1), some (.iload_n 1, 1), some (.iload_n 2, 1), some (.invokevirtual 313, 3), none, none, some (.iconst (-1), 1), some (.if_icmp .eq 15, 3), none, none, some (.aload_n 0, 1), some (.getfield 53, 3), none, none, some (.iconst 0, 1), some (.dup2, 1), some (.iaload, 1), some (.iconst 1, 1), some (.iadd, 1), some (.iastore, 1), some (.iconst 1, 1), some (.ireturn, 1), some (.aload_n 0, 1), some (.iload_n 1, 1), some (.iload_n 2, 1), some (.iconst 0, 1), some (.invokevirtual 319, 3), none, none, some (.istore 4, 2), none, some (.iload 4, 2), none, some (.iconst (-1), 1), some (.if_icmp .eq 16, 3), none, none, some (.iload_n 3, 1), some (.aload_n 0, 1), some (.iload 4, 2), none, some (.iload_n 1, 1), some (.iload_n 2, 1), some (.iconst 0, 1), some (.invokevirtual 297, 3), none, none, some (.if_icmp .gt 15, 3), none, none, some (.aload_n 0, 1), some (.getfield 53, 3), none, none, some (.iconst 2, 1), some (.dup2, 1), some (.iaload, 1), some (.iconst 1, 1), some (.iadd, 1), some (.iastore, 1), some (.iconst 1, 1), some (.ireturn, 1), some (.iconst 0, 1), some (.istore 5, 2), none, some (.iload 5, 2), none, some (.iload_n 2, 1), some (.if_icmp .ge 40, 3), none, none, some (.aload_n 0, 1), some (.getfield 50, 3), none, none, some (.iload 4, 2), none, some (.aload_n 0, 1), some (.getfield 273, 3), none, none, some (.idiv, 1), some (.iload 5, 2), none, some (.iadd, 1), some (.dup2, 1), some (.iaload, 1), some (.iconst 1, 1), some (.iload_n 1, 1), some (.ishl, 1), some (.iconst 1, 1), some (.isub, 1), some (.iload 4, 2), none, some (.aload_n 0, 1), some (.getfield 273, 3), none, none, some (.irem, 1), some (.ishl, 1), some (.ior, 1), some (.iastore, 1), some (.iinc 5 1, 3), none, none, some (.goto (-40), 3), none, none, some (.aload_n 0, 1), some (.getfield 53, 3), none, none, some (.iconst 1, 1), some (.dup2, 1), some (.iaload, 1), some (.iconst 1, 1), some (.iadd, 1), some (.iastore, 1), some (.iconst 1, 1), some (.ireturn, 1)]
theorem aX12_comes_ok : qm_tabok cX12_comes aX12_comes = true := by decide +kernel
def mX12_comes : qm_M := ((some .boolean), (fun k => qm_lk k pfRX12), (fun k => qm_lk k pcRX12), (fun k => qm_lk k [(313, 0, 3, wX12_slipsBy), (319, 0, 4, wX12_weakest), (297, 0, 5, wX12_holdsAt)]), qm_tab aX12_comes)
set_option maxRecDepth 20000 in
set_option maxHeartbeats 2000000 in
theorem rX12_comes_65   : ∀ {fuel : Nat} {a0 : Nat} {x1 : Int32} {x2 : Int32} {x4 : Int32} {x5 : Int32} {xd3 : Int32} {h : qm_H} {r : Int32 × qm_H}, qX12_comes_65  fuel a0 x1 x2 x4 x5 h = some r → qm_Ret mX12_comes (65, [some (qm_r 0 12 a0), some (qm_i x1), some (qm_i x2), some (qm_i xd3), some (qm_i x4), some (qm_i x5)], [], h) (qm_Gi r) := by
  intro fuel
  induction fuel with
  | zero => intros; rename_i ho; cases ho
  | succ n ih =>
    intro a0 x1 x2 x4 x5 xd3 h r ho
    unfold qX12_comes_65 at ho
    refine qm_Ret.sts 2 (f' := (68, [some (qm_r 0 12 a0), some (qm_i x1), some (qm_i x2), some (qm_i xd3), some (qm_i x4), some (qm_i x5)], [qm_i x2, qm_i x5], h)) rfl ?_
    refine qm_Ret.ge (t := 108) (e := 71) rfl (fun hc => ?_) (fun hc => ?_)
    · rw [if_pos hc] at ho
      refine qm_Ret.sts 5 (f' := (81, [some (qm_r 0 12 a0), some (qm_i x1), some (qm_i x2), some (qm_i xd3), some (qm_i x4), some (qm_i x5)], [qm_i (h.1 a0 25), qm_i x4, qm_r 1 8 (a0 + 14)], h)) rfl ?_
      obtain ⟨hg, ho⟩ := qm_ifn ho
      refine qm_Ret.gn (f1 := (82, [some (qm_r 0 12 a0), some (qm_i x1), some (qm_i x2), some (qm_i xd3), some (qm_i x4), some (qm_i x5)], [qm_i (x4 / (h.1 a0 25)), qm_r 1 8 (a0 + 14)], h)) hg rfl ?_
      refine qm_Ret.sts 3 (f' := (86, [some (qm_r 0 12 a0), some (qm_i x1), some (qm_i x2), some (qm_i xd3), some (qm_i x4), some (qm_i x5)], [qm_i ((x4 / (h.1 a0 25)) + x5), qm_r 1 8 (a0 + 14), qm_i ((x4 / (h.1 a0 25)) + x5), qm_r 1 8 (a0 + 14)], h)) rfl ?_
      obtain ⟨hg, ho⟩ := qm_ifn ho
      refine qm_Ret.gn (f1 := (87, [some (qm_r 0 12 a0), some (qm_i x1), some (qm_i x2), some (qm_i xd3), some (qm_i x4), some (qm_i x5)], [qm_i (h.1 (a0 + 14) ((x4 / (h.1 a0 25)) + x5).toNatClampNeg), qm_i ((x4 / (h.1 a0 25)) + x5), qm_r 1 8 (a0 + 14)], h)) hg rfl ?_
      refine qm_Ret.sts 8 (f' := (98, [some (qm_r 0 12 a0), some (qm_i x1), some (qm_i x2), some (qm_i xd3), some (qm_i x4), some (qm_i x5)], [qm_i (h.1 a0 25), qm_i x4, qm_i ((qm_ishl (1 : Int32) x1) - (1 : Int32)), qm_i (h.1 (a0 + 14) ((x4 / (h.1 a0 25)) + x5).toNatClampNeg), qm_i ((x4 / (h.1 a0 25)) + x5), qm_r 1 8 (a0 + 14)], h)) rfl ?_
      obtain ⟨hg, ho⟩ := qm_ifn ho
      refine qm_Ret.gn (f1 := (99, [some (qm_r 0 12 a0), some (qm_i x1), some (qm_i x2), some (qm_i xd3), some (qm_i x4), some (qm_i x5)], [qm_i (qm_irem x4 (h.1 a0 25)), qm_i ((qm_ishl (1 : Int32) x1) - (1 : Int32)), qm_i (h.1 (a0 + 14) ((x4 / (h.1 a0 25)) + x5).toNatClampNeg), qm_i ((x4 / (h.1 a0 25)) + x5), qm_r 1 8 (a0 + 14)], h)) hg rfl ?_
      refine qm_Ret.sts 2 (f' := (101, [some (qm_r 0 12 a0), some (qm_i x1), some (qm_i x2), some (qm_i xd3), some (qm_i x4), some (qm_i x5)], [qm_i ((h.1 (a0 + 14) ((x4 / (h.1 a0 25)) + x5).toNatClampNeg) ||| (qm_ishl ((qm_ishl (1 : Int32) x1) - (1 : Int32)) (qm_irem x4 (h.1 a0 25)))), qm_i ((x4 / (h.1 a0 25)) + x5), qm_r 1 8 (a0 + 14)], h)) rfl ?_
      obtain ⟨hg, ho⟩ := qm_ifn ho
      refine qm_Ret.gn (f1 := (102, [some (qm_r 0 12 a0), some (qm_i x1), some (qm_i x2), some (qm_i xd3), some (qm_i x4), some (qm_i x5)], [], (qm_seti h (a0 + 14) ((x4 / (h.1 a0 25)) + x5).toNatClampNeg ((h.1 (a0 + 14) ((x4 / (h.1 a0 25)) + x5).toNatClampNeg) ||| (qm_ishl ((qm_ishl (1 : Int32) x1) - (1 : Int32)) (qm_irem x4 (h.1 a0 25))))))) hg rfl ?_
      refine qm_Ret.lets (F := fun h2 => (102, [some (qm_r 0 12 a0), some (qm_i x1), some (qm_i x2), some (qm_i xd3), some (qm_i x4), some (qm_i x5)], [], h2)) (G := qm_Gi) ho (fun h2 ho => ?_)
      refine qm_Ret.sts 2 (f' := (65, [some (qm_r 0 12 a0), some (qm_i x1), some (qm_i x2), some (qm_i xd3), some (qm_i x4), some (qm_i (x5 + (1 : Int32)))], [], h2)) rfl ?_
      exact ih ho
    · rw [if_neg hc] at ho
      refine qm_Ret.sts 8 (f' := (118, [some (qm_r 0 12 a0), some (qm_i x1), some (qm_i x2), some (qm_i xd3), some (qm_i x4), some (qm_i x5)], [], (qm_seti h (a0 + 15) (1 : Int32).toNatClampNeg ((h.1 (a0 + 15) (1 : Int32).toNatClampNeg) + (1 : Int32))))) rfl ?_
      refine qm_Ret.lets (F := fun h1 => (118, [some (qm_r 0 12 a0), some (qm_i x1), some (qm_i x2), some (qm_i xd3), some (qm_i x4), some (qm_i x5)], [], h1)) (G := qm_Gi) ho (fun h1 ho => ?_)
      cases ho
      exact qm_Ret.ret 2 rfl
set_option maxRecDepth 20000 in
set_option maxHeartbeats 2000000 in
theorem rX12_comes_0   {a0 : Nat} {x1 : Int32} {x2 : Int32} {x3 : Int32} {h : qm_H} {r : Int32 × qm_H} (ho : qX12_comes  a0 x1 x2 x3 h = some r) : qm_Ret mX12_comes (0, [some (qm_r 0 12 a0), some (qm_i x1), some (qm_i x2), some (qm_i x3), none, none], [], h) (qm_Gi r) := by
  unfold qX12_comes at ho
  refine qm_Ret.sts 3 (f' := (3, [some (qm_r 0 12 a0), some (qm_i x1), some (qm_i x2), some (qm_i x3), none, none], [qm_i x2, qm_i x1, qm_r 0 12 a0], h)) rfl ?_
  obtain ⟨r2, h1, hr, ho⟩ := qm_b2e ho
  refine qm_Ret.call (X := wX12_slipsBy [qm_r 0 12 a0, qm_i x1, qm_i x2] h) (o1 := (some (qm_i r2), h1)) (qm_mp (G := qm_Gi) hr) rfl ?_
  show qm_Ret _ (6, [some (qm_r 0 12 a0), some (qm_i x1), some (qm_i x2), some (qm_i x3), none, none], [qm_i r2], h1) _
  refine qm_Ret.sts 1 (f' := (7, [some (qm_r 0 12 a0), some (qm_i x1), some (qm_i x2), some (qm_i x3), none, none], [qm_i (-1 : Int32), qm_i r2], h1)) rfl ?_
  refine qm_Ret.eq (t := 22) (e := 10) rfl (fun hc => ?_) (fun hc => ?_)
  · rw [if_pos hc] at ho
    refine qm_Ret.sts 4 (f' := (26, [some (qm_r 0 12 a0), some (qm_i x1), some (qm_i x2), some (qm_i x3), none, none], [qm_i (0 : Int32), qm_i x2, qm_i x1, qm_r 0 12 a0], h1)) rfl ?_
    obtain ⟨r4, h3, hr, ho⟩ := qm_b2e ho
    refine qm_Ret.call (X := wX12_weakest [qm_r 0 12 a0, qm_i x1, qm_i x2, qm_i (0 : Int32)] h1) (o1 := (some (qm_i r4), h3)) (qm_mp (G := qm_Gi) hr) rfl ?_
    show qm_Ret _ (29, [some (qm_r 0 12 a0), some (qm_i x1), some (qm_i x2), some (qm_i x3), none, none], [qm_i r4], h3) _
    refine qm_Ret.sts 3 (f' := (34, [some (qm_r 0 12 a0), some (qm_i x1), some (qm_i x2), some (qm_i x3), some (qm_i r4), none], [qm_i (-1 : Int32), qm_i r4], h3)) rfl ?_
    refine qm_Ret.eq (t := 50) (e := 37) rfl (fun hc => ?_) (fun hc => ?_)
    · rw [if_pos hc] at ho
      refine qm_Ret.sts 8 (f' := (60, [some (qm_r 0 12 a0), some (qm_i x1), some (qm_i x2), some (qm_i x3), some (qm_i r4), none], [], (qm_seti h3 (a0 + 15) (2 : Int32).toNatClampNeg ((h3.1 (a0 + 15) (2 : Int32).toNatClampNeg) + (1 : Int32))))) rfl ?_
      refine qm_Ret.lets (F := fun h5 => (60, [some (qm_r 0 12 a0), some (qm_i x1), some (qm_i x2), some (qm_i x3), some (qm_i r4), none], [], h5)) (G := qm_Gi) ho (fun h5 ho => ?_)
      cases ho
      exact qm_Ret.ret 2 rfl
    · rw [if_neg hc] at ho
      refine qm_Ret.sts 6 (f' := (44, [some (qm_r 0 12 a0), some (qm_i x1), some (qm_i x2), some (qm_i x3), some (qm_i r4), none], [qm_i (0 : Int32), qm_i x2, qm_i x1, qm_i r4, qm_r 0 12 a0, qm_i x3], h3)) rfl ?_
      obtain ⟨r7, h6, hr, ho⟩ := qm_b2e ho
      refine qm_Ret.call (X := wX12_holdsAt [qm_r 0 12 a0, qm_i r4, qm_i x1, qm_i x2, qm_i (0 : Int32)] h3) (o1 := (some (qm_i r7), h6)) (qm_mp (G := qm_Gi) hr) rfl ?_
      show qm_Ret _ (47, [some (qm_r 0 12 a0), some (qm_i x1), some (qm_i x2), some (qm_i x3), some (qm_i r4), none], [qm_i r7, qm_i x3], h6) _
      refine qm_Ret.gt (t := 62) (e := 50) rfl (fun hc => ?_) (fun hc => ?_)
      · rw [if_pos hc] at ho
        refine qm_Ret.sts 2 (f' := (65, [some (qm_r 0 12 a0), some (qm_i x1), some (qm_i x2), some (qm_i x3), some (qm_i r4), some (qm_i (0 : Int32))], [], h6)) rfl ?_
        exact rX12_comes_65 ho
      · rw [if_neg hc] at ho
        refine qm_Ret.sts 8 (f' := (60, [some (qm_r 0 12 a0), some (qm_i x1), some (qm_i x2), some (qm_i x3), some (qm_i r4), none], [], (qm_seti h6 (a0 + 15) (2 : Int32).toNatClampNeg ((h6.1 (a0 + 15) (2 : Int32).toNatClampNeg) + (1 : Int32))))) rfl ?_
        refine qm_Ret.lets (F := fun h8 => (60, [some (qm_r 0 12 a0), some (qm_i x1), some (qm_i x2), some (qm_i x3), some (qm_i r4), none], [], h8)) (G := qm_Gi) ho (fun h8 ho => ?_)
        cases ho
        exact qm_Ret.ret 2 rfl
  · rw [if_neg hc] at ho
    refine qm_Ret.sts 8 (f' := (20, [some (qm_r 0 12 a0), some (qm_i x1), some (qm_i x2), some (qm_i x3), none, none], [], (qm_seti h1 (a0 + 15) (0 : Int32).toNatClampNeg ((h1.1 (a0 + 15) (0 : Int32).toNatClampNeg) + (1 : Int32))))) rfl ?_
    refine qm_Ret.lets (F := fun h9 => (20, [some (qm_r 0 12 a0), some (qm_i x1), some (qm_i x2), some (qm_i x3), none, none], [], h9)) (G := qm_Gi) ho (fun h9 ho => ?_)
    cases ho
    exact qm_Ret.ret 2 rfl
theorem cX12_comes_ok : ∀ q ∈ ([(313, 0, 3, wX12_slipsBy), (319, 0, 4, wX12_weakest), (297, 0, 5, wX12_holdsAt)] : List (Nat × Nat × Nat × qm_C)), qm_CallOK RX12 4 98 q.2.1 q.1 q.2.2.1 q.2.2.2 := List.forall_mem_cons.mpr ⟨Or.inl ⟨yX12_slipsBy, cX12_slipsBy, 4, (some .int), 3, 72, _, sX12_slipsBy, ⟨by decide, by decide⟩, ⟨jX12_slipsBy, kRX12_313, uRX12⟩, ⟨by decide, by decide, rfl⟩, Or.inl ⟨rfl, rfl, iX12_slipsBy, recvX12_slipsBy⟩⟩, List.forall_mem_cons.mpr ⟨Or.inl ⟨yX12_weakest, cX12_weakest, 7, (some .int), 3, 72, _, sX12_weakest, ⟨by decide, by decide⟩, ⟨jX12_weakest, kRX12_319, uRX12⟩, ⟨by decide, by decide, rfl⟩, Or.inl ⟨rfl, rfl, iX12_weakest, recvX12_weakest⟩⟩, List.forall_mem_cons.mpr ⟨Or.inl ⟨yX12_holdsAt, cX12_holdsAt, 8, (some .int), 2, 45, _, sX12_holdsAt, ⟨by decide, by decide⟩, ⟨jX12_holdsAt, kRX12_297, uRX12⟩, ⟨by decide, by decide, rfl⟩, Or.inl ⟨rfl, rfl, iX12_holdsAt, recvX12_holdsAt⟩⟩, fun _ h => absurd h List.not_mem_nil⟩⟩⟩
theorem sX12_comes : qm_Snd yX12_comes cX12_comes 6 (some .boolean) 4 98 wX12_comes := qm_met (fld := fun k => qm_lk k pfRX12) (con := fun k => qm_lk k pcRX12) (call := fun k => qm_lk k [(313, 0, 3, wX12_slipsBy), (319, 0, 4, wX12_weakest), (297, 0, 5, wX12_holdsAt)]) (tab := qm_tab aX12_comes) (plainFor_of_name (by decide)) (qm_fld_ok pfRX12_ok) (qm_con_ok pcRX12_ok) (fun idx kd n f hc => cX12_comes_ok (idx, kd, n, f) (qm_lk_mem hc)) (qm_tab_ok aX12_comes_ok) (fun vs h o hw => by
  unfold wX12_comes at hw
  split at hw
  · obtain ⟨r, hr, rfl⟩ := Option.map_eq_some_iff.mp hw
    exact ⟨Nat.le_of_ble_eq_true rfl, rX12_comes_0 (hr)⟩
  · cases hw)
theorem recvX12_comes : ∀ vs h o, wX12_comes vs h = some o → ∃ ci a rest, vs = qm_r 0 ci a :: rest ∧ qm_R ci = yX12_comes.cls := by
  intro vs h o hw
  unfold wX12_comes at hw
  split at hw
  · exact ⟨_, _, _, rfl, rfl⟩
  · cases hw
-- RX12 tends(III)Z
theorem jX12_tends : Jvm.Cond.code yX12_tends cX12_tends 5 (some .boolean) ∈ qm_all := List.mem_filter.mpr ⟨by decide +kernel, rfl⟩
theorem iX12_tends : Jvm.Cond.instanceMethod yX12_tends ∈ qm_all ∧ Jvm.Cond.selects yX12_tends.cls yX12_tends yX12_tends ∈ qm_all := ⟨List.mem_filter.mpr ⟨by decide +kernel, rfl⟩, List.mem_filter.mpr ⟨by decide +kernel, rfl⟩⟩
def wX12_tends : qm_C := fun vs h => match vs with
  | [.inr (.inr (some (0, 12, p0))), .inl p1, .inl p2, .inl p3] => (qX12_tends p0 p1 p2 p3 h).map qm_Gi
  | _ => none
def aX12_tends : List (Option (Instr × Nat)) := [some (.iload_n 3, 1), some (.iload_n 2, 1), some (.iconst 1, 1), some (.if_icmp .ne 10, 3), none, none, some (.aload_n 0, 1), some (.getfield 273, 3), none, none, some (.goto 7, 3), none, none, some (.aload_n 0, 1), some (.getfield 276, 3), none, none, some (.if_icmp .lt 5, 3), none, none, some (.iconst 0, 1), some (.ireturn, 1), some (.bipush 8, 2), none, some (.iload_n 2, 1), some (.imul, 1), some (.iload_n 3, 1), some (.iadd, 1), some (.istore 4, 2), none, some (.iload_n 1, 1), some (.iconst 2, 1), some (.if_icmp .ne 17, 3), none, none, some (.aload_n 0, 1), some (.getfield 44, 3), none, none, some (.iload 4, 2), none, some (.iaload, 1), some (.bipush 9, 2), none, some (.if_icmp .ne 5, 3), none, none, some (.iconst 0, 1), some (.ireturn, 1), some (.aload_n 0, 1), some (.getfield 44, 3), none, none, some (.iload 4, 2), none, some (.dup2, 1), some (.iaload, 1), some (.iload_n 1, 1), some (.iconst 2, 1), some (.if_icmp .ne 7, 3), none, none, some (.iconst 1, 1), some (.goto 4, 3), none, none, some (.iconst 0, 1), some (.iadd, 1), some (.iastore, 1), some (.aload_n 0, 1), some (.getfield 47, 3), none, none, some (.iload 4, 2), none, some (.iload_n 1, 1), some (.iconst 1, 1), some (.if_icmp .ne 7, 3), none, none, some (.iconst 0, 1), some (.goto 10, 3), none, none, some (.aload_n 0, 1), some (.getfield 47, 3), none, none, some (.iload 4, 2), none, some (.iaload, 1), some (.iastore, 1), some (.iconst 1, 1), some (.ireturn, 1)]
theorem aX12_tends_ok : qm_tabok cX12_tends aX12_tends = true := by decide +kernel
def mX12_tends : qm_M := ((some .boolean), (fun k => qm_lk k pfRX12), (fun k => qm_lk k pcRX12), (fun k => qm_lk k []), qm_tab aX12_tends)
set_option maxRecDepth 20000 in
set_option maxHeartbeats 2000000 in
theorem rX12_tends_67   {a0 : Nat} {x1 : Int32} {x4 : Int32} {xs0 : Int32} {xs1 : Int32} {xs2 : Int32} {as3 : Nat} {xd2 : Int32} {xd3 : Int32} {h : qm_H} {r : Int32 × qm_H} (ho : qX12_tends_67  a0 x1 x4 xs0 xs1 xs2 as3 h = some r) : qm_Ret mX12_tends (67, [some (qm_r 0 12 a0), some (qm_i x1), some (qm_i xd2), some (qm_i xd3), some (qm_i x4)], [qm_i xs0, qm_i xs1, qm_i xs2, qm_r 1 16 as3], h) (qm_Gi r) := by
  unfold qX12_tends_67 at ho
  refine qm_Ret.sts 1 (f' := (68, [some (qm_r 0 12 a0), some (qm_i x1), some (qm_i xd2), some (qm_i xd3), some (qm_i x4)], [qm_i (xs1 + xs0), qm_i xs2, qm_r 1 16 as3], h)) rfl ?_
  obtain ⟨hg, ho⟩ := qm_ifn ho
  refine qm_Ret.gn (f1 := (69, [some (qm_r 0 12 a0), some (qm_i x1), some (qm_i xd2), some (qm_i xd3), some (qm_i x4)], [], (qm_seti h as3 (xs2).toNatClampNeg (xs1 + xs0)))) hg rfl ?_
  refine qm_Ret.lets (F := fun h1 => (69, [some (qm_r 0 12 a0), some (qm_i x1), some (qm_i xd2), some (qm_i xd3), some (qm_i x4)], [], h1)) (G := qm_Gi) ho (fun h1 ho => ?_)
  refine qm_Ret.sts 5 (f' := (77, [some (qm_r 0 12 a0), some (qm_i x1), some (qm_i xd2), some (qm_i xd3), some (qm_i x4)], [qm_i (1 : Int32), qm_i x1, qm_i x4, qm_r 1 16 (a0 + 13)], h1)) rfl ?_
  refine qm_Ret.ne (t := 84) (e := 80) rfl (fun hc => ?_) (fun hc => ?_)
  · rw [if_pos hc] at ho
    refine qm_Ret.sts 2 (f' := (91, [some (qm_r 0 12 a0), some (qm_i x1), some (qm_i xd2), some (qm_i xd3), some (qm_i x4)], [qm_i (0 : Int32), qm_i x4, qm_r 1 16 (a0 + 13)], h1)) rfl ?_
    obtain ⟨hg, ho⟩ := qm_ifn ho
    refine qm_Ret.gn (f1 := (92, [some (qm_r 0 12 a0), some (qm_i x1), some (qm_i xd2), some (qm_i xd3), some (qm_i x4)], [], (qm_seti h1 (a0 + 13) (x4).toNatClampNeg (0 : Int32)))) hg rfl ?_
    refine qm_Ret.lets (F := fun h3 => (92, [some (qm_r 0 12 a0), some (qm_i x1), some (qm_i xd2), some (qm_i xd3), some (qm_i x4)], [], h3)) (G := qm_Gi) ho (fun h3 ho => ?_)
    cases ho
    exact qm_Ret.ret 2 rfl
  · rw [if_neg hc] at ho
    refine qm_Ret.sts 3 (f' := (90, [some (qm_r 0 12 a0), some (qm_i x1), some (qm_i xd2), some (qm_i xd3), some (qm_i x4)], [qm_i x4, qm_r 1 16 (a0 + 13), qm_i x4, qm_r 1 16 (a0 + 13)], h1)) rfl ?_
    obtain ⟨hg, ho⟩ := qm_ifn ho
    refine qm_Ret.gn (f1 := (91, [some (qm_r 0 12 a0), some (qm_i x1), some (qm_i xd2), some (qm_i xd3), some (qm_i x4)], [qm_i (h1.1 (a0 + 13) (x4).toNatClampNeg), qm_i x4, qm_r 1 16 (a0 + 13)], h1)) hg rfl ?_
    obtain ⟨hg, ho⟩ := qm_ifn ho
    refine qm_Ret.gn (f1 := (92, [some (qm_r 0 12 a0), some (qm_i x1), some (qm_i xd2), some (qm_i xd3), some (qm_i x4)], [], (qm_seti h1 (a0 + 13) (x4).toNatClampNeg (h1.1 (a0 + 13) (x4).toNatClampNeg)))) hg rfl ?_
    refine qm_Ret.lets (F := fun h2 => (92, [some (qm_r 0 12 a0), some (qm_i x1), some (qm_i xd2), some (qm_i xd3), some (qm_i x4)], [], h2)) (G := qm_Gi) ho (fun h2 ho => ?_)
    cases ho
    exact qm_Ret.ret 2 rfl
set_option maxRecDepth 20000 in
set_option maxHeartbeats 2000000 in
theorem rX12_tends_17   {a0 : Nat} {x1 : Int32} {x2 : Int32} {x3 : Int32} {xs0 : Int32} {xs1 : Int32} {h : qm_H} {r : Int32 × qm_H} (ho : qX12_tends_17  a0 x1 x2 x3 xs0 xs1 h = some r) : qm_Ret mX12_tends (17, [some (qm_r 0 12 a0), some (qm_i x1), some (qm_i x2), some (qm_i x3), none], [qm_i xs0, qm_i xs1], h) (qm_Gi r) := by
  unfold qX12_tends_17 at ho
  refine qm_Ret.lt (t := 22) (e := 20) rfl (fun hc => ?_) (fun hc => ?_)
  · rw [if_pos hc] at ho
    refine qm_Ret.sts 5 (f' := (28, [some (qm_r 0 12 a0), some (qm_i x1), some (qm_i x2), some (qm_i x3), none], [qm_i (((8 : Int32) * x2) + x3)], h)) rfl ?_
    refine qm_Ret.lets (F := fun v1 => (28, [some (qm_r 0 12 a0), some (qm_i x1), some (qm_i x2), some (qm_i x3), none], [qm_i v1], h)) (G := qm_Gi) ho (fun v1 ho => ?_)
    refine qm_Ret.sts 3 (f' := (32, [some (qm_r 0 12 a0), some (qm_i x1), some (qm_i x2), some (qm_i x3), some (qm_i v1)], [qm_i (2 : Int32), qm_i x1], h)) rfl ?_
    refine qm_Ret.ne (t := 49) (e := 35) rfl (fun hc => ?_) (fun hc => ?_)
    · rw [if_pos hc] at ho
      refine qm_Ret.sts 3 (f' := (41, [some (qm_r 0 12 a0), some (qm_i x1), some (qm_i x2), some (qm_i x3), some (qm_i v1)], [qm_i v1, qm_r 1 16 (a0 + 12)], h)) rfl ?_
      obtain ⟨hg, ho⟩ := qm_ifn ho
      refine qm_Ret.gn (f1 := (42, [some (qm_r 0 12 a0), some (qm_i x1), some (qm_i x2), some (qm_i x3), some (qm_i v1)], [qm_i (h.1 (a0 + 12) (v1).toNatClampNeg)], h)) hg rfl ?_
      refine qm_Ret.sts 1 (f' := (44, [some (qm_r 0 12 a0), some (qm_i x1), some (qm_i x2), some (qm_i x3), some (qm_i v1)], [qm_i (9 : Int32), qm_i (h.1 (a0 + 12) (v1).toNatClampNeg)], h)) rfl ?_
      refine qm_Ret.ne (t := 49) (e := 47) rfl (fun hc => ?_) (fun hc => ?_)
      · rw [if_pos hc] at ho
        cases ho
        exact qm_Ret.ret 2 rfl
      · rw [if_neg hc] at ho
        refine qm_Ret.sts 4 (f' := (56, [some (qm_r 0 12 a0), some (qm_i x1), some (qm_i x2), some (qm_i x3), some (qm_i v1)], [qm_i v1, qm_r 1 16 (a0 + 12), qm_i v1, qm_r 1 16 (a0 + 12)], h)) rfl ?_
        obtain ⟨hg, ho⟩ := qm_ifn ho
        refine qm_Ret.gn (f1 := (57, [some (qm_r 0 12 a0), some (qm_i x1), some (qm_i x2), some (qm_i x3), some (qm_i v1)], [qm_i (h.1 (a0 + 12) (v1).toNatClampNeg), qm_i v1, qm_r 1 16 (a0 + 12)], h)) hg rfl ?_
        refine qm_Ret.sts 2 (f' := (59, [some (qm_r 0 12 a0), some (qm_i x1), some (qm_i x2), some (qm_i x3), some (qm_i v1)], [qm_i (2 : Int32), qm_i x1, qm_i (h.1 (a0 + 12) (v1).toNatClampNeg), qm_i v1, qm_r 1 16 (a0 + 12)], h)) rfl ?_
        refine qm_Ret.ne (t := 66) (e := 62) rfl (fun hc => ?_) (fun hc => ?_)
        · rw [if_pos hc] at ho
          refine qm_Ret.sts 2 (f' := (67, [some (qm_r 0 12 a0), some (qm_i x1), some (qm_i x2), some (qm_i x3), some (qm_i v1)], [qm_i (1 : Int32), qm_i (h.1 (a0 + 12) (v1).toNatClampNeg), qm_i v1, qm_r 1 16 (a0 + 12)], h)) rfl ?_
          exact rX12_tends_67 ho
        · rw [if_neg hc] at ho
          refine qm_Ret.sts 1 (f' := (67, [some (qm_r 0 12 a0), some (qm_i x1), some (qm_i x2), some (qm_i x3), some (qm_i v1)], [qm_i (0 : Int32), qm_i (h.1 (a0 + 12) (v1).toNatClampNeg), qm_i v1, qm_r 1 16 (a0 + 12)], h)) rfl ?_
          exact rX12_tends_67 ho
    · rw [if_neg hc] at ho
      refine qm_Ret.sts 4 (f' := (56, [some (qm_r 0 12 a0), some (qm_i x1), some (qm_i x2), some (qm_i x3), some (qm_i v1)], [qm_i v1, qm_r 1 16 (a0 + 12), qm_i v1, qm_r 1 16 (a0 + 12)], h)) rfl ?_
      obtain ⟨hg, ho⟩ := qm_ifn ho
      refine qm_Ret.gn (f1 := (57, [some (qm_r 0 12 a0), some (qm_i x1), some (qm_i x2), some (qm_i x3), some (qm_i v1)], [qm_i (h.1 (a0 + 12) (v1).toNatClampNeg), qm_i v1, qm_r 1 16 (a0 + 12)], h)) hg rfl ?_
      refine qm_Ret.sts 2 (f' := (59, [some (qm_r 0 12 a0), some (qm_i x1), some (qm_i x2), some (qm_i x3), some (qm_i v1)], [qm_i (2 : Int32), qm_i x1, qm_i (h.1 (a0 + 12) (v1).toNatClampNeg), qm_i v1, qm_r 1 16 (a0 + 12)], h)) rfl ?_
      refine qm_Ret.ne (t := 66) (e := 62) rfl (fun hc => ?_) (fun hc => ?_)
      · rw [if_pos hc] at ho
        refine qm_Ret.sts 2 (f' := (67, [some (qm_r 0 12 a0), some (qm_i x1), some (qm_i x2), some (qm_i x3), some (qm_i v1)], [qm_i (1 : Int32), qm_i (h.1 (a0 + 12) (v1).toNatClampNeg), qm_i v1, qm_r 1 16 (a0 + 12)], h)) rfl ?_
        exact rX12_tends_67 ho
      · rw [if_neg hc] at ho
        refine qm_Ret.sts 1 (f' := (67, [some (qm_r 0 12 a0), some (qm_i x1), some (qm_i x2), some (qm_i x3), some (qm_i v1)], [qm_i (0 : Int32), qm_i (h.1 (a0 + 12) (v1).toNatClampNeg), qm_i v1, qm_r 1 16 (a0 + 12)], h)) rfl ?_
        exact rX12_tends_67 ho
  · rw [if_neg hc] at ho
    cases ho
    exact qm_Ret.ret 2 rfl
set_option maxRecDepth 20000 in
set_option maxHeartbeats 2000000 in
theorem rX12_tends_0   {a0 : Nat} {x1 : Int32} {x2 : Int32} {x3 : Int32} {h : qm_H} {r : Int32 × qm_H} (ho : qX12_tends  a0 x1 x2 x3 h = some r) : qm_Ret mX12_tends (0, [some (qm_r 0 12 a0), some (qm_i x1), some (qm_i x2), some (qm_i x3), none], [], h) (qm_Gi r) := by
  unfold qX12_tends at ho
  refine qm_Ret.sts 3 (f' := (3, [some (qm_r 0 12 a0), some (qm_i x1), some (qm_i x2), some (qm_i x3), none], [qm_i (1 : Int32), qm_i x2, qm_i x3], h)) rfl ?_
  refine qm_Ret.ne (t := 13) (e := 6) rfl (fun hc => ?_) (fun hc => ?_)
  · rw [if_pos hc] at ho
    refine qm_Ret.sts 3 (f' := (17, [some (qm_r 0 12 a0), some (qm_i x1), some (qm_i x2), some (qm_i x3), none], [qm_i (h.1 a0 25), qm_i x3], h)) rfl ?_
    exact rX12_tends_17 ho
  · rw [if_neg hc] at ho
    refine qm_Ret.sts 2 (f' := (17, [some (qm_r 0 12 a0), some (qm_i x1), some (qm_i x2), some (qm_i x3), none], [qm_i (h.1 a0 26), qm_i x3], h)) rfl ?_
    exact rX12_tends_17 ho
theorem cX12_tends_ok : ∀ q ∈ ([] : List (Nat × Nat × Nat × qm_C)), qm_CallOK RX12 0 0 q.2.1 q.1 q.2.2.1 q.2.2.2 := fun _ h => absurd h List.not_mem_nil
theorem sX12_tends : qm_Snd yX12_tends cX12_tends 5 (some .boolean) 0 0 wX12_tends := qm_met (fld := fun k => qm_lk k pfRX12) (con := fun k => qm_lk k pcRX12) (call := fun k => qm_lk k []) (tab := qm_tab aX12_tends) (plainFor_of_name (by decide)) (qm_fld_ok pfRX12_ok) (qm_con_ok pcRX12_ok) (fun idx kd n f hc => cX12_tends_ok (idx, kd, n, f) (qm_lk_mem hc)) (qm_tab_ok aX12_tends_ok) (fun vs h o hw => by
  unfold wX12_tends at hw
  split at hw
  · obtain ⟨r, hr, rfl⟩ := Option.map_eq_some_iff.mp hw
    exact ⟨Nat.le_of_ble_eq_true rfl, rX12_tends_0 (hr)⟩
  · cases hw)
theorem recvX12_tends : ∀ vs h o, wX12_tends vs h = some o → ∃ ci a rest, vs = qm_r 0 ci a :: rest ∧ qm_R ci = yX12_tends.cls := by
  intro vs h o hw
  unfold wX12_tends at hw
  split at hw
  · exact ⟨_, _, _, rfl, rfl⟩
  · cases hw
-- RX12 weaves(II)Z
theorem jX12_weaves : Jvm.Cond.code yX12_weaves cX12_weaves 3 (some .boolean) ∈ qm_all := List.mem_filter.mpr ⟨by decide +kernel, rfl⟩
theorem iX12_weaves : Jvm.Cond.instanceMethod yX12_weaves ∈ qm_all ∧ Jvm.Cond.selects yX12_weaves.cls yX12_weaves yX12_weaves ∈ qm_all := ⟨List.mem_filter.mpr ⟨by decide +kernel, rfl⟩, List.mem_filter.mpr ⟨by decide +kernel, rfl⟩⟩
def wX12_weaves : qm_C := fun vs h => match vs with
  | [.inr (.inr (some (0, 12, p0))), .inl p1, .inl p2] => (qX12_weaves p0 p1 p2 h).map qm_Gi
  | _ => none
def aX12_weaves : List (Option (Instr × Nat)) := [some (.iload_n 1, 1), some (.aload_n 0, 1), some (.getfield 273, 3), none, none, some (.if_icmp .ge 24, 3), none, none, some (.iload_n 2, 1), some (.aload_n 0, 1), some (.getfield 276, 3), none, none, some (.if_icmp .ge 16, 3), none, none, some (.aload_n 0, 1), some (.getfield 50, 3), none, none, some (.iload_n 2, 1), some (.iaload, 1), some (.iload_n 1, 1), some (.invokestatic 92, 3), none, none, some (.ifCond .ne 5, 3), none, none, some (.iconst 0, 1), some (.ireturn, 1), some (.aload_n 0, 1), some (.getfield 50, 3), none, none, some (.iload_n 2, 1), some (.dup2, 1), some (.iaload, 1), some (.iconst 1, 1), some (.iload_n 1, 1), some (.ishl, 1), some (.iconst (-1), 1), some (.ixor, 1), some (.iand, 1), some (.iastore, 1), some (.iconst 1, 1), some (.ireturn, 1)]
theorem aX12_weaves_ok : qm_tabok cX12_weaves aX12_weaves = true := by decide +kernel
def mX12_weaves : qm_M := ((some .boolean), (fun k => qm_lk k pfRX12), (fun k => qm_lk k pcRX12), (fun k => qm_lk k [(92, 2, 2, wX12_has)]), qm_tab aX12_weaves)
set_option maxRecDepth 20000 in
set_option maxHeartbeats 2000000 in
theorem rX12_weaves_0   {a0 : Nat} {x1 : Int32} {x2 : Int32} {h : qm_H} {r : Int32 × qm_H} (ho : qX12_weaves  a0 x1 x2 h = some r) : qm_Ret mX12_weaves (0, [some (qm_r 0 12 a0), some (qm_i x1), some (qm_i x2)], [], h) (qm_Gi r) := by
  unfold qX12_weaves at ho
  refine qm_Ret.sts 3 (f' := (5, [some (qm_r 0 12 a0), some (qm_i x1), some (qm_i x2)], [qm_i (h.1 a0 25), qm_i x1], h)) rfl ?_
  refine qm_Ret.ge (t := 29) (e := 8) rfl (fun hc => ?_) (fun hc => ?_)
  · rw [if_pos hc] at ho
    refine qm_Ret.sts 3 (f' := (13, [some (qm_r 0 12 a0), some (qm_i x1), some (qm_i x2)], [qm_i (h.1 a0 26), qm_i x2], h)) rfl ?_
    refine qm_Ret.ge (t := 29) (e := 16) rfl (fun hc => ?_) (fun hc => ?_)
    · rw [if_pos hc] at ho
      refine qm_Ret.sts 3 (f' := (21, [some (qm_r 0 12 a0), some (qm_i x1), some (qm_i x2)], [qm_i x2, qm_r 1 8 (a0 + 14)], h)) rfl ?_
      obtain ⟨hg, ho⟩ := qm_ifn ho
      refine qm_Ret.gn (f1 := (22, [some (qm_r 0 12 a0), some (qm_i x1), some (qm_i x2)], [qm_i (h.1 (a0 + 14) (x2).toNatClampNeg)], h)) hg rfl ?_
      refine qm_Ret.sts 1 (f' := (23, [some (qm_r 0 12 a0), some (qm_i x1), some (qm_i x2)], [qm_i x1, qm_i (h.1 (a0 + 14) (x2).toNatClampNeg)], h)) rfl ?_
      obtain ⟨r2, h1, hr, ho⟩ := qm_b2e ho
      refine qm_Ret.call (X := wX12_has [qm_i (h.1 (a0 + 14) (x2).toNatClampNeg), qm_i x1] h) (o1 := (some (qm_i r2), h1)) (qm_mp (G := qm_Gi) hr) rfl ?_
      show qm_Ret _ (26, [some (qm_r 0 12 a0), some (qm_i x1), some (qm_i x2)], [qm_i r2], h1) _
      refine qm_Ret.ne (t := 31) (e := 29) rfl (fun hc => ?_) (fun hc => ?_)
      · rw [if_pos hc] at ho
        cases ho
        exact qm_Ret.ret 2 rfl
      · rw [if_neg hc] at ho
        refine qm_Ret.sts 4 (f' := (37, [some (qm_r 0 12 a0), some (qm_i x1), some (qm_i x2)], [qm_i x2, qm_r 1 8 (a0 + 14), qm_i x2, qm_r 1 8 (a0 + 14)], h1)) rfl ?_
        obtain ⟨hg, ho⟩ := qm_ifn ho
        refine qm_Ret.gn (f1 := (38, [some (qm_r 0 12 a0), some (qm_i x1), some (qm_i x2)], [qm_i (h1.1 (a0 + 14) (x2).toNatClampNeg), qm_i x2, qm_r 1 8 (a0 + 14)], h1)) hg rfl ?_
        refine qm_Ret.sts 6 (f' := (44, [some (qm_r 0 12 a0), some (qm_i x1), some (qm_i x2)], [qm_i ((h1.1 (a0 + 14) (x2).toNatClampNeg) &&& ((qm_ishl (1 : Int32) x1) ^^^ (-1 : Int32))), qm_i x2, qm_r 1 8 (a0 + 14)], h1)) rfl ?_
        obtain ⟨hg, ho⟩ := qm_ifn ho
        refine qm_Ret.gn (f1 := (45, [some (qm_r 0 12 a0), some (qm_i x1), some (qm_i x2)], [], (qm_seti h1 (a0 + 14) (x2).toNatClampNeg ((h1.1 (a0 + 14) (x2).toNatClampNeg) &&& ((qm_ishl (1 : Int32) x1) ^^^ (-1 : Int32)))))) hg rfl ?_
        refine qm_Ret.lets (F := fun h3 => (45, [some (qm_r 0 12 a0), some (qm_i x1), some (qm_i x2)], [], h3)) (G := qm_Gi) ho (fun h3 ho => ?_)
        cases ho
        exact qm_Ret.ret 2 rfl
    · rw [if_neg hc] at ho
      cases ho
      exact qm_Ret.ret 2 rfl
  · rw [if_neg hc] at ho
    cases ho
    exact qm_Ret.ret 2 rfl
theorem cX12_weaves_ok : ∀ q ∈ ([(92, 2, 2, wX12_has)] : List (Nat × Nat × Nat × qm_C)), qm_CallOK RX12 1 21 q.2.1 q.1 q.2.2.1 q.2.2.2 := List.forall_mem_cons.mpr ⟨Or.inl ⟨yX12_has, cX12_has, 2, (some .boolean), 0, 0, _, sX12_has, ⟨by decide, by decide⟩, ⟨jX12_has, kRX12_92, uRX12⟩, ⟨by decide, by decide, rfl⟩, Or.inr (Or.inl ⟨rfl, rfl, iX12_has⟩)⟩, fun _ h => absurd h List.not_mem_nil⟩
theorem sX12_weaves : qm_Snd yX12_weaves cX12_weaves 3 (some .boolean) 1 21 wX12_weaves := qm_met (fld := fun k => qm_lk k pfRX12) (con := fun k => qm_lk k pcRX12) (call := fun k => qm_lk k [(92, 2, 2, wX12_has)]) (tab := qm_tab aX12_weaves) (plainFor_of_name (by decide)) (qm_fld_ok pfRX12_ok) (qm_con_ok pcRX12_ok) (fun idx kd n f hc => cX12_weaves_ok (idx, kd, n, f) (qm_lk_mem hc)) (qm_tab_ok aX12_weaves_ok) (fun vs h o hw => by
  unfold wX12_weaves at hw
  split at hw
  · obtain ⟨r, hr, rfl⟩ := Option.map_eq_some_iff.mp hw
    exact ⟨Nat.le_of_ble_eq_true rfl, rX12_weaves_0 (hr)⟩
  · cases hw)
theorem recvX12_weaves : ∀ vs h o, wX12_weaves vs h = some o → ∃ ci a rest, vs = qm_r 0 ci a :: rest ∧ qm_R ci = yX12_weaves.cls := by
  intro vs h o hw
  unfold wX12_weaves at hw
  split at hw
  · exact ⟨_, _, _, rfl, rfl⟩
  · cases hw
-- RX12 winters()Z
theorem jX12_winters : Jvm.Cond.code yX12_winters cX12_winters 2 (some .boolean) ∈ qm_all := List.mem_filter.mpr ⟨by decide +kernel, rfl⟩
theorem iX12_winters : Jvm.Cond.instanceMethod yX12_winters ∈ qm_all ∧ Jvm.Cond.selects yX12_winters.cls yX12_winters yX12_winters ∈ qm_all := ⟨List.mem_filter.mpr ⟨by decide +kernel, rfl⟩, List.mem_filter.mpr ⟨by decide +kernel, rfl⟩⟩
def wX12_winters : qm_C := fun vs h => match vs with
  | [.inr (.inr (some (0, 12, p0)))] => (qX12_winters p0 h).map qm_Gi
  | _ => none
def aX12_winters : List (Option (Instr × Nat)) := [some (.iconst 0, 1), some (.istore_n 1, 1), some (.iload_n 1, 1), some (.bipush 16, 2), none, some (.if_icmp .ge 28, 3), none, none, some (.aload_n 0, 1), some (.getfield 47, 3), none, none, some (.iload_n 1, 1), some (.bipush 9, 2), none, some (.aload_n 0, 1), some (.getfield 47, 3), none, none, some (.iload_n 1, 1), some (.iaload, 1), some (.iconst 1, 1), some (.iadd, 1), some (.invokestatic 335, 3), none, none, some (.iastore, 1), some (.iinc 1 1, 3), none, none, some (.goto (-28), 3), none, none, some (.iconst 1, 1), some (.ireturn, 1)]
theorem aX12_winters_ok : qm_tabok cX12_winters aX12_winters = true := by decide +kernel
def mX12_winters : qm_M := ((some .boolean), (fun k => qm_lk k pfRX12), (fun k => qm_lk k pcRX12), (fun k => qm_lk k [(335, 2, 2, wX12_lesser)]), qm_tab aX12_winters)
set_option maxRecDepth 20000 in
set_option maxHeartbeats 2000000 in
theorem rX12_winters_2   : ∀ {fuel : Nat} {a0 : Nat} {x1 : Int32} {h : qm_H} {r : Int32 × qm_H}, qX12_winters_2  fuel a0 x1 h = some r → qm_Ret mX12_winters (2, [some (qm_r 0 12 a0), some (qm_i x1)], [], h) (qm_Gi r) := by
  intro fuel
  induction fuel with
  | zero => intros; rename_i ho; cases ho
  | succ n ih =>
    intro a0 x1 h r ho
    unfold qX12_winters_2 at ho
    refine qm_Ret.sts 2 (f' := (5, [some (qm_r 0 12 a0), some (qm_i x1)], [qm_i (16 : Int32), qm_i x1], h)) rfl ?_
    refine qm_Ret.ge (t := 33) (e := 8) rfl (fun hc => ?_) (fun hc => ?_)
    · rw [if_pos hc] at ho
      refine qm_Ret.sts 7 (f' := (20, [some (qm_r 0 12 a0), some (qm_i x1)], [qm_i x1, qm_r 1 16 (a0 + 13), qm_i (9 : Int32), qm_i x1, qm_r 1 16 (a0 + 13)], h)) rfl ?_
      obtain ⟨hg, ho⟩ := qm_ifn ho
      refine qm_Ret.gn (f1 := (21, [some (qm_r 0 12 a0), some (qm_i x1)], [qm_i (h.1 (a0 + 13) (x1).toNatClampNeg), qm_i (9 : Int32), qm_i x1, qm_r 1 16 (a0 + 13)], h)) hg rfl ?_
      refine qm_Ret.sts 2 (f' := (23, [some (qm_r 0 12 a0), some (qm_i x1)], [qm_i ((h.1 (a0 + 13) (x1).toNatClampNeg) + (1 : Int32)), qm_i (9 : Int32), qm_i x1, qm_r 1 16 (a0 + 13)], h)) rfl ?_
      obtain ⟨r2, h1, hr, ho⟩ := qm_b2e ho
      refine qm_Ret.call (X := wX12_lesser [qm_i (9 : Int32), qm_i ((h.1 (a0 + 13) (x1).toNatClampNeg) + (1 : Int32))] h) (o1 := (some (qm_i r2), h1)) (qm_mp (G := qm_Gi) hr) rfl ?_
      show qm_Ret _ (26, [some (qm_r 0 12 a0), some (qm_i x1)], [qm_i r2, qm_i x1, qm_r 1 16 (a0 + 13)], h1) _
      obtain ⟨hg, ho⟩ := qm_ifn ho
      refine qm_Ret.gn (f1 := (27, [some (qm_r 0 12 a0), some (qm_i x1)], [], (qm_seti h1 (a0 + 13) (x1).toNatClampNeg r2))) hg rfl ?_
      refine qm_Ret.lets (F := fun h3 => (27, [some (qm_r 0 12 a0), some (qm_i x1)], [], h3)) (G := qm_Gi) ho (fun h3 ho => ?_)
      refine qm_Ret.sts 2 (f' := (2, [some (qm_r 0 12 a0), some (qm_i (x1 + (1 : Int32)))], [], h3)) rfl ?_
      exact ih ho
    · rw [if_neg hc] at ho
      cases ho
      exact qm_Ret.ret 2 rfl
set_option maxRecDepth 20000 in
set_option maxHeartbeats 2000000 in
theorem rX12_winters_0   {a0 : Nat} {h : qm_H} {r : Int32 × qm_H} (ho : qX12_winters  a0 h = some r) : qm_Ret mX12_winters (0, [some (qm_r 0 12 a0), none], [], h) (qm_Gi r) := by
  unfold qX12_winters at ho
  refine qm_Ret.sts 2 (f' := (2, [some (qm_r 0 12 a0), some (qm_i (0 : Int32))], [], h)) rfl ?_
  exact rX12_winters_2 ho
theorem cX12_winters_ok : ∀ q ∈ ([(335, 2, 2, wX12_lesser)] : List (Nat × Nat × Nat × qm_C)), qm_CallOK RX12 1 21 q.2.1 q.1 q.2.2.1 q.2.2.2 := List.forall_mem_cons.mpr ⟨Or.inl ⟨yX12_lesser, cX12_lesser, 2, (some .int), 0, 0, _, sX12_lesser, ⟨by decide, by decide⟩, ⟨jX12_lesser, kRX12_335, uRX12⟩, ⟨by decide, by decide, rfl⟩, Or.inr (Or.inl ⟨rfl, rfl, iX12_lesser⟩)⟩, fun _ h => absurd h List.not_mem_nil⟩
theorem sX12_winters : qm_Snd yX12_winters cX12_winters 2 (some .boolean) 1 21 wX12_winters := qm_met (fld := fun k => qm_lk k pfRX12) (con := fun k => qm_lk k pcRX12) (call := fun k => qm_lk k [(335, 2, 2, wX12_lesser)]) (tab := qm_tab aX12_winters) (plainFor_of_name (by decide)) (qm_fld_ok pfRX12_ok) (qm_con_ok pcRX12_ok) (fun idx kd n f hc => cX12_winters_ok (idx, kd, n, f) (qm_lk_mem hc)) (qm_tab_ok aX12_winters_ok) (fun vs h o hw => by
  unfold wX12_winters at hw
  split at hw
  · obtain ⟨r, hr, rfl⟩ := Option.map_eq_some_iff.mp hw
    exact ⟨Nat.le_of_ble_eq_true rfl, rX12_winters_0 (hr)⟩
  · cases hw)
theorem recvX12_winters : ∀ vs h o, wX12_winters vs h = some o → ∃ ci a rest, vs = qm_r 0 ci a :: rest ∧ qm_R ci = yX12_winters.cls := by
  intro vs h o hw
  unfold wX12_winters at hw
  split at hw
  · exact ⟨_, _, _, rfl, rfl⟩
  · cases hw
-- RX12 soaks(I)Z
theorem jX12_soaks : Jvm.Cond.code yX12_soaks cX12_soaks 3 (some .boolean) ∈ qm_all := List.mem_filter.mpr ⟨by decide +kernel, rfl⟩
theorem iX12_soaks : Jvm.Cond.instanceMethod yX12_soaks ∈ qm_all ∧ Jvm.Cond.selects yX12_soaks.cls yX12_soaks yX12_soaks ∈ qm_all := ⟨List.mem_filter.mpr ⟨by decide +kernel, rfl⟩, List.mem_filter.mpr ⟨by decide +kernel, rfl⟩⟩
def wX12_soaks : qm_C := fun vs h => match vs with
  | [.inr (.inr (some (0, 12, p0))), .inl p1] => (qX12_soaks p0 p1 h).map qm_Gi
  | _ => none
def aX12_soaks : List (Option (Instr × Nat)) := [some (.aload_n 0, 1), some (.getfield 282, 3), none, none, some (.iload_n 1, 1), some (.if_icmp .eq 7, 3), none, none, some (.iconst 1, 1), some (.goto 4, 3), none, none, some (.iconst 0, 1), some (.istore_n 2, 1), some (.aload_n 0, 1), some (.iload_n 1, 1), some (.putfield 282, 3), none, none, some (.iload_n 2, 1), some (.ireturn, 1)]
theorem aX12_soaks_ok : qm_tabok cX12_soaks aX12_soaks = true := by decide +kernel
def mX12_soaks : qm_M := ((some .boolean), (fun k => qm_lk k pfRX12), (fun k => qm_lk k pcRX12), (fun k => qm_lk k []), qm_tab aX12_soaks)
set_option maxRecDepth 20000 in
set_option maxHeartbeats 2000000 in
theorem rX12_soaks_0   {a0 : Nat} {x1 : Int32} {h : qm_H} {r : Int32 × qm_H} (ho : qX12_soaks  a0 x1 h = some r) : qm_Ret mX12_soaks (0, [some (qm_r 0 12 a0), some (qm_i x1), none], [], h) (qm_Gi r) := by
  unfold qX12_soaks at ho
  refine qm_Ret.sts 3 (f' := (5, [some (qm_r 0 12 a0), some (qm_i x1), none], [qm_i x1, qm_i (h.1 a0 28)], h)) rfl ?_
  refine qm_Ret.eq (t := 12) (e := 8) rfl (fun hc => ?_) (fun hc => ?_)
  · rw [if_pos hc] at ho
    cases ho
    exact qm_Ret.ret 7 rfl
  · rw [if_neg hc] at ho
    cases ho
    exact qm_Ret.ret 8 rfl
theorem cX12_soaks_ok : ∀ q ∈ ([] : List (Nat × Nat × Nat × qm_C)), qm_CallOK RX12 0 0 q.2.1 q.1 q.2.2.1 q.2.2.2 := fun _ h => absurd h List.not_mem_nil
theorem sX12_soaks : qm_Snd yX12_soaks cX12_soaks 3 (some .boolean) 0 0 wX12_soaks := qm_met (fld := fun k => qm_lk k pfRX12) (con := fun k => qm_lk k pcRX12) (call := fun k => qm_lk k []) (tab := qm_tab aX12_soaks) (plainFor_of_name (by decide)) (qm_fld_ok pfRX12_ok) (qm_con_ok pcRX12_ok) (fun idx kd n f hc => cX12_soaks_ok (idx, kd, n, f) (qm_lk_mem hc)) (qm_tab_ok aX12_soaks_ok) (fun vs h o hw => by
  unfold wX12_soaks at hw
  split at hw
  · obtain ⟨r, hr, rfl⟩ := Option.map_eq_some_iff.mp hw
    exact ⟨Nat.le_of_ble_eq_true rfl, rX12_soaks_0 (hr)⟩
  · cases hw)
theorem recvX12_soaks : ∀ vs h o, wX12_soaks vs h = some o → ∃ ci a rest, vs = qm_r 0 ci a :: rest ∧ qm_R ci = yX12_soaks.cls := by
  intro vs h o hw
  unfold wX12_soaks at hw
  split at hw
  · exact ⟨_, _, _, rfl, rfl⟩
  · cases hw
-- RX12 does(IIII)Z
theorem jX12_does : Jvm.Cond.code yX12_does cX12_does 5 (some .boolean) ∈ qm_all := List.mem_filter.mpr ⟨by decide +kernel, rfl⟩
theorem iX12_does : Jvm.Cond.instanceMethod yX12_does ∈ qm_all ∧ Jvm.Cond.selects yX12_does.cls yX12_does yX12_does ∈ qm_all := ⟨List.mem_filter.mpr ⟨by decide +kernel, rfl⟩, List.mem_filter.mpr ⟨by decide +kernel, rfl⟩⟩
def wX12_does : qm_C := fun vs h => match vs with
  | [.inr (.inr (some (0, 12, p0))), .inl p1, .inl p2, .inl p3, .inl p4] => (qX12_does p0 p1 p2 p3 p4 h).map qm_Gi
  | _ => none
def aX12_does : List (Option (Instr × Nat)) := [some (.iload_n 1, 1), some (.tableswitch 64 0 4 #[35, 44, 44, 52, 59], 35), none, none, none, none, none, none, none, none, none, none, none, none, none, none, none, none, none, none, none, none, none, none, none, none, none, none, none, none, none, none, none, none, none, none, some (.aload_n 0, 1), some (.iload_n 2, 1), some (.iload_n 3, 1), some (.iload 4, 2), none, some (.invokevirtual 338, 3), none, none, some (.ireturn, 1), some (.aload_n 0, 1), some (.iload_n 1, 1), some (.iload_n 2, 1), some (.iload_n 3, 1), some (.invokevirtual 341, 3), none, none, some (.ireturn, 1), some (.aload_n 0, 1), some (.iload_n 2, 1), some (.iload_n 3, 1), some (.invokevirtual 344, 3), none, none, some (.ireturn, 1), some (.aload_n 0, 1), some (.invokevirtual 347, 3), none, none, some (.ireturn, 1), some (.aload_n 0, 1), some (.iload_n 1, 1), some (.iconst 5, 1), some (.if_icmp .ne 7, 3), none, none, some (.iconst 1, 1), some (.goto 4, 3), none, none, some (.iconst 0, 1), some (.invokevirtual 350, 3), none, none, some (.ireturn, 1)]
theorem aX12_does_ok : qm_tabok cX12_does aX12_does = true := by decide +kernel
def mX12_does : qm_M := ((some .boolean), (fun k => qm_lk k pfRX12), (fun k => qm_lk k pcRX12), (fun k => qm_lk k [(350, 0, 2, wX12_soaks), (341, 0, 4, wX12_tends), (338, 0, 4, wX12_comes), (344, 0, 3, wX12_weaves), (347, 0, 1, wX12_winters)]), qm_tab aX12_does)
set_option maxRecDepth 20000 in
set_option maxHeartbeats 2000000 in
theorem rX12_does_76   {xs0 : Int32} {as1 : Nat} {ad0 : Nat} {xd1 : Int32} {xd2 : Int32} {xd3 : Int32} {xd4 : Int32} {h : qm_H} {r : Int32 × qm_H} (ho : qX12_does_76  xs0 as1 h = some r) : qm_Ret mX12_does (76, [some (qm_r 0 12 ad0), some (qm_i xd1), some (qm_i xd2), some (qm_i xd3), some (qm_i xd4)], [qm_i xs0, qm_r 0 12 as1], h) (qm_Gi r) := by
  unfold qX12_does_76 at ho
  obtain ⟨r2, h1, hr, ho⟩ := qm_b2e ho
  refine qm_Ret.call (X := wX12_soaks [qm_r 0 12 as1, qm_i xs0] h) (o1 := (some (qm_i r2), h1)) (qm_mp (G := qm_Gi) hr) rfl ?_
  show qm_Ret _ (79, [some (qm_r 0 12 ad0), some (qm_i xd1), some (qm_i xd2), some (qm_i xd3), some (qm_i xd4)], [qm_i r2], h1) _
  obtain ⟨hz, ho⟩ := qm_if ho
  cases ho
  exact qm_Ret.gr hz rfl
set_option maxRecDepth 20000 in
set_option maxHeartbeats 2000000 in
theorem rX12_does_45   {a0 : Nat} {x1 : Int32} {x2 : Int32} {x3 : Int32} {xd4 : Int32} {h : qm_H} {r : Int32 × qm_H} (ho : qX12_does_45  a0 x1 x2 x3 h = some r) : qm_Ret mX12_does (45, [some (qm_r 0 12 a0), some (qm_i x1), some (qm_i x2), some (qm_i x3), some (qm_i xd4)], [], h) (qm_Gi r) := by
  unfold qX12_does_45 at ho
  refine qm_Ret.sts 4 (f' := (49, [some (qm_r 0 12 a0), some (qm_i x1), some (qm_i x2), some (qm_i x3), some (qm_i xd4)], [qm_i x3, qm_i x2, qm_i x1, qm_r 0 12 a0], h)) rfl ?_
  obtain ⟨r2, h1, hr, ho⟩ := qm_b2e ho
  refine qm_Ret.call (X := wX12_tends [qm_r 0 12 a0, qm_i x1, qm_i x2, qm_i x3] h) (o1 := (some (qm_i r2), h1)) (qm_mp (G := qm_Gi) hr) rfl ?_
  show qm_Ret _ (52, [some (qm_r 0 12 a0), some (qm_i x1), some (qm_i x2), some (qm_i x3), some (qm_i xd4)], [qm_i r2], h1) _
  obtain ⟨hz, ho⟩ := qm_if ho
  cases ho
  exact qm_Ret.gr hz rfl
set_option maxRecDepth 20000 in
set_option maxHeartbeats 2000000 in
theorem rX12_does_0   {a0 : Nat} {x1 : Int32} {x2 : Int32} {x3 : Int32} {x4 : Int32} {h : qm_H} {r : Int32 × qm_H} (ho : qX12_does  a0 x1 x2 x3 x4 h = some r) : qm_Ret mX12_does (0, [some (qm_r 0 12 a0), some (qm_i x1), some (qm_i x2), some (qm_i x3), some (qm_i x4)], [], h) (qm_Gi r) := by
  unfold qX12_does at ho
  refine qm_Ret.sts 1 (f' := (1, [some (qm_r 0 12 a0), some (qm_i x1), some (qm_i x2), some (qm_i x3), some (qm_i x4)], [qm_i x1], h)) rfl ?_
  by_cases hc0 : x1 = (0 : Int32)
  · rw [if_pos hc0] at ho
    refine qm_Ret.sw (z := (0 : Int32)) (f1 := (36, [some (qm_r 0 12 a0), some (qm_i x1), some (qm_i x2), some (qm_i x3), some (qm_i x4)], [], h)) hc0 rfl rfl ?_
    refine qm_Ret.sts 4 (f' := (41, [some (qm_r 0 12 a0), some (qm_i x1), some (qm_i x2), some (qm_i x3), some (qm_i x4)], [qm_i x4, qm_i x3, qm_i x2, qm_r 0 12 a0], h)) rfl ?_
    obtain ⟨r2, h1, hr, ho⟩ := qm_b2e ho
    refine qm_Ret.call (X := wX12_comes [qm_r 0 12 a0, qm_i x2, qm_i x3, qm_i x4] h) (o1 := (some (qm_i r2), h1)) (qm_mp (G := qm_Gi) hr) rfl ?_
    show qm_Ret _ (44, [some (qm_r 0 12 a0), some (qm_i x1), some (qm_i x2), some (qm_i x3), some (qm_i x4)], [qm_i r2], h1) _
    obtain ⟨hz, ho⟩ := qm_if ho
    cases ho
    exact qm_Ret.gr hz rfl
  · rw [if_neg hc0] at ho
    by_cases hc1 : x1 = (1 : Int32)
    · rw [if_pos hc1] at ho
      refine qm_Ret.sw (z := (1 : Int32)) (f1 := (45, [some (qm_r 0 12 a0), some (qm_i x1), some (qm_i x2), some (qm_i x3), some (qm_i x4)], [], h)) hc1 rfl rfl ?_
      exact rX12_does_45 ho
    · rw [if_neg hc1] at ho
      by_cases hc2 : x1 = (2 : Int32)
      · rw [if_pos hc2] at ho
        refine qm_Ret.sw (z := (2 : Int32)) (f1 := (45, [some (qm_r 0 12 a0), some (qm_i x1), some (qm_i x2), some (qm_i x3), some (qm_i x4)], [], h)) hc2 rfl rfl ?_
        exact rX12_does_45 ho
      · rw [if_neg hc2] at ho
        by_cases hc3 : x1 = (3 : Int32)
        · rw [if_pos hc3] at ho
          refine qm_Ret.sw (z := (3 : Int32)) (f1 := (53, [some (qm_r 0 12 a0), some (qm_i x1), some (qm_i x2), some (qm_i x3), some (qm_i x4)], [], h)) hc3 rfl rfl ?_
          refine qm_Ret.sts 3 (f' := (56, [some (qm_r 0 12 a0), some (qm_i x1), some (qm_i x2), some (qm_i x3), some (qm_i x4)], [qm_i x3, qm_i x2, qm_r 0 12 a0], h)) rfl ?_
          obtain ⟨r4, h3, hr, ho⟩ := qm_b2e ho
          refine qm_Ret.call (X := wX12_weaves [qm_r 0 12 a0, qm_i x2, qm_i x3] h) (o1 := (some (qm_i r4), h3)) (qm_mp (G := qm_Gi) hr) rfl ?_
          show qm_Ret _ (59, [some (qm_r 0 12 a0), some (qm_i x1), some (qm_i x2), some (qm_i x3), some (qm_i x4)], [qm_i r4], h3) _
          obtain ⟨hz, ho⟩ := qm_if ho
          cases ho
          exact qm_Ret.gr hz rfl
        · rw [if_neg hc3] at ho
          by_cases hc4 : x1 = (4 : Int32)
          · rw [if_pos hc4] at ho
            refine qm_Ret.sw (z := (4 : Int32)) (f1 := (60, [some (qm_r 0 12 a0), some (qm_i x1), some (qm_i x2), some (qm_i x3), some (qm_i x4)], [], h)) hc4 rfl rfl ?_
            refine qm_Ret.sts 1 (f' := (61, [some (qm_r 0 12 a0), some (qm_i x1), some (qm_i x2), some (qm_i x3), some (qm_i x4)], [qm_r 0 12 a0], h)) rfl ?_
            obtain ⟨r6, h5, hr, ho⟩ := qm_b2e ho
            refine qm_Ret.call (X := wX12_winters [qm_r 0 12 a0] h) (o1 := (some (qm_i r6), h5)) (qm_mp (G := qm_Gi) hr) rfl ?_
            show qm_Ret _ (64, [some (qm_r 0 12 a0), some (qm_i x1), some (qm_i x2), some (qm_i x3), some (qm_i x4)], [qm_i r6], h5) _
            obtain ⟨hz, ho⟩ := qm_if ho
            cases ho
            exact qm_Ret.gr hz rfl
          · rw [if_neg hc4] at ho
            have nhc0 := lv_neT hc0 (show (0 : Int32).toInt = 0 by decide)
            have nhc1 := lv_neT hc1 (show (1 : Int32).toInt = 1 by decide)
            have nhc2 := lv_neT hc2 (show (2 : Int32).toInt = 2 by decide)
            have nhc3 := lv_neT hc3 (show (3 : Int32).toInt = 3 by decide)
            have nhc4 := lv_neT hc4 (show (4 : Int32).toInt = 4 by decide)
            refine qm_Ret.swd (d := 64) (lo := 0) (hi := 4) (pc := 1) (by omega) (by decide) rfl ?_
            show qm_Ret _ (65, [some (qm_r 0 12 a0), some (qm_i x1), some (qm_i x2), some (qm_i x3), some (qm_i x4)], [], h) _
            refine qm_Ret.sts 3 (f' := (68, [some (qm_r 0 12 a0), some (qm_i x1), some (qm_i x2), some (qm_i x3), some (qm_i x4)], [qm_i (5 : Int32), qm_i x1, qm_r 0 12 a0], h)) rfl ?_
            refine qm_Ret.ne (t := 75) (e := 71) rfl (fun hc => ?_) (fun hc => ?_)
            · rw [if_pos hc] at ho
              refine qm_Ret.sts 2 (f' := (76, [some (qm_r 0 12 a0), some (qm_i x1), some (qm_i x2), some (qm_i x3), some (qm_i x4)], [qm_i (1 : Int32), qm_r 0 12 a0], h)) rfl ?_
              exact rX12_does_76 ho
            · rw [if_neg hc] at ho
              refine qm_Ret.sts 1 (f' := (76, [some (qm_r 0 12 a0), some (qm_i x1), some (qm_i x2), some (qm_i x3), some (qm_i x4)], [qm_i (0 : Int32), qm_r 0 12 a0], h)) rfl ?_
              exact rX12_does_76 ho
theorem cX12_does_ok : ∀ q ∈ ([(350, 0, 2, wX12_soaks), (341, 0, 4, wX12_tends), (338, 0, 4, wX12_comes), (344, 0, 3, wX12_weaves), (347, 0, 1, wX12_winters)] : List (Nat × Nat × Nat × qm_C)), qm_CallOK RX12 5 123 q.2.1 q.1 q.2.2.1 q.2.2.2 := List.forall_mem_cons.mpr ⟨Or.inl ⟨yX12_soaks, cX12_soaks, 3, (some .boolean), 0, 0, _, sX12_soaks, ⟨by decide, by decide⟩, ⟨jX12_soaks, kRX12_350, uRX12⟩, ⟨by decide, by decide, rfl⟩, Or.inl ⟨rfl, rfl, iX12_soaks, recvX12_soaks⟩⟩, List.forall_mem_cons.mpr ⟨Or.inl ⟨yX12_tends, cX12_tends, 5, (some .boolean), 0, 0, _, sX12_tends, ⟨by decide, by decide⟩, ⟨jX12_tends, kRX12_341, uRX12⟩, ⟨by decide, by decide, rfl⟩, Or.inl ⟨rfl, rfl, iX12_tends, recvX12_tends⟩⟩, List.forall_mem_cons.mpr ⟨Or.inl ⟨yX12_comes, cX12_comes, 6, (some .boolean), 4, 98, _, sX12_comes, ⟨by decide, by decide⟩, ⟨jX12_comes, kRX12_338, uRX12⟩, ⟨by decide, by decide, rfl⟩, Or.inl ⟨rfl, rfl, iX12_comes, recvX12_comes⟩⟩, List.forall_mem_cons.mpr ⟨Or.inl ⟨yX12_weaves, cX12_weaves, 3, (some .boolean), 1, 21, _, sX12_weaves, ⟨by decide, by decide⟩, ⟨jX12_weaves, kRX12_344, uRX12⟩, ⟨by decide, by decide, rfl⟩, Or.inl ⟨rfl, rfl, iX12_weaves, recvX12_weaves⟩⟩, List.forall_mem_cons.mpr ⟨Or.inl ⟨yX12_winters, cX12_winters, 2, (some .boolean), 1, 21, _, sX12_winters, ⟨by decide, by decide⟩, ⟨jX12_winters, kRX12_347, uRX12⟩, ⟨by decide, by decide, rfl⟩, Or.inl ⟨rfl, rfl, iX12_winters, recvX12_winters⟩⟩, fun _ h => absurd h List.not_mem_nil⟩⟩⟩⟩⟩
theorem sX12_does : qm_Snd yX12_does cX12_does 5 (some .boolean) 5 123 wX12_does := qm_met (fld := fun k => qm_lk k pfRX12) (con := fun k => qm_lk k pcRX12) (call := fun k => qm_lk k [(350, 0, 2, wX12_soaks), (341, 0, 4, wX12_tends), (338, 0, 4, wX12_comes), (344, 0, 3, wX12_weaves), (347, 0, 1, wX12_winters)]) (tab := qm_tab aX12_does) (plainFor_of_name (by decide)) (qm_fld_ok pfRX12_ok) (qm_con_ok pcRX12_ok) (fun idx kd n f hc => cX12_does_ok (idx, kd, n, f) (qm_lk_mem hc)) (qm_tab_ok aX12_does_ok) (fun vs h o hw => by
  unfold wX12_does at hw
  split at hw
  · obtain ⟨r, hr, rfl⟩ := Option.map_eq_some_iff.mp hw
    exact ⟨Nat.le_of_ble_eq_true rfl, rX12_does_0 (hr)⟩
  · cases hw)
theorem recvX12_does : ∀ vs h o, wX12_does vs h = some o → ∃ ci a rest, vs = qm_r 0 ci a :: rest ∧ qm_R ci = yX12_does.cls := by
  intro vs h o hw
  unfold wX12_does at hw
  split at hw
  · exact ⟨_, _, _, rfl, rfl⟩
  · cases hw
-- RX12 doesDeed(I)Z
theorem jX12_doesDeed : Jvm.Cond.code yX12_doesDeed cX12_doesDeed 2 (some .boolean) ∈ qm_all := List.mem_filter.mpr ⟨by decide +kernel, rfl⟩
theorem iX12_doesDeed : Jvm.Cond.instanceMethod yX12_doesDeed ∈ qm_all ∧ Jvm.Cond.selects yX12_doesDeed.cls yX12_doesDeed yX12_doesDeed ∈ qm_all := ⟨List.mem_filter.mpr ⟨by decide +kernel, rfl⟩, List.mem_filter.mpr ⟨by decide +kernel, rfl⟩⟩
def wX12_doesDeed : qm_C := fun vs h => match vs with
  | [.inr (.inr (some (0, 12, p0))), .inl p1] => (qX12_doesDeed p0 p1 h).map qm_Gi
  | _ => none
def aX12_doesDeed : List (Option (Instr × Nat)) := [some (.aload_n 0, 1), some (.aload_n 0, 1), some (.iload_n 1, 1), some (.iconst 0, 1), some (.invokevirtual 332, 3), none, none, some (.aload_n 0, 1), some (.iload_n 1, 1), some (.iconst 1, 1), some (.invokevirtual 332, 3), none, none, some (.aload_n 0, 1), some (.iload_n 1, 1), some (.iconst 2, 1), some (.invokevirtual 332, 3), none, none, some (.aload_n 0, 1), some (.iload_n 1, 1), some (.iconst 3, 1), some (.invokevirtual 332, 3), none, none, some (.invokevirtual 353, 3), none, none, some (.ireturn, 1)]
theorem aX12_doesDeed_ok : qm_tabok cX12_doesDeed aX12_doesDeed = true := by decide +kernel
def mX12_doesDeed : qm_M := ((some .boolean), (fun k => qm_lk k pfRX12), (fun k => qm_lk k pcRX12), (fun k => qm_lk k [(332, 0, 3, wX12_deedOf), (353, 0, 5, wX12_does)]), qm_tab aX12_doesDeed)
set_option maxRecDepth 20000 in
set_option maxHeartbeats 2000000 in
theorem rX12_doesDeed_0   {a0 : Nat} {x1 : Int32} {h : qm_H} {r : Int32 × qm_H} (ho : qX12_doesDeed  a0 x1 h = some r) : qm_Ret mX12_doesDeed (0, [some (qm_r 0 12 a0), some (qm_i x1)], [], h) (qm_Gi r) := by
  unfold qX12_doesDeed at ho
  refine qm_Ret.sts 4 (f' := (4, [some (qm_r 0 12 a0), some (qm_i x1)], [qm_i (0 : Int32), qm_i x1, qm_r 0 12 a0, qm_r 0 12 a0], h)) rfl ?_
  obtain ⟨r2, h1, hr, ho⟩ := qm_b2e ho
  refine qm_Ret.call (X := wX12_deedOf [qm_r 0 12 a0, qm_i x1, qm_i (0 : Int32)] h) (o1 := (some (qm_i r2), h1)) (qm_mp (G := qm_Gi) hr) rfl ?_
  show qm_Ret _ (7, [some (qm_r 0 12 a0), some (qm_i x1)], [qm_i r2, qm_r 0 12 a0], h1) _
  refine qm_Ret.sts 3 (f' := (10, [some (qm_r 0 12 a0), some (qm_i x1)], [qm_i (1 : Int32), qm_i x1, qm_r 0 12 a0, qm_i r2, qm_r 0 12 a0], h1)) rfl ?_
  obtain ⟨r4, h3, hr, ho⟩ := qm_b2e ho
  refine qm_Ret.call (X := wX12_deedOf [qm_r 0 12 a0, qm_i x1, qm_i (1 : Int32)] h1) (o1 := (some (qm_i r4), h3)) (qm_mp (G := qm_Gi) hr) rfl ?_
  show qm_Ret _ (13, [some (qm_r 0 12 a0), some (qm_i x1)], [qm_i r4, qm_i r2, qm_r 0 12 a0], h3) _
  refine qm_Ret.sts 3 (f' := (16, [some (qm_r 0 12 a0), some (qm_i x1)], [qm_i (2 : Int32), qm_i x1, qm_r 0 12 a0, qm_i r4, qm_i r2, qm_r 0 12 a0], h3)) rfl ?_
  obtain ⟨r6, h5, hr, ho⟩ := qm_b2e ho
  refine qm_Ret.call (X := wX12_deedOf [qm_r 0 12 a0, qm_i x1, qm_i (2 : Int32)] h3) (o1 := (some (qm_i r6), h5)) (qm_mp (G := qm_Gi) hr) rfl ?_
  show qm_Ret _ (19, [some (qm_r 0 12 a0), some (qm_i x1)], [qm_i r6, qm_i r4, qm_i r2, qm_r 0 12 a0], h5) _
  refine qm_Ret.sts 3 (f' := (22, [some (qm_r 0 12 a0), some (qm_i x1)], [qm_i (3 : Int32), qm_i x1, qm_r 0 12 a0, qm_i r6, qm_i r4, qm_i r2, qm_r 0 12 a0], h5)) rfl ?_
  obtain ⟨r8, h7, hr, ho⟩ := qm_b2e ho
  refine qm_Ret.call (X := wX12_deedOf [qm_r 0 12 a0, qm_i x1, qm_i (3 : Int32)] h5) (o1 := (some (qm_i r8), h7)) (qm_mp (G := qm_Gi) hr) rfl ?_
  show qm_Ret _ (25, [some (qm_r 0 12 a0), some (qm_i x1)], [qm_i r8, qm_i r6, qm_i r4, qm_i r2, qm_r 0 12 a0], h7) _
  obtain ⟨r10, h9, hr, ho⟩ := qm_b2e ho
  refine qm_Ret.call (X := wX12_does [qm_r 0 12 a0, qm_i r2, qm_i r4, qm_i r6, qm_i r8] h7) (o1 := (some (qm_i r10), h9)) (qm_mp (G := qm_Gi) hr) rfl ?_
  show qm_Ret _ (28, [some (qm_r 0 12 a0), some (qm_i x1)], [qm_i r10], h9) _
  obtain ⟨hz, ho⟩ := qm_if ho
  cases ho
  exact qm_Ret.gr hz rfl
theorem cX12_doesDeed_ok : ∀ q ∈ ([(332, 0, 3, wX12_deedOf), (353, 0, 5, wX12_does)] : List (Nat × Nat × Nat × qm_C)), qm_CallOK RX12 6 147 q.2.1 q.1 q.2.2.1 q.2.2.2 := List.forall_mem_cons.mpr ⟨Or.inl ⟨yX12_deedOf, cX12_deedOf, 3, (some .int), 0, 0, _, sX12_deedOf, ⟨by decide, by decide⟩, ⟨jX12_deedOf, kRX12_332, uRX12⟩, ⟨by decide, by decide, rfl⟩, Or.inl ⟨rfl, rfl, iX12_deedOf, recvX12_deedOf⟩⟩, List.forall_mem_cons.mpr ⟨Or.inl ⟨yX12_does, cX12_does, 5, (some .boolean), 5, 123, _, sX12_does, ⟨by decide, by decide⟩, ⟨jX12_does, kRX12_353, uRX12⟩, ⟨by decide, by decide, rfl⟩, Or.inl ⟨rfl, rfl, iX12_does, recvX12_does⟩⟩, fun _ h => absurd h List.not_mem_nil⟩⟩
theorem sX12_doesDeed : qm_Snd yX12_doesDeed cX12_doesDeed 2 (some .boolean) 6 147 wX12_doesDeed := qm_met (fld := fun k => qm_lk k pfRX12) (con := fun k => qm_lk k pcRX12) (call := fun k => qm_lk k [(332, 0, 3, wX12_deedOf), (353, 0, 5, wX12_does)]) (tab := qm_tab aX12_doesDeed) (plainFor_of_name (by decide)) (qm_fld_ok pfRX12_ok) (qm_con_ok pcRX12_ok) (fun idx kd n f hc => cX12_doesDeed_ok (idx, kd, n, f) (qm_lk_mem hc)) (qm_tab_ok aX12_doesDeed_ok) (fun vs h o hw => by
  unfold wX12_doesDeed at hw
  split at hw
  · obtain ⟨r, hr, rfl⟩ := Option.map_eq_some_iff.mp hw
    exact ⟨Nat.le_of_ble_eq_true rfl, rX12_doesDeed_0 (hr)⟩
  · cases hw)
theorem recvX12_doesDeed : ∀ vs h o, wX12_doesDeed vs h = some o → ∃ ci a rest, vs = qm_r 0 ci a :: rest ∧ qm_R ci = yX12_doesDeed.cls := by
  intro vs h o hw
  unfold wX12_doesDeed at hw
  split at hw
  · exact ⟨_, _, _, rfl, rfl⟩
  · cases hw
-- RX12 play(I)I
theorem jX12_play : Jvm.Cond.code yX12_play cX12_play 3 (some .int) ∈ qm_all := List.mem_filter.mpr ⟨by decide +kernel, rfl⟩
theorem iX12_play : Jvm.Cond.instanceMethod yX12_play ∈ qm_all ∧ Jvm.Cond.selects yX12_play.cls yX12_play yX12_play ∈ qm_all := ⟨List.mem_filter.mpr ⟨by decide +kernel, rfl⟩, List.mem_filter.mpr ⟨by decide +kernel, rfl⟩⟩
def wX12_play : qm_C := fun vs h => match vs with
  | [.inr (.inr (some (0, 12, p0))), .inl p1] => (qX12_play p0 p1 h).map qm_Gi
  | _ => none
def aX12_play : List (Option (Instr × Nat)) := [some (.aload_n 0, 1), some (.invokevirtual 357, 3), none, none, some (.iconst 0, 1), some (.istore_n 2, 1), some (.iload_n 2, 1), some (.iload_n 1, 1), some (.if_icmp .ge 17, 3), none, none, some (.aload_n 0, 1), some (.iload_n 2, 1), some (.invokevirtual 360, 3), none, none, some (.ifCond .eq 9, 3), none, none, some (.iinc 2 1, 3), none, none, some (.goto (-16), 3), none, none, some (.iload_n 2, 1), some (.ireturn, 1)]
theorem aX12_play_ok : qm_tabok cX12_play aX12_play = true := by decide +kernel
def mX12_play : qm_M := ((some .int), (fun k => qm_lk k pfRX12), (fun k => qm_lk k pcRX12), (fun k => qm_lk k [(360, 0, 2, wX12_doesDeed), (357, 0, 1, wX12_begin)]), qm_tab aX12_play)
set_option maxRecDepth 20000 in
set_option maxHeartbeats 2000000 in
theorem rX12_play_6   : ∀ {fuel : Nat} {a0 : Nat} {x1 : Int32} {x2 : Int32} {h : qm_H} {r : Int32 × qm_H}, qX12_play_6  fuel a0 x1 x2 h = some r → qm_Ret mX12_play (6, [some (qm_r 0 12 a0), some (qm_i x1), some (qm_i x2)], [], h) (qm_Gi r) := by
  intro fuel
  induction fuel with
  | zero => intros; rename_i ho; cases ho
  | succ n ih =>
    intro a0 x1 x2 h r ho
    unfold qX12_play_6 at ho
    refine qm_Ret.sts 2 (f' := (8, [some (qm_r 0 12 a0), some (qm_i x1), some (qm_i x2)], [qm_i x1, qm_i x2], h)) rfl ?_
    refine qm_Ret.ge (t := 25) (e := 11) rfl (fun hc => ?_) (fun hc => ?_)
    · rw [if_pos hc] at ho
      refine qm_Ret.sts 2 (f' := (13, [some (qm_r 0 12 a0), some (qm_i x1), some (qm_i x2)], [qm_i x2, qm_r 0 12 a0], h)) rfl ?_
      obtain ⟨r2, h1, hr, ho⟩ := qm_b2e ho
      refine qm_Ret.call (X := wX12_doesDeed [qm_r 0 12 a0, qm_i x2] h) (o1 := (some (qm_i r2), h1)) (qm_mp (G := qm_Gi) hr) rfl ?_
      show qm_Ret _ (16, [some (qm_r 0 12 a0), some (qm_i x1), some (qm_i x2)], [qm_i r2], h1) _
      refine qm_Ret.eq (t := 25) (e := 19) rfl (fun hc => ?_) (fun hc => ?_)
      · rw [if_pos hc] at ho
        cases ho
        exact qm_Ret.ret 2 rfl
      · rw [if_neg hc] at ho
        refine qm_Ret.sts 2 (f' := (6, [some (qm_r 0 12 a0), some (qm_i x1), some (qm_i (x2 + (1 : Int32)))], [], h1)) rfl ?_
        exact ih ho
    · rw [if_neg hc] at ho
      cases ho
      exact qm_Ret.ret 2 rfl
set_option maxRecDepth 20000 in
set_option maxHeartbeats 2000000 in
theorem rX12_play_0   {a0 : Nat} {x1 : Int32} {h : qm_H} {r : Int32 × qm_H} (ho : qX12_play  a0 x1 h = some r) : qm_Ret mX12_play (0, [some (qm_r 0 12 a0), some (qm_i x1), none], [], h) (qm_Gi r) := by
  unfold qX12_play at ho
  refine qm_Ret.sts 1 (f' := (1, [some (qm_r 0 12 a0), some (qm_i x1), none], [qm_r 0 12 a0], h)) rfl ?_
  obtain ⟨h1, hr, ho⟩ := qm_bd ho
  refine qm_Ret.call (X := wX12_begin [qm_r 0 12 a0] h) (o1 := (none, h1)) (qm_mp (G := qm_Gv) hr) rfl ?_
  show qm_Ret _ (4, [some (qm_r 0 12 a0), some (qm_i x1), none], [], h1) _
  refine qm_Ret.sts 2 (f' := (6, [some (qm_r 0 12 a0), some (qm_i x1), some (qm_i (0 : Int32))], [], h1)) rfl ?_
  exact rX12_play_6 ho
theorem cX12_play_ok : ∀ q ∈ ([(360, 0, 2, wX12_doesDeed), (357, 0, 1, wX12_begin)] : List (Nat × Nat × Nat × qm_C)), qm_CallOK RX12 7 168 q.2.1 q.1 q.2.2.1 q.2.2.2 := List.forall_mem_cons.mpr ⟨Or.inl ⟨yX12_doesDeed, cX12_doesDeed, 2, (some .boolean), 6, 147, _, sX12_doesDeed, ⟨by decide, by decide⟩, ⟨jX12_doesDeed, kRX12_360, uRX12⟩, ⟨by decide, by decide, rfl⟩, Or.inl ⟨rfl, rfl, iX12_doesDeed, recvX12_doesDeed⟩⟩, List.forall_mem_cons.mpr ⟨Or.inl ⟨yX12_begin, cX12_begin, 2, none, 0, 0, _, sX12_begin, ⟨by decide, by decide⟩, ⟨jX12_begin, kRX12_357, uRX12⟩, ⟨by decide, by decide, rfl⟩, Or.inl ⟨rfl, rfl, iX12_begin, recvX12_begin⟩⟩, fun _ h => absurd h List.not_mem_nil⟩⟩
theorem sX12_play : qm_Snd yX12_play cX12_play 3 (some .int) 7 168 wX12_play := qm_met (fld := fun k => qm_lk k pfRX12) (con := fun k => qm_lk k pcRX12) (call := fun k => qm_lk k [(360, 0, 2, wX12_doesDeed), (357, 0, 1, wX12_begin)]) (tab := qm_tab aX12_play) (plainFor_of_name (by decide)) (qm_fld_ok pfRX12_ok) (qm_con_ok pcRX12_ok) (fun idx kd n f hc => cX12_play_ok (idx, kd, n, f) (qm_lk_mem hc)) (qm_tab_ok aX12_play_ok) (fun vs h o hw => by
  unfold wX12_play at hw
  split at hw
  · obtain ⟨r, hr, rfl⟩ := Option.map_eq_some_iff.mp hw
    exact ⟨Nat.le_of_ble_eq_true rfl, rX12_play_0 (hr)⟩
  · cases hw)
theorem recvX12_play : ∀ vs h o, wX12_play vs h = some o → ∃ ci a rest, vs = qm_r 0 ci a :: rest ∧ qm_R ci = yX12_play.cls := by
  intro vs h o hw
  unfold wX12_play at hw
  split at hw
  · exact ⟨_, _, _, rfl, rfl⟩
  · cases hw
-- RX12 layAll(II)Z
theorem jX12_layAll : Jvm.Cond.code yX12_layAll cX12_layAll 3 (some .boolean) ∈ qm_all := List.mem_filter.mpr ⟨by decide +kernel, rfl⟩
theorem iX12_layAll : Jvm.Cond.instanceMethod yX12_layAll ∈ qm_all ∧ Jvm.Cond.selects yX12_layAll.cls yX12_layAll yX12_layAll ∈ qm_all := ⟨List.mem_filter.mpr ⟨by decide +kernel, rfl⟩, List.mem_filter.mpr ⟨by decide +kernel, rfl⟩⟩
def wX12_layAll : qm_C := fun vs h => match vs with
  | [.inr (.inr (some (0, 12, p0))), .inl p1, .inl p2] => (qX12_layAll p0 p1 p2 h).map qm_Gi
  | _ => none
def aX12_layAll : List (Option (Instr × Nat)) := [some (.aload_n 0, 1), some (.iload_n 2, 1), some (.invokevirtual 326, 3), none, none, some (.ifCond .eq 15, 3), none, none, some (.aload_n 0, 1), some (.iload_n 1, 1), some (.invokevirtual 301, 3), none, none, some (.ifCond .eq 7, 3), none, none, some (.iconst 1, 1), some (.goto 4, 3), none, none, some (.iconst 0, 1), some (.ireturn, 1)]
theorem aX12_layAll_ok : qm_tabok cX12_layAll aX12_layAll = true := by decide +kernel
def mX12_layAll : qm_M := ((some .boolean), (fun k => qm_lk k pfRX12), (fun k => qm_lk k pcRX12), (fun k => qm_lk k [(326, 0, 2, wX12_hasYear), (301, 0, 2, wX12_hand)]), qm_tab aX12_layAll)
set_option maxRecDepth 20000 in
set_option maxHeartbeats 2000000 in
theorem rX12_layAll_0   {a0 : Nat} {x1 : Int32} {x2 : Int32} {h : qm_H} {r : Int32 × qm_H} (ho : qX12_layAll  a0 x1 x2 h = some r) : qm_Ret mX12_layAll (0, [some (qm_r 0 12 a0), some (qm_i x1), some (qm_i x2)], [], h) (qm_Gi r) := by
  unfold qX12_layAll at ho
  refine qm_Ret.sts 2 (f' := (2, [some (qm_r 0 12 a0), some (qm_i x1), some (qm_i x2)], [qm_i x2, qm_r 0 12 a0], h)) rfl ?_
  obtain ⟨r2, h1, hr, ho⟩ := qm_b2e ho
  refine qm_Ret.call (X := wX12_hasYear [qm_r 0 12 a0, qm_i x2] h) (o1 := (some (qm_i r2), h1)) (qm_mp (G := qm_Gi) hr) rfl ?_
  show qm_Ret _ (5, [some (qm_r 0 12 a0), some (qm_i x1), some (qm_i x2)], [qm_i r2], h1) _
  refine qm_Ret.eq (t := 20) (e := 8) rfl (fun hc => ?_) (fun hc => ?_)
  · rw [if_pos hc] at ho
    cases ho
    exact qm_Ret.ret 2 rfl
  · rw [if_neg hc] at ho
    refine qm_Ret.sts 2 (f' := (10, [some (qm_r 0 12 a0), some (qm_i x1), some (qm_i x2)], [qm_i x1, qm_r 0 12 a0], h1)) rfl ?_
    obtain ⟨r4, h3, hr, ho⟩ := qm_b2e ho
    refine qm_Ret.call (X := wX12_hand [qm_r 0 12 a0, qm_i x1] h1) (o1 := (some (qm_i r4), h3)) (qm_mp (G := qm_Gi) hr) rfl ?_
    show qm_Ret _ (13, [some (qm_r 0 12 a0), some (qm_i x1), some (qm_i x2)], [qm_i r4], h3) _
    refine qm_Ret.eq (t := 20) (e := 16) rfl (fun hc => ?_) (fun hc => ?_)
    · rw [if_pos hc] at ho
      cases ho
      exact qm_Ret.ret 2 rfl
    · rw [if_neg hc] at ho
      cases ho
      exact qm_Ret.ret 3 rfl
theorem cX12_layAll_ok : ∀ q ∈ ([(326, 0, 2, wX12_hasYear), (301, 0, 2, wX12_hand)] : List (Nat × Nat × Nat × qm_C)), qm_CallOK RX12 3 66 q.2.1 q.1 q.2.2.1 q.2.2.2 := List.forall_mem_cons.mpr ⟨Or.inl ⟨yX12_hasYear, cX12_hasYear, 2, (some .boolean), 2, 44, _, sX12_hasYear, ⟨by decide, by decide⟩, ⟨jX12_hasYear, kRX12_326, uRX12⟩, ⟨by decide, by decide, rfl⟩, Or.inl ⟨rfl, rfl, iX12_hasYear, recvX12_hasYear⟩⟩, List.forall_mem_cons.mpr ⟨Or.inl ⟨yX12_hand, cX12_hand, 3, (some .boolean), 2, 44, _, sX12_hand, ⟨by decide, by decide⟩, ⟨jX12_hand, kRX12_301, uRX12⟩, ⟨by decide, by decide, rfl⟩, Or.inl ⟨rfl, rfl, iX12_hand, recvX12_hand⟩⟩, fun _ h => absurd h List.not_mem_nil⟩⟩
theorem sX12_layAll : qm_Snd yX12_layAll cX12_layAll 3 (some .boolean) 3 66 wX12_layAll := qm_met (fld := fun k => qm_lk k pfRX12) (con := fun k => qm_lk k pcRX12) (call := fun k => qm_lk k [(326, 0, 2, wX12_hasYear), (301, 0, 2, wX12_hand)]) (tab := qm_tab aX12_layAll) (plainFor_of_name (by decide)) (qm_fld_ok pfRX12_ok) (qm_con_ok pcRX12_ok) (fun idx kd n f hc => cX12_layAll_ok (idx, kd, n, f) (qm_lk_mem hc)) (qm_tab_ok aX12_layAll_ok) (fun vs h o hw => by
  unfold wX12_layAll at hw
  split at hw
  · obtain ⟨r, hr, rfl⟩ := Option.map_eq_some_iff.mp hw
    exact ⟨Nat.le_of_ble_eq_true rfl, rX12_layAll_0 (hr)⟩
  · cases hw)
theorem recvX12_layAll : ∀ vs h o, wX12_layAll vs h = some o → ∃ ci a rest, vs = qm_r 0 ci a :: rest ∧ qm_R ci = yX12_layAll.cls := by
  intro vs h o hw
  unfold wX12_layAll at hw
  split at hw
  · exact ⟨_, _, _, rfl, rfl⟩
  · cases hw
-- RX12 till(II)I
theorem jX12_till : Jvm.Cond.code yX12_till cX12_till 3 (some .int) ∈ qm_all := List.mem_filter.mpr ⟨by decide +kernel, rfl⟩
theorem iX12_till : Jvm.Cond.instanceMethod yX12_till ∈ qm_all ∧ Jvm.Cond.selects yX12_till.cls yX12_till yX12_till ∈ qm_all := ⟨List.mem_filter.mpr ⟨by decide +kernel, rfl⟩, List.mem_filter.mpr ⟨by decide +kernel, rfl⟩⟩
def wX12_till : qm_C := fun vs h => match vs with
  | [.inr (.inr (some (0, 12, p0))), .inl p1, .inl p2] => (qX12_till p0 p1 p2 h).map qm_Gi
  | _ => none
def aX12_till : List (Option (Instr × Nat)) := [some (.aload_n 0, 1), some (.iconst 0, 1), some (.putfield 88, 3), none, none, some (.aload_n 0, 1), some (.iload_n 1, 1), some (.iload_n 2, 1), some (.invokevirtual 363, 3), none, none, some (.ifCond .eq 14, 3), none, none, some (.aload_n 0, 1), some (.aload_n 0, 1), some (.invokevirtual 329, 3), none, none, some (.invokevirtual 366, 3), none, none, some (.goto 4, 3), none, none, some (.iconst (-1), 1), some (.ireturn, 1)]
theorem aX12_till_ok : qm_tabok cX12_till aX12_till = true := by decide +kernel
def mX12_till : qm_M := ((some .int), (fun k => qm_lk k pfRX12), (fun k => qm_lk k pcRX12), (fun k => qm_lk k [(363, 0, 3, wX12_layAll), (329, 0, 1, wX12_deeds), (366, 0, 2, wX12_play)]), qm_tab aX12_till)
set_option maxRecDepth 20000 in
set_option maxHeartbeats 2000000 in
theorem rX12_till_0   {a0 : Nat} {x1 : Int32} {x2 : Int32} {h : qm_H} {r : Int32 × qm_H} (ho : qX12_till  a0 x1 x2 h = some r) : qm_Ret mX12_till (0, [some (qm_r 0 12 a0), some (qm_i x1), some (qm_i x2)], [], h) (qm_Gi r) := by
  unfold qX12_till at ho
  refine qm_Ret.sts 3 (f' := (5, [some (qm_r 0 12 a0), some (qm_i x1), some (qm_i x2)], [], (qm_seti h a0 0 (0 : Int32)))) rfl ?_
  refine qm_Ret.lets (F := fun h1 => (5, [some (qm_r 0 12 a0), some (qm_i x1), some (qm_i x2)], [], h1)) (G := qm_Gi) ho (fun h1 ho => ?_)
  refine qm_Ret.sts 3 (f' := (8, [some (qm_r 0 12 a0), some (qm_i x1), some (qm_i x2)], [qm_i x2, qm_i x1, qm_r 0 12 a0], h1)) rfl ?_
  obtain ⟨r3, h2, hr, ho⟩ := qm_b2e ho
  refine qm_Ret.call (X := wX12_layAll [qm_r 0 12 a0, qm_i x1, qm_i x2] h1) (o1 := (some (qm_i r3), h2)) (qm_mp (G := qm_Gi) hr) rfl ?_
  show qm_Ret _ (11, [some (qm_r 0 12 a0), some (qm_i x1), some (qm_i x2)], [qm_i r3], h2) _
  refine qm_Ret.eq (t := 25) (e := 14) rfl (fun hc => ?_) (fun hc => ?_)
  · rw [if_pos hc] at ho
    cases ho
    exact qm_Ret.ret 2 rfl
  · rw [if_neg hc] at ho
    refine qm_Ret.sts 2 (f' := (16, [some (qm_r 0 12 a0), some (qm_i x1), some (qm_i x2)], [qm_r 0 12 a0, qm_r 0 12 a0], h2)) rfl ?_
    obtain ⟨r5, h4, hr, ho⟩ := qm_b2e ho
    refine qm_Ret.call (X := wX12_deeds [qm_r 0 12 a0] h2) (o1 := (some (qm_i r5), h4)) (qm_mp (G := qm_Gi) hr) rfl ?_
    show qm_Ret _ (19, [some (qm_r 0 12 a0), some (qm_i x1), some (qm_i x2)], [qm_i r5, qm_r 0 12 a0], h4) _
    obtain ⟨r7, h6, hr, ho⟩ := qm_b2e ho
    refine qm_Ret.call (X := wX12_play [qm_r 0 12 a0, qm_i r5] h4) (o1 := (some (qm_i r7), h6)) (qm_mp (G := qm_Gi) hr) rfl ?_
    show qm_Ret _ (22, [some (qm_r 0 12 a0), some (qm_i x1), some (qm_i x2)], [qm_i r7], h6) _
    cases ho
    exact qm_Ret.ret 2 rfl
theorem cX12_till_ok : ∀ q ∈ ([(363, 0, 3, wX12_layAll), (329, 0, 1, wX12_deeds), (366, 0, 2, wX12_play)] : List (Nat × Nat × Nat × qm_C)), qm_CallOK RX12 8 190 q.2.1 q.1 q.2.2.1 q.2.2.2 := List.forall_mem_cons.mpr ⟨Or.inl ⟨yX12_layAll, cX12_layAll, 3, (some .boolean), 3, 66, _, sX12_layAll, ⟨by decide, by decide⟩, ⟨jX12_layAll, kRX12_363, uRX12⟩, ⟨by decide, by decide, rfl⟩, Or.inl ⟨rfl, rfl, iX12_layAll, recvX12_layAll⟩⟩, List.forall_mem_cons.mpr ⟨Or.inl ⟨yX12_deeds, cX12_deeds, 1, (some .int), 0, 0, _, sX12_deeds, ⟨by decide, by decide⟩, ⟨jX12_deeds, kRX12_329, uRX12⟩, ⟨by decide, by decide, rfl⟩, Or.inl ⟨rfl, rfl, iX12_deeds, recvX12_deeds⟩⟩, List.forall_mem_cons.mpr ⟨Or.inl ⟨yX12_play, cX12_play, 3, (some .int), 7, 168, _, sX12_play, ⟨by decide, by decide⟩, ⟨jX12_play, kRX12_366, uRX12⟩, ⟨by decide, by decide, rfl⟩, Or.inl ⟨rfl, rfl, iX12_play, recvX12_play⟩⟩, fun _ h => absurd h List.not_mem_nil⟩⟩⟩
theorem sX12_till : qm_Snd yX12_till cX12_till 3 (some .int) 8 190 wX12_till := qm_met (fld := fun k => qm_lk k pfRX12) (con := fun k => qm_lk k pcRX12) (call := fun k => qm_lk k [(363, 0, 3, wX12_layAll), (329, 0, 1, wX12_deeds), (366, 0, 2, wX12_play)]) (tab := qm_tab aX12_till) (plainFor_of_name (by decide)) (qm_fld_ok pfRX12_ok) (qm_con_ok pcRX12_ok) (fun idx kd n f hc => cX12_till_ok (idx, kd, n, f) (qm_lk_mem hc)) (qm_tab_ok aX12_till_ok) (fun vs h o hw => by
  unfold wX12_till at hw
  split at hw
  · obtain ⟨r, hr, rfl⟩ := Option.map_eq_some_iff.mp hw
    exact ⟨Nat.le_of_ble_eq_true rfl, rX12_till_0 (hr)⟩
  · cases hw)
theorem recvX12_till : ∀ vs h o, wX12_till vs h = some o → ∃ ci a rest, vs = qm_r 0 ci a :: rest ∧ qm_R ci = yX12_till.cls := by
  intro vs h o hw
  unfold wX12_till at hw
  split at hw
  · exact ⟨_, _, _, rfl, rfl⟩
  · cases hw
-- RX12 allStrength()I
theorem jX12_allStrength : Jvm.Cond.code yX12_allStrength cX12_allStrength 3 (some .int) ∈ qm_all := List.mem_filter.mpr ⟨by decide +kernel, rfl⟩
theorem iX12_allStrength : Jvm.Cond.instanceMethod yX12_allStrength ∈ qm_all ∧ Jvm.Cond.selects yX12_allStrength.cls yX12_allStrength yX12_allStrength ∈ qm_all := ⟨List.mem_filter.mpr ⟨by decide +kernel, rfl⟩, List.mem_filter.mpr ⟨by decide +kernel, rfl⟩⟩
def wX12_allStrength : qm_C := fun vs h => match vs with
  | [.inr (.inr (some (0, 12, p0)))] => (qX12_allStrength p0 h).map qm_Gi
  | _ => none
def aX12_allStrength : List (Option (Instr × Nat)) := [some (.iconst 0, 1), some (.istore_n 1, 1), some (.iconst 0, 1), some (.istore_n 2, 1), some (.iload_n 2, 1), some (.aload_n 0, 1), some (.getfield 279, 3), none, none, some (.if_icmp .ge 29, 3), none, none, some (.iload_n 1, 1), some (.aload_n 0, 1), some (.iload_n 2, 1), some (.invokevirtual 288, 3), none, none, some (.ifCond .eq 7, 3), none, none, some (.iconst 0, 1), some (.goto 8, 3), none, none, some (.aload_n 0, 1), some (.iload_n 2, 1), some (.invokevirtual 291, 3), none, none, some (.iadd, 1), some (.istore_n 1, 1), some (.iinc 2 1, 3), none, none, some (.goto (-31), 3), none, none, some (.iload_n 1, 1), some (.ireturn, 1)]
theorem aX12_allStrength_ok : qm_tabok cX12_allStrength aX12_allStrength = true := by decide +kernel
def mX12_allStrength : qm_M := ((some .int), (fun k => qm_lk k pfRX12), (fun k => qm_lk k pcRX12), (fun k => qm_lk k [(288, 0, 2, wX12_isOpen), (291, 0, 2, wX12_strength)]), qm_tab aX12_allStrength)
set_option maxRecDepth 20000 in
set_option maxHeartbeats 2000000 in
theorem rX12_allStrength_4   : ∀ {fuel : Nat} {a0 : Nat} {x1 : Int32} {x2 : Int32} {h : qm_H} {r : Int32 × qm_H}, qX12_allStrength_4  fuel a0 x1 x2 h = some r → qm_Ret mX12_allStrength (4, [some (qm_r 0 12 a0), some (qm_i x1), some (qm_i x2)], [], h) (qm_Gi r) := by
  intro fuel
  induction fuel with
  | zero => intros; rename_i ho; cases ho
  | succ n ih =>
    intro a0 x1 x2 h r ho
    unfold qX12_allStrength_4 at ho
    refine qm_Ret.sts 3 (f' := (9, [some (qm_r 0 12 a0), some (qm_i x1), some (qm_i x2)], [qm_i (h.1 a0 27), qm_i x2], h)) rfl ?_
    refine qm_Ret.ge (t := 38) (e := 12) rfl (fun hc => ?_) (fun hc => ?_)
    · rw [if_pos hc] at ho
      refine qm_Ret.sts 3 (f' := (15, [some (qm_r 0 12 a0), some (qm_i x1), some (qm_i x2)], [qm_i x2, qm_r 0 12 a0, qm_i x1], h)) rfl ?_
      obtain ⟨r2, h1, hr, ho⟩ := qm_b2e ho
      refine qm_Ret.call (X := wX12_isOpen [qm_r 0 12 a0, qm_i x2] h) (o1 := (some (qm_i r2), h1)) (qm_mp (G := qm_Gi) hr) rfl ?_
      show qm_Ret _ (18, [some (qm_r 0 12 a0), some (qm_i x1), some (qm_i x2)], [qm_i r2, qm_i x1], h1) _
      refine qm_Ret.eq (t := 25) (e := 21) rfl (fun hc => ?_) (fun hc => ?_)
      · rw [if_pos hc] at ho
        refine qm_Ret.sts 2 (f' := (27, [some (qm_r 0 12 a0), some (qm_i x1), some (qm_i x2)], [qm_i x2, qm_r 0 12 a0, qm_i x1], h1)) rfl ?_
        obtain ⟨r4, h3, hr, ho⟩ := qm_b2e ho
        refine qm_Ret.call (X := wX12_strength [qm_r 0 12 a0, qm_i x2] h1) (o1 := (some (qm_i r4), h3)) (qm_mp (G := qm_Gi) hr) rfl ?_
        show qm_Ret _ (30, [some (qm_r 0 12 a0), some (qm_i x1), some (qm_i x2)], [qm_i r4, qm_i x1], h3) _
        refine qm_Ret.sts 4 (f' := (4, [some (qm_r 0 12 a0), some (qm_i (x1 + r4)), some (qm_i (x2 + (1 : Int32)))], [], h3)) rfl ?_
        exact ih ho
      · rw [if_neg hc] at ho
        refine qm_Ret.sts 3 (f' := (31, [some (qm_r 0 12 a0), some (qm_i x1), some (qm_i x2)], [qm_i (x1 + (0 : Int32))], h1)) rfl ?_
        refine qm_Ret.lets (F := fun v5 => (31, [some (qm_r 0 12 a0), some (qm_i x1), some (qm_i x2)], [qm_i v5], h1)) (G := qm_Gi) ho (fun v5 ho => ?_)
        refine qm_Ret.sts 3 (f' := (4, [some (qm_r 0 12 a0), some (qm_i v5), some (qm_i (x2 + (1 : Int32)))], [], h1)) rfl ?_
        exact ih ho
    · rw [if_neg hc] at ho
      cases ho
      exact qm_Ret.ret 2 rfl
set_option maxRecDepth 20000 in
set_option maxHeartbeats 2000000 in
theorem rX12_allStrength_0   {a0 : Nat} {h : qm_H} {r : Int32 × qm_H} (ho : qX12_allStrength  a0 h = some r) : qm_Ret mX12_allStrength (0, [some (qm_r 0 12 a0), none, none], [], h) (qm_Gi r) := by
  unfold qX12_allStrength at ho
  refine qm_Ret.sts 4 (f' := (4, [some (qm_r 0 12 a0), some (qm_i (0 : Int32)), some (qm_i (0 : Int32))], [], h)) rfl ?_
  exact rX12_allStrength_4 ho
theorem cX12_allStrength_ok : ∀ q ∈ ([(288, 0, 2, wX12_isOpen), (291, 0, 2, wX12_strength)] : List (Nat × Nat × Nat × qm_C)), qm_CallOK RX12 2 45 q.2.1 q.1 q.2.2.1 q.2.2.2 := List.forall_mem_cons.mpr ⟨Or.inl ⟨yX12_isOpen, cX12_isOpen, 2, (some .boolean), 1, 21, _, sX12_isOpen, ⟨by decide, by decide⟩, ⟨jX12_isOpen, kRX12_288, uRX12⟩, ⟨by decide, by decide, rfl⟩, Or.inl ⟨rfl, rfl, iX12_isOpen, recvX12_isOpen⟩⟩, List.forall_mem_cons.mpr ⟨Or.inl ⟨yX12_strength, cX12_strength, 5, (some .int), 1, 21, _, sX12_strength, ⟨by decide, by decide⟩, ⟨jX12_strength, kRX12_291, uRX12⟩, ⟨by decide, by decide, rfl⟩, Or.inl ⟨rfl, rfl, iX12_strength, recvX12_strength⟩⟩, fun _ h => absurd h List.not_mem_nil⟩⟩
theorem sX12_allStrength : qm_Snd yX12_allStrength cX12_allStrength 3 (some .int) 2 45 wX12_allStrength := qm_met (fld := fun k => qm_lk k pfRX12) (con := fun k => qm_lk k pcRX12) (call := fun k => qm_lk k [(288, 0, 2, wX12_isOpen), (291, 0, 2, wX12_strength)]) (tab := qm_tab aX12_allStrength) (plainFor_of_name (by decide)) (qm_fld_ok pfRX12_ok) (qm_con_ok pcRX12_ok) (fun idx kd n f hc => cX12_allStrength_ok (idx, kd, n, f) (qm_lk_mem hc)) (qm_tab_ok aX12_allStrength_ok) (fun vs h o hw => by
  unfold wX12_allStrength at hw
  split at hw
  · obtain ⟨r, hr, rfl⟩ := Option.map_eq_some_iff.mp hw
    exact ⟨Nat.le_of_ble_eq_true rfl, rX12_allStrength_0 (hr)⟩
  · cases hw)
theorem recvX12_allStrength : ∀ vs h o, wX12_allStrength vs h = some o → ∃ ci a rest, vs = qm_r 0 ci a :: rest ∧ qm_R ci = yX12_allStrength.cls := by
  intro vs h o hw
  unfold wX12_allStrength at hw
  split at hw
  · exact ⟨_, _, _, rfl, rfl⟩
  · cases hw
-- RX12 ofState(I)I
theorem jX12_ofState : Jvm.Cond.code yX12_ofState cX12_ofState 2 (some .int) ∈ qm_all := List.mem_filter.mpr ⟨by decide +kernel, rfl⟩
theorem iX12_ofState : Jvm.Cond.instanceMethod yX12_ofState ∈ qm_all ∧ Jvm.Cond.selects yX12_ofState.cls yX12_ofState yX12_ofState ∈ qm_all := ⟨List.mem_filter.mpr ⟨by decide +kernel, rfl⟩, List.mem_filter.mpr ⟨by decide +kernel, rfl⟩⟩
def wX12_ofState : qm_C := fun vs h => match vs with
  | [.inr (.inr (some (0, 12, p0))), .inl p1] => (qX12_ofState p0 p1 h).map qm_Gi
  | _ => none
def aX12_ofState : List (Option (Instr × Nat)) := [some (.iload_n 1, 1), some (.bipush 10, 2), none, some (.if_icmp .lt 9, 3), none, none, some (.aload_n 0, 1), some (.iload_n 1, 1), some (.invokevirtual 307, 3), none, none, some (.ireturn, 1), some (.iload_n 1, 1), some (.iconst 0, 1), some (.iconst 2, 1), some (.invokestatic 100, 3), none, none, some (.ifCond .eq 12, 3), none, none, some (.aload_n 0, 1), some (.getfield 53, 3), none, none, some (.iload_n 1, 1), some (.iaload, 1), some (.goto 41, 3), none, none, some (.iload_n 1, 1), some (.iconst 3, 1), some (.if_icmp .ne 10, 3), none, none, some (.aload_n 0, 1), some (.invokevirtual 304, 3), none, none, some (.goto 29, 3), none, none, some (.iload_n 1, 1), some (.iconst 4, 1), some (.if_icmp .ne 10, 3), none, none, some (.aload_n 0, 1), some (.getfield 282, 3), none, none, some (.goto 17, 3), none, none, some (.iload_n 1, 1), some (.iconst 5, 1), some (.if_icmp .ne 10, 3), none, none, some (.aload_n 0, 1), some (.invokevirtual 369, 3), none, none, some (.goto 5, 3), none, none, some (.bipush (-2), 2), none, some (.ireturn, 1)]
theorem aX12_ofState_ok : qm_tabok cX12_ofState aX12_ofState = true := by decide +kernel
def mX12_ofState : qm_M := ((some .int), (fun k => qm_lk k pfRX12), (fun k => qm_lk k pcRX12), (fun k => qm_lk k [(100, 2, 3, wX12_in), (369, 0, 1, wX12_allStrength), (304, 0, 1, wX12_openMany), (307, 0, 2, wX12_ofRods)]), qm_tab aX12_ofState)
set_option maxRecDepth 20000 in
set_option maxHeartbeats 2000000 in
theorem rX12_ofState_0   {a0 : Nat} {x1 : Int32} {h : qm_H} {r : Int32 × qm_H} (ho : qX12_ofState  a0 x1 h = some r) : qm_Ret mX12_ofState (0, [some (qm_r 0 12 a0), some (qm_i x1)], [], h) (qm_Gi r) := by
  unfold qX12_ofState at ho
  refine qm_Ret.sts 2 (f' := (3, [some (qm_r 0 12 a0), some (qm_i x1)], [qm_i (10 : Int32), qm_i x1], h)) rfl ?_
  refine qm_Ret.lt (t := 12) (e := 6) rfl (fun hc => ?_) (fun hc => ?_)
  · rw [if_pos hc] at ho
    refine qm_Ret.sts 3 (f' := (15, [some (qm_r 0 12 a0), some (qm_i x1)], [qm_i (2 : Int32), qm_i (0 : Int32), qm_i x1], h)) rfl ?_
    obtain ⟨r2, h1, hr, ho⟩ := qm_b2e ho
    refine qm_Ret.call (X := wX12_in [qm_i x1, qm_i (0 : Int32), qm_i (2 : Int32)] h) (o1 := (some (qm_i r2), h1)) (qm_mp (G := qm_Gi) hr) rfl ?_
    show qm_Ret _ (18, [some (qm_r 0 12 a0), some (qm_i x1)], [qm_i r2], h1) _
    refine qm_Ret.eq (t := 30) (e := 21) rfl (fun hc => ?_) (fun hc => ?_)
    · rw [if_pos hc] at ho
      refine qm_Ret.sts 2 (f' := (32, [some (qm_r 0 12 a0), some (qm_i x1)], [qm_i (3 : Int32), qm_i x1], h1)) rfl ?_
      refine qm_Ret.ne (t := 42) (e := 35) rfl (fun hc => ?_) (fun hc => ?_)
      · rw [if_pos hc] at ho
        refine qm_Ret.sts 1 (f' := (36, [some (qm_r 0 12 a0), some (qm_i x1)], [qm_r 0 12 a0], h1)) rfl ?_
        obtain ⟨r6, h5, hr, ho⟩ := qm_b2e ho
        refine qm_Ret.call (X := wX12_openMany [qm_r 0 12 a0] h1) (o1 := (some (qm_i r6), h5)) (qm_mp (G := qm_Gi) hr) rfl ?_
        show qm_Ret _ (39, [some (qm_r 0 12 a0), some (qm_i x1)], [qm_i r6], h5) _
        cases ho
        exact qm_Ret.ret 2 rfl
      · rw [if_neg hc] at ho
        refine qm_Ret.sts 2 (f' := (44, [some (qm_r 0 12 a0), some (qm_i x1)], [qm_i (4 : Int32), qm_i x1], h1)) rfl ?_
        refine qm_Ret.ne (t := 54) (e := 47) rfl (fun hc => ?_) (fun hc => ?_)
        · rw [if_pos hc] at ho
          cases ho
          exact qm_Ret.ret 4 rfl
        · rw [if_neg hc] at ho
          refine qm_Ret.sts 2 (f' := (56, [some (qm_r 0 12 a0), some (qm_i x1)], [qm_i (5 : Int32), qm_i x1], h1)) rfl ?_
          refine qm_Ret.ne (t := 66) (e := 59) rfl (fun hc => ?_) (fun hc => ?_)
          · rw [if_pos hc] at ho
            refine qm_Ret.sts 1 (f' := (60, [some (qm_r 0 12 a0), some (qm_i x1)], [qm_r 0 12 a0], h1)) rfl ?_
            obtain ⟨r4, h3, hr, ho⟩ := qm_b2e ho
            refine qm_Ret.call (X := wX12_allStrength [qm_r 0 12 a0] h1) (o1 := (some (qm_i r4), h3)) (qm_mp (G := qm_Gi) hr) rfl ?_
            show qm_Ret _ (63, [some (qm_r 0 12 a0), some (qm_i x1)], [qm_i r4], h3) _
            cases ho
            exact qm_Ret.ret 2 rfl
          · rw [if_neg hc] at ho
            cases ho
            exact qm_Ret.ret 2 rfl
    · rw [if_neg hc] at ho
      refine qm_Ret.sts 3 (f' := (26, [some (qm_r 0 12 a0), some (qm_i x1)], [qm_i x1, qm_r 1 3 (a0 + 15)], h1)) rfl ?_
      obtain ⟨hg, ho⟩ := qm_ifn ho
      refine qm_Ret.gn (f1 := (27, [some (qm_r 0 12 a0), some (qm_i x1)], [qm_i (h1.1 (a0 + 15) (x1).toNatClampNeg)], h1)) hg rfl ?_
      cases ho
      exact qm_Ret.ret 2 rfl
  · rw [if_neg hc] at ho
    refine qm_Ret.sts 2 (f' := (8, [some (qm_r 0 12 a0), some (qm_i x1)], [qm_i x1, qm_r 0 12 a0], h)) rfl ?_
    obtain ⟨r8, h7, hr, ho⟩ := qm_b2e ho
    refine qm_Ret.call (X := wX12_ofRods [qm_r 0 12 a0, qm_i x1] h) (o1 := (some (qm_i r8), h7)) (qm_mp (G := qm_Gi) hr) rfl ?_
    show qm_Ret _ (11, [some (qm_r 0 12 a0), some (qm_i x1)], [qm_i r8], h7) _
    cases ho
    exact qm_Ret.ret 1 rfl
theorem cX12_ofState_ok : ∀ q ∈ ([(100, 2, 3, wX12_in), (369, 0, 1, wX12_allStrength), (304, 0, 1, wX12_openMany), (307, 0, 2, wX12_ofRods)] : List (Nat × Nat × Nat × qm_C)), qm_CallOK RX12 3 67 q.2.1 q.1 q.2.2.1 q.2.2.2 := List.forall_mem_cons.mpr ⟨Or.inl ⟨yX12_in, cX12_in, 3, (some .boolean), 0, 0, _, sX12_in, ⟨by decide, by decide⟩, ⟨jX12_in, kRX12_100, uRX12⟩, ⟨by decide, by decide, rfl⟩, Or.inr (Or.inl ⟨rfl, rfl, iX12_in⟩)⟩, List.forall_mem_cons.mpr ⟨Or.inl ⟨yX12_allStrength, cX12_allStrength, 3, (some .int), 2, 45, _, sX12_allStrength, ⟨by decide, by decide⟩, ⟨jX12_allStrength, kRX12_369, uRX12⟩, ⟨by decide, by decide, rfl⟩, Or.inl ⟨rfl, rfl, iX12_allStrength, recvX12_allStrength⟩⟩, List.forall_mem_cons.mpr ⟨Or.inl ⟨yX12_openMany, cX12_openMany, 3, (some .int), 2, 43, _, sX12_openMany, ⟨by decide, by decide⟩, ⟨jX12_openMany, kRX12_304, uRX12⟩, ⟨by decide, by decide, rfl⟩, Or.inl ⟨rfl, rfl, iX12_openMany, recvX12_openMany⟩⟩, List.forall_mem_cons.mpr ⟨Or.inl ⟨yX12_ofRods, cX12_ofRods, 3, (some .int), 2, 45, _, sX12_ofRods, ⟨by decide, by decide⟩, ⟨jX12_ofRods, kRX12_307, uRX12⟩, ⟨by decide, by decide, rfl⟩, Or.inl ⟨rfl, rfl, iX12_ofRods, recvX12_ofRods⟩⟩, fun _ h => absurd h List.not_mem_nil⟩⟩⟩⟩
theorem sX12_ofState : qm_Snd yX12_ofState cX12_ofState 2 (some .int) 3 67 wX12_ofState := qm_met (fld := fun k => qm_lk k pfRX12) (con := fun k => qm_lk k pcRX12) (call := fun k => qm_lk k [(100, 2, 3, wX12_in), (369, 0, 1, wX12_allStrength), (304, 0, 1, wX12_openMany), (307, 0, 2, wX12_ofRods)]) (tab := qm_tab aX12_ofState) (plainFor_of_name (by decide)) (qm_fld_ok pfRX12_ok) (qm_con_ok pcRX12_ok) (fun idx kd n f hc => cX12_ofState_ok (idx, kd, n, f) (qm_lk_mem hc)) (qm_tab_ok aX12_ofState_ok) (fun vs h o hw => by
  unfold wX12_ofState at hw
  split at hw
  · obtain ⟨r, hr, rfl⟩ := Option.map_eq_some_iff.mp hw
    exact ⟨Nat.le_of_ble_eq_true rfl, rX12_ofState_0 (hr)⟩
  · cases hw)
theorem recvX12_ofState : ∀ vs h o, wX12_ofState vs h = some o → ∃ ci a rest, vs = qm_r 0 ci a :: rest ∧ qm_R ci = yX12_ofState.cls := by
  intro vs h o hw
  unfold wX12_ofState at hw
  split at hw
  · exact ⟨_, _, _, rfl, rfl⟩
  · cases hw
-- RX12 state(IIII)I
theorem jX12_state : Jvm.Cond.code yX12_state cX12_state 5 (some .int) ∈ qm_all := List.mem_filter.mpr ⟨by decide +kernel, rfl⟩
theorem iX12_state : Jvm.Cond.instanceMethod yX12_state ∈ qm_all ∧ Jvm.Cond.selects yX12_state.cls yX12_state yX12_state ∈ qm_all := ⟨List.mem_filter.mpr ⟨by decide +kernel, rfl⟩, List.mem_filter.mpr ⟨by decide +kernel, rfl⟩⟩
def wX12_state : qm_C := fun vs h => match vs with
  | [.inr (.inr (some (0, 12, p0))), .inl p1, .inl p2, .inl p3, .inl p4] => (qX12_state p0 p1 p2 p3 p4 h).map qm_Gi
  | _ => none
def aX12_state : List (Option (Instr × Nat)) := [some (.aload_n 0, 1), some (.iconst 0, 1), some (.putfield 88, 3), none, none, some (.aload_n 0, 1), some (.iload_n 1, 1), some (.iload_n 2, 1), some (.invokevirtual 363, 3), none, none, some (.ifCond .eq 33, 3), none, none, some (.iload_n 3, 1), some (.iconst 0, 1), some (.aload_n 0, 1), some (.invokevirtual 329, 3), none, none, some (.invokestatic 100, 3), none, none, some (.ifCond .eq 21, 3), none, none, some (.aload_n 0, 1), some (.iload_n 3, 1), some (.invokevirtual 366, 3), none, none, some (.iload_n 3, 1), some (.if_icmp .ne 12, 3), none, none, some (.aload_n 0, 1), some (.iload 4, 2), none, some (.invokevirtual 372, 3), none, none, some (.goto 5, 3), none, none, some (.bipush (-2), 2), none, some (.ireturn, 1)]
theorem aX12_state_ok : qm_tabok cX12_state aX12_state = true := by decide +kernel
def mX12_state : qm_M := ((some .int), (fun k => qm_lk k pfRX12), (fun k => qm_lk k pcRX12), (fun k => qm_lk k [(363, 0, 3, wX12_layAll), (329, 0, 1, wX12_deeds), (100, 2, 3, wX12_in), (366, 0, 2, wX12_play), (372, 0, 2, wX12_ofState)]), qm_tab aX12_state)
set_option maxRecDepth 20000 in
set_option maxHeartbeats 2000000 in
theorem rX12_state_0   {a0 : Nat} {x1 : Int32} {x2 : Int32} {x3 : Int32} {x4 : Int32} {h : qm_H} {r : Int32 × qm_H} (ho : qX12_state  a0 x1 x2 x3 x4 h = some r) : qm_Ret mX12_state (0, [some (qm_r 0 12 a0), some (qm_i x1), some (qm_i x2), some (qm_i x3), some (qm_i x4)], [], h) (qm_Gi r) := by
  unfold qX12_state at ho
  refine qm_Ret.sts 3 (f' := (5, [some (qm_r 0 12 a0), some (qm_i x1), some (qm_i x2), some (qm_i x3), some (qm_i x4)], [], (qm_seti h a0 0 (0 : Int32)))) rfl ?_
  refine qm_Ret.lets (F := fun h1 => (5, [some (qm_r 0 12 a0), some (qm_i x1), some (qm_i x2), some (qm_i x3), some (qm_i x4)], [], h1)) (G := qm_Gi) ho (fun h1 ho => ?_)
  refine qm_Ret.sts 3 (f' := (8, [some (qm_r 0 12 a0), some (qm_i x1), some (qm_i x2), some (qm_i x3), some (qm_i x4)], [qm_i x2, qm_i x1, qm_r 0 12 a0], h1)) rfl ?_
  obtain ⟨r3, h2, hr, ho⟩ := qm_b2e ho
  refine qm_Ret.call (X := wX12_layAll [qm_r 0 12 a0, qm_i x1, qm_i x2] h1) (o1 := (some (qm_i r3), h2)) (qm_mp (G := qm_Gi) hr) rfl ?_
  show qm_Ret _ (11, [some (qm_r 0 12 a0), some (qm_i x1), some (qm_i x2), some (qm_i x3), some (qm_i x4)], [qm_i r3], h2) _
  refine qm_Ret.eq (t := 44) (e := 14) rfl (fun hc => ?_) (fun hc => ?_)
  · rw [if_pos hc] at ho
    cases ho
    exact qm_Ret.ret 2 rfl
  · rw [if_neg hc] at ho
    refine qm_Ret.sts 3 (f' := (17, [some (qm_r 0 12 a0), some (qm_i x1), some (qm_i x2), some (qm_i x3), some (qm_i x4)], [qm_r 0 12 a0, qm_i (0 : Int32), qm_i x3], h2)) rfl ?_
    obtain ⟨r5, h4, hr, ho⟩ := qm_b2e ho
    refine qm_Ret.call (X := wX12_deeds [qm_r 0 12 a0] h2) (o1 := (some (qm_i r5), h4)) (qm_mp (G := qm_Gi) hr) rfl ?_
    show qm_Ret _ (20, [some (qm_r 0 12 a0), some (qm_i x1), some (qm_i x2), some (qm_i x3), some (qm_i x4)], [qm_i r5, qm_i (0 : Int32), qm_i x3], h4) _
    obtain ⟨r7, h6, hr, ho⟩ := qm_b2e ho
    refine qm_Ret.call (X := wX12_in [qm_i x3, qm_i (0 : Int32), qm_i r5] h4) (o1 := (some (qm_i r7), h6)) (qm_mp (G := qm_Gi) hr) rfl ?_
    show qm_Ret _ (23, [some (qm_r 0 12 a0), some (qm_i x1), some (qm_i x2), some (qm_i x3), some (qm_i x4)], [qm_i r7], h6) _
    refine qm_Ret.eq (t := 44) (e := 26) rfl (fun hc => ?_) (fun hc => ?_)
    · rw [if_pos hc] at ho
      cases ho
      exact qm_Ret.ret 2 rfl
    · rw [if_neg hc] at ho
      refine qm_Ret.sts 2 (f' := (28, [some (qm_r 0 12 a0), some (qm_i x1), some (qm_i x2), some (qm_i x3), some (qm_i x4)], [qm_i x3, qm_r 0 12 a0], h6)) rfl ?_
      obtain ⟨r9, h8, hr, ho⟩ := qm_b2e ho
      refine qm_Ret.call (X := wX12_play [qm_r 0 12 a0, qm_i x3] h6) (o1 := (some (qm_i r9), h8)) (qm_mp (G := qm_Gi) hr) rfl ?_
      show qm_Ret _ (31, [some (qm_r 0 12 a0), some (qm_i x1), some (qm_i x2), some (qm_i x3), some (qm_i x4)], [qm_i r9], h8) _
      refine qm_Ret.sts 1 (f' := (32, [some (qm_r 0 12 a0), some (qm_i x1), some (qm_i x2), some (qm_i x3), some (qm_i x4)], [qm_i x3, qm_i r9], h8)) rfl ?_
      refine qm_Ret.ne (t := 44) (e := 35) rfl (fun hc => ?_) (fun hc => ?_)
      · rw [if_pos hc] at ho
        refine qm_Ret.sts 2 (f' := (38, [some (qm_r 0 12 a0), some (qm_i x1), some (qm_i x2), some (qm_i x3), some (qm_i x4)], [qm_i x4, qm_r 0 12 a0], h8)) rfl ?_
        obtain ⟨r11, h10, hr, ho⟩ := qm_b2e ho
        refine qm_Ret.call (X := wX12_ofState [qm_r 0 12 a0, qm_i x4] h8) (o1 := (some (qm_i r11), h10)) (qm_mp (G := qm_Gi) hr) rfl ?_
        show qm_Ret _ (41, [some (qm_r 0 12 a0), some (qm_i x1), some (qm_i x2), some (qm_i x3), some (qm_i x4)], [qm_i r11], h10) _
        cases ho
        exact qm_Ret.ret 2 rfl
      · rw [if_neg hc] at ho
        cases ho
        exact qm_Ret.ret 2 rfl
theorem cX12_state_ok : ∀ q ∈ ([(363, 0, 3, wX12_layAll), (329, 0, 1, wX12_deeds), (100, 2, 3, wX12_in), (366, 0, 2, wX12_play), (372, 0, 2, wX12_ofState)] : List (Nat × Nat × Nat × qm_C)), qm_CallOK RX12 8 190 q.2.1 q.1 q.2.2.1 q.2.2.2 := List.forall_mem_cons.mpr ⟨Or.inl ⟨yX12_layAll, cX12_layAll, 3, (some .boolean), 3, 66, _, sX12_layAll, ⟨by decide, by decide⟩, ⟨jX12_layAll, kRX12_363, uRX12⟩, ⟨by decide, by decide, rfl⟩, Or.inl ⟨rfl, rfl, iX12_layAll, recvX12_layAll⟩⟩, List.forall_mem_cons.mpr ⟨Or.inl ⟨yX12_deeds, cX12_deeds, 1, (some .int), 0, 0, _, sX12_deeds, ⟨by decide, by decide⟩, ⟨jX12_deeds, kRX12_329, uRX12⟩, ⟨by decide, by decide, rfl⟩, Or.inl ⟨rfl, rfl, iX12_deeds, recvX12_deeds⟩⟩, List.forall_mem_cons.mpr ⟨Or.inl ⟨yX12_in, cX12_in, 3, (some .boolean), 0, 0, _, sX12_in, ⟨by decide, by decide⟩, ⟨jX12_in, kRX12_100, uRX12⟩, ⟨by decide, by decide, rfl⟩, Or.inr (Or.inl ⟨rfl, rfl, iX12_in⟩)⟩, List.forall_mem_cons.mpr ⟨Or.inl ⟨yX12_play, cX12_play, 3, (some .int), 7, 168, _, sX12_play, ⟨by decide, by decide⟩, ⟨jX12_play, kRX12_366, uRX12⟩, ⟨by decide, by decide, rfl⟩, Or.inl ⟨rfl, rfl, iX12_play, recvX12_play⟩⟩, List.forall_mem_cons.mpr ⟨Or.inl ⟨yX12_ofState, cX12_ofState, 2, (some .int), 3, 67, _, sX12_ofState, ⟨by decide, by decide⟩, ⟨jX12_ofState, kRX12_372, uRX12⟩, ⟨by decide, by decide, rfl⟩, Or.inl ⟨rfl, rfl, iX12_ofState, recvX12_ofState⟩⟩, fun _ h => absurd h List.not_mem_nil⟩⟩⟩⟩⟩
theorem sX12_state : qm_Snd yX12_state cX12_state 5 (some .int) 8 190 wX12_state := qm_met (fld := fun k => qm_lk k pfRX12) (con := fun k => qm_lk k pcRX12) (call := fun k => qm_lk k [(363, 0, 3, wX12_layAll), (329, 0, 1, wX12_deeds), (100, 2, 3, wX12_in), (366, 0, 2, wX12_play), (372, 0, 2, wX12_ofState)]) (tab := qm_tab aX12_state) (plainFor_of_name (by decide)) (qm_fld_ok pfRX12_ok) (qm_con_ok pcRX12_ok) (fun idx kd n f hc => cX12_state_ok (idx, kd, n, f) (qm_lk_mem hc)) (qm_tab_ok aX12_state_ok) (fun vs h o hw => by
  unfold wX12_state at hw
  split at hw
  · obtain ⟨r, hr, rfl⟩ := Option.map_eq_some_iff.mp hw
    exact ⟨Nat.le_of_ble_eq_true rfl, rX12_state_0 (hr)⟩
  · cases hw)
theorem recvX12_state : ∀ vs h o, wX12_state vs h = some o → ∃ ci a rest, vs = qm_r 0 ci a :: rest ∧ qm_R ci = yX12_state.cls := by
  intro vs h o hw
  unfold wX12_state at hw
  split at hw
  · exact ⟨_, _, _, rfl, rfl⟩
  · cases hw
-- RX12 opens(IIIZ)I
theorem jX12_opens : Jvm.Cond.code yX12_opens cX12_opens 6 (some .int) ∈ qm_all := List.mem_filter.mpr ⟨by decide +kernel, rfl⟩
theorem iX12_opens : Jvm.Cond.instanceMethod yX12_opens ∈ qm_all ∧ Jvm.Cond.selects yX12_opens.cls yX12_opens yX12_opens ∈ qm_all := ⟨List.mem_filter.mpr ⟨by decide +kernel, rfl⟩, List.mem_filter.mpr ⟨by decide +kernel, rfl⟩⟩
def wX12_opens : qm_C := fun vs h => match vs with
  | [.inr (.inr (some (0, 12, p0))), .inl p1, .inl p2, .inl p3, .inl p4] => (qX12_opens p0 p1 p2 p3 p4 h).map qm_Gi
  | _ => none
def aX12_opens : List (Option (Instr × Nat)) := [some (.aload_n 0, 1), some (.iconst 0, 1), some (.putfield 88, 3), none, none, some (.iload_n 2, 1), some (.iload_n 3, 1), some (.invokestatic 310, 3), none, none, some (.ifCond .eq 20, 3), none, none, some (.aload_n 0, 1), some (.iload_n 1, 1), some (.invokevirtual 301, 3), none, none, some (.ifCond .eq 12, 3), none, none, some (.aload_n 0, 1), some (.iload_n 2, 1), some (.iload_n 3, 1), some (.invokevirtual 316, 3), none, none, some (.ifCond .ne 5, 3), none, none, some (.iconst (-1), 1), some (.ireturn, 1), some (.aload_n 0, 1), some (.iload_n 2, 1), some (.iload_n 3, 1), some (.iconst 1, 1), some (.invokevirtual 319, 3), none, none, some (.istore 5, 2), none, some (.iload 4, 2), none, some (.ifCond .eq 8, 3), none, none, some (.iload 5, 2), none, some (.goto 12, 3), none, none, some (.aload_n 0, 1), some (.iload 5, 2), none, some (.iload_n 2, 1), some (.iload_n 3, 1), some (.iconst 1, 1), some (.invokevirtual 297, 3), none, none, some (.ireturn, 1)]
theorem aX12_opens_ok : qm_tabok cX12_opens aX12_opens = true := by decide +kernel
def mX12_opens : qm_M := ((some .int), (fun k => qm_lk k pfRX12), (fun k => qm_lk k pcRX12), (fun k => qm_lk k [(310, 2, 2, wX12_isSize), (301, 0, 2, wX12_hand), (316, 0, 3, wX12_isWithin), (319, 0, 4, wX12_weakest), (297, 0, 5, wX12_holdsAt)]), qm_tab aX12_opens)
set_option maxRecDepth 20000 in
set_option maxHeartbeats 2000000 in
theorem rX12_opens_0   {a0 : Nat} {x1 : Int32} {x2 : Int32} {x3 : Int32} {x4 : Int32} {h : qm_H} {r : Int32 × qm_H} (ho : qX12_opens  a0 x1 x2 x3 x4 h = some r) : qm_Ret mX12_opens (0, [some (qm_r 0 12 a0), some (qm_i x1), some (qm_i x2), some (qm_i x3), some (qm_i x4), none], [], h) (qm_Gi r) := by
  unfold qX12_opens at ho
  refine qm_Ret.sts 3 (f' := (5, [some (qm_r 0 12 a0), some (qm_i x1), some (qm_i x2), some (qm_i x3), some (qm_i x4), none], [], (qm_seti h a0 0 (0 : Int32)))) rfl ?_
  refine qm_Ret.lets (F := fun h1 => (5, [some (qm_r 0 12 a0), some (qm_i x1), some (qm_i x2), some (qm_i x3), some (qm_i x4), none], [], h1)) (G := qm_Gi) ho (fun h1 ho => ?_)
  refine qm_Ret.sts 2 (f' := (7, [some (qm_r 0 12 a0), some (qm_i x1), some (qm_i x2), some (qm_i x3), some (qm_i x4), none], [qm_i x3, qm_i x2], h1)) rfl ?_
  obtain ⟨r3, h2, hr, ho⟩ := qm_b2e ho
  refine qm_Ret.call (X := wX12_isSize [qm_i x2, qm_i x3] h1) (o1 := (some (qm_i r3), h2)) (qm_mp (G := qm_Gi) hr) rfl ?_
  show qm_Ret _ (10, [some (qm_r 0 12 a0), some (qm_i x1), some (qm_i x2), some (qm_i x3), some (qm_i x4), none], [qm_i r3], h2) _
  refine qm_Ret.eq (t := 30) (e := 13) rfl (fun hc => ?_) (fun hc => ?_)
  · rw [if_pos hc] at ho
    cases ho
    exact qm_Ret.ret 2 rfl
  · rw [if_neg hc] at ho
    refine qm_Ret.sts 2 (f' := (15, [some (qm_r 0 12 a0), some (qm_i x1), some (qm_i x2), some (qm_i x3), some (qm_i x4), none], [qm_i x1, qm_r 0 12 a0], h2)) rfl ?_
    obtain ⟨r5, h4, hr, ho⟩ := qm_b2e ho
    refine qm_Ret.call (X := wX12_hand [qm_r 0 12 a0, qm_i x1] h2) (o1 := (some (qm_i r5), h4)) (qm_mp (G := qm_Gi) hr) rfl ?_
    show qm_Ret _ (18, [some (qm_r 0 12 a0), some (qm_i x1), some (qm_i x2), some (qm_i x3), some (qm_i x4), none], [qm_i r5], h4) _
    refine qm_Ret.eq (t := 30) (e := 21) rfl (fun hc => ?_) (fun hc => ?_)
    · rw [if_pos hc] at ho
      cases ho
      exact qm_Ret.ret 2 rfl
    · rw [if_neg hc] at ho
      refine qm_Ret.sts 3 (f' := (24, [some (qm_r 0 12 a0), some (qm_i x1), some (qm_i x2), some (qm_i x3), some (qm_i x4), none], [qm_i x3, qm_i x2, qm_r 0 12 a0], h4)) rfl ?_
      obtain ⟨r7, h6, hr, ho⟩ := qm_b2e ho
      refine qm_Ret.call (X := wX12_isWithin [qm_r 0 12 a0, qm_i x2, qm_i x3] h4) (o1 := (some (qm_i r7), h6)) (qm_mp (G := qm_Gi) hr) rfl ?_
      show qm_Ret _ (27, [some (qm_r 0 12 a0), some (qm_i x1), some (qm_i x2), some (qm_i x3), some (qm_i x4), none], [qm_i r7], h6) _
      refine qm_Ret.ne (t := 32) (e := 30) rfl (fun hc => ?_) (fun hc => ?_)
      · rw [if_pos hc] at ho
        cases ho
        exact qm_Ret.ret 2 rfl
      · rw [if_neg hc] at ho
        refine qm_Ret.sts 4 (f' := (36, [some (qm_r 0 12 a0), some (qm_i x1), some (qm_i x2), some (qm_i x3), some (qm_i x4), none], [qm_i (1 : Int32), qm_i x3, qm_i x2, qm_r 0 12 a0], h6)) rfl ?_
        obtain ⟨r9, h8, hr, ho⟩ := qm_b2e ho
        refine qm_Ret.call (X := wX12_weakest [qm_r 0 12 a0, qm_i x2, qm_i x3, qm_i (1 : Int32)] h6) (o1 := (some (qm_i r9), h8)) (qm_mp (G := qm_Gi) hr) rfl ?_
        show qm_Ret _ (39, [some (qm_r 0 12 a0), some (qm_i x1), some (qm_i x2), some (qm_i x3), some (qm_i x4), none], [qm_i r9], h8) _
        refine qm_Ret.sts 2 (f' := (43, [some (qm_r 0 12 a0), some (qm_i x1), some (qm_i x2), some (qm_i x3), some (qm_i x4), some (qm_i r9)], [qm_i x4], h8)) rfl ?_
        refine qm_Ret.eq (t := 51) (e := 46) rfl (fun hc => ?_) (fun hc => ?_)
        · rw [if_pos hc] at ho
          refine qm_Ret.sts 5 (f' := (57, [some (qm_r 0 12 a0), some (qm_i x1), some (qm_i x2), some (qm_i x3), some (qm_i x4), some (qm_i r9)], [qm_i (1 : Int32), qm_i x3, qm_i x2, qm_i r9, qm_r 0 12 a0], h8)) rfl ?_
          obtain ⟨r11, h10, hr, ho⟩ := qm_b2e ho
          refine qm_Ret.call (X := wX12_holdsAt [qm_r 0 12 a0, qm_i r9, qm_i x2, qm_i x3, qm_i (1 : Int32)] h8) (o1 := (some (qm_i r11), h10)) (qm_mp (G := qm_Gi) hr) rfl ?_
          show qm_Ret _ (60, [some (qm_r 0 12 a0), some (qm_i x1), some (qm_i x2), some (qm_i x3), some (qm_i x4), some (qm_i r9)], [qm_i r11], h10) _
          cases ho
          exact qm_Ret.ret 1 rfl
        · rw [if_neg hc] at ho
          cases ho
          exact qm_Ret.ret 3 rfl
theorem cX12_opens_ok : ∀ q ∈ ([(310, 2, 2, wX12_isSize), (301, 0, 2, wX12_hand), (316, 0, 3, wX12_isWithin), (319, 0, 4, wX12_weakest), (297, 0, 5, wX12_holdsAt)] : List (Nat × Nat × Nat × qm_C)), qm_CallOK RX12 4 98 q.2.1 q.1 q.2.2.1 q.2.2.2 := List.forall_mem_cons.mpr ⟨Or.inl ⟨yX12_isSize, cX12_isSize, 2, (some .boolean), 1, 22, _, sX12_isSize, ⟨by decide, by decide⟩, ⟨jX12_isSize, kRX12_310, uRX12⟩, ⟨by decide, by decide, rfl⟩, Or.inr (Or.inl ⟨rfl, rfl, iX12_isSize⟩)⟩, List.forall_mem_cons.mpr ⟨Or.inl ⟨yX12_hand, cX12_hand, 3, (some .boolean), 2, 44, _, sX12_hand, ⟨by decide, by decide⟩, ⟨jX12_hand, kRX12_301, uRX12⟩, ⟨by decide, by decide, rfl⟩, Or.inl ⟨rfl, rfl, iX12_hand, recvX12_hand⟩⟩, List.forall_mem_cons.mpr ⟨Or.inl ⟨yX12_isWithin, cX12_isWithin, 3, (some .boolean), 0, 0, _, sX12_isWithin, ⟨by decide, by decide⟩, ⟨jX12_isWithin, kRX12_316, uRX12⟩, ⟨by decide, by decide, rfl⟩, Or.inl ⟨rfl, rfl, iX12_isWithin, recvX12_isWithin⟩⟩, List.forall_mem_cons.mpr ⟨Or.inl ⟨yX12_weakest, cX12_weakest, 7, (some .int), 3, 72, _, sX12_weakest, ⟨by decide, by decide⟩, ⟨jX12_weakest, kRX12_319, uRX12⟩, ⟨by decide, by decide, rfl⟩, Or.inl ⟨rfl, rfl, iX12_weakest, recvX12_weakest⟩⟩, List.forall_mem_cons.mpr ⟨Or.inl ⟨yX12_holdsAt, cX12_holdsAt, 8, (some .int), 2, 45, _, sX12_holdsAt, ⟨by decide, by decide⟩, ⟨jX12_holdsAt, kRX12_297, uRX12⟩, ⟨by decide, by decide, rfl⟩, Or.inl ⟨rfl, rfl, iX12_holdsAt, recvX12_holdsAt⟩⟩, fun _ h => absurd h List.not_mem_nil⟩⟩⟩⟩⟩
theorem sX12_opens : qm_Snd yX12_opens cX12_opens 6 (some .int) 4 98 wX12_opens := qm_met (fld := fun k => qm_lk k pfRX12) (con := fun k => qm_lk k pcRX12) (call := fun k => qm_lk k [(310, 2, 2, wX12_isSize), (301, 0, 2, wX12_hand), (316, 0, 3, wX12_isWithin), (319, 0, 4, wX12_weakest), (297, 0, 5, wX12_holdsAt)]) (tab := qm_tab aX12_opens) (plainFor_of_name (by decide)) (qm_fld_ok pfRX12_ok) (qm_con_ok pcRX12_ok) (fun idx kd n f hc => cX12_opens_ok (idx, kd, n, f) (qm_lk_mem hc)) (qm_tab_ok aX12_opens_ok) (fun vs h o hw => by
  unfold wX12_opens at hw
  split at hw
  · obtain ⟨r, hr, rfl⟩ := Option.map_eq_some_iff.mp hw
    exact ⟨Nat.le_of_ble_eq_true rfl, rX12_opens_0 (hr)⟩
  · cases hw)
theorem recvX12_opens : ∀ vs h o, wX12_opens vs h = some o → ∃ ci a rest, vs = qm_r 0 ci a :: rest ∧ qm_R ci = yX12_opens.cls := by
  intro vs h o hw
  unfold wX12_opens at hw
  split at hw
  · exact ⟨_, _, _, rfl, rfl⟩
  · cases hw
