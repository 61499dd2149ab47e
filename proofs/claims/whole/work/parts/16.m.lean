-- RX10 add(IIII)V
theorem jX10_add : Jvm.Cond.code yX10_add cX10_add 6 none ∈ qm_all := List.mem_filter.mpr ⟨by decide +kernel, rfl⟩
theorem iX10_add : Jvm.Cond.instanceMethod yX10_add ∈ qm_all ∧ Jvm.Cond.selects yX10_add.cls yX10_add yX10_add ∈ qm_all := ⟨List.mem_filter.mpr ⟨by decide +kernel, rfl⟩, List.mem_filter.mpr ⟨by decide +kernel, rfl⟩⟩
def wX10_add : qm_C := fun vs h => match vs with
  | [.inr (.inr (some (0, 10, p0))), .inl p1, .inl p2, .inl p3, .inl p4] => (qX10_add p0 p1 p2 p3 p4 h).map qm_Gv
  | _ => none
def aX10_add : List (Option (Instr × Nat)) := [some (.aload_n 0, 1), some (.getfield 15, 3), none, none, some (.bipush 40, 2), none, some (.if_icmp .lt 4, 3), none, none, some (.return_, 1), some (.iconst 4, 1), some (.aload_n 0, 1), some (.getfield 15, 3), none, none, some (.imul, 1), some (.istore 5, 2), none, some (.aload_n 0, 1), some (.getfield 11, 3), none, none, some (.iload 5, 2), none, some (.iload_n 1, 1), some (.iastore, 1), some (.aload_n 0, 1), some (.getfield 11, 3), none, none, some (.iload 5, 2), none, some (.iconst 1, 1), some (.iadd, 1), some (.iload_n 2, 1), some (.iastore, 1), some (.aload_n 0, 1), some (.getfield 11, 3), none, none, some (.iload 5, 2), none, some (.iconst 2, 1), some (.iadd, 1), some (.iload_n 3, 1), some (.iastore, 1), some (.aload_n 0, 1), some (.getfield 11, 3), none, none, some (.iload 5, 2), none, some (.iconst 3, 1), some (.iadd, 1), some (.iload 4, 2), none, some (.iastore, 1), some (.aload_n 0, 1), some (.dup, 1), some (.getfield 15, 3), none, none, some (.iconst 1, 1), some (.iadd, 1), some (.putfield 15, 3), none, none, some (.return_, 1)]
theorem aX10_add_ok : qm_tabok cX10_add aX10_add = true := by decide +kernel
def mX10_add : qm_M := (none, (fun k => qm_lk k pfRX10), (fun k => qm_lk k pcRX10), (fun k => qm_lk k []), qm_tab aX10_add)
set_option maxRecDepth 20000 in
set_option maxHeartbeats 2000000 in
theorem rX10_add_0   {a0 : Nat} {x1 : Int32} {x2 : Int32} {x3 : Int32} {x4 : Int32} {h : qm_H} {r : qm_H} (ho : qX10_add  a0 x1 x2 x3 x4 h = some r) : qm_Ret mX10_add (0, [some (qm_r 0 10 a0), some (qm_i x1), some (qm_i x2), some (qm_i x3), some (qm_i x4), none], [], h) (qm_Gv r) := by
  unfold qX10_add at ho
  refine qm_Ret.sts 3 (f' := (6, [some (qm_r 0 10 a0), some (qm_i x1), some (qm_i x2), some (qm_i x3), some (qm_i x4), none], [qm_i (40 : Int32), qm_i (h.1 a0 1)], h)) rfl ?_
  refine qm_Ret.lt (t := 10) (e := 9) rfl (fun hc => ?_) (fun hc => ?_)
  · rw [if_pos hc] at ho
    refine qm_Ret.sts 4 (f' := (16, [some (qm_r 0 10 a0), some (qm_i x1), some (qm_i x2), some (qm_i x3), some (qm_i x4), none], [qm_i ((4 : Int32) * (h.1 a0 1))], h)) rfl ?_
    refine qm_Ret.lets (F := fun v1 => (16, [some (qm_r 0 10 a0), some (qm_i x1), some (qm_i x2), some (qm_i x3), some (qm_i x4), none], [qm_i v1], h)) (G := qm_Gv) ho (fun v1 ho => ?_)
    refine qm_Ret.sts 5 (f' := (25, [some (qm_r 0 10 a0), some (qm_i x1), some (qm_i x2), some (qm_i x3), some (qm_i x4), some (qm_i v1)], [qm_i x1, qm_i v1, qm_r 1 160 (a0 + 1)], h)) rfl ?_
    obtain ⟨hg, ho⟩ := qm_ifn ho
    refine qm_Ret.gn (f1 := (26, [some (qm_r 0 10 a0), some (qm_i x1), some (qm_i x2), some (qm_i x3), some (qm_i x4), some (qm_i v1)], [], (qm_seti h (a0 + 1) (v1).toNatClampNeg x1))) hg rfl ?_
    refine qm_Ret.lets (F := fun h2 => (26, [some (qm_r 0 10 a0), some (qm_i x1), some (qm_i x2), some (qm_i x3), some (qm_i x4), some (qm_i v1)], [], h2)) (G := qm_Gv) ho (fun h2 ho => ?_)
    refine qm_Ret.sts 6 (f' := (35, [some (qm_r 0 10 a0), some (qm_i x1), some (qm_i x2), some (qm_i x3), some (qm_i x4), some (qm_i v1)], [qm_i x2, qm_i (v1 + (1 : Int32)), qm_r 1 160 (a0 + 1)], h2)) rfl ?_
    obtain ⟨hg, ho⟩ := qm_ifn ho
    refine qm_Ret.gn (f1 := (36, [some (qm_r 0 10 a0), some (qm_i x1), some (qm_i x2), some (qm_i x3), some (qm_i x4), some (qm_i v1)], [], (qm_seti h2 (a0 + 1) (v1 + (1 : Int32)).toNatClampNeg x2))) hg rfl ?_
    refine qm_Ret.lets (F := fun h3 => (36, [some (qm_r 0 10 a0), some (qm_i x1), some (qm_i x2), some (qm_i x3), some (qm_i x4), some (qm_i v1)], [], h3)) (G := qm_Gv) ho (fun h3 ho => ?_)
    refine qm_Ret.sts 6 (f' := (45, [some (qm_r 0 10 a0), some (qm_i x1), some (qm_i x2), some (qm_i x3), some (qm_i x4), some (qm_i v1)], [qm_i x3, qm_i (v1 + (2 : Int32)), qm_r 1 160 (a0 + 1)], h3)) rfl ?_
    obtain ⟨hg, ho⟩ := qm_ifn ho
    refine qm_Ret.gn (f1 := (46, [some (qm_r 0 10 a0), some (qm_i x1), some (qm_i x2), some (qm_i x3), some (qm_i x4), some (qm_i v1)], [], (qm_seti h3 (a0 + 1) (v1 + (2 : Int32)).toNatClampNeg x3))) hg rfl ?_
    refine qm_Ret.lets (F := fun h4 => (46, [some (qm_r 0 10 a0), some (qm_i x1), some (qm_i x2), some (qm_i x3), some (qm_i x4), some (qm_i v1)], [], h4)) (G := qm_Gv) ho (fun h4 ho => ?_)
    refine qm_Ret.sts 6 (f' := (56, [some (qm_r 0 10 a0), some (qm_i x1), some (qm_i x2), some (qm_i x3), some (qm_i x4), some (qm_i v1)], [qm_i x4, qm_i (v1 + (3 : Int32)), qm_r 1 160 (a0 + 1)], h4)) rfl ?_
    obtain ⟨hg, ho⟩ := qm_ifn ho
    refine qm_Ret.gn (f1 := (57, [some (qm_r 0 10 a0), some (qm_i x1), some (qm_i x2), some (qm_i x3), some (qm_i x4), some (qm_i v1)], [], (qm_seti h4 (a0 + 1) (v1 + (3 : Int32)).toNatClampNeg x4))) hg rfl ?_
    refine qm_Ret.lets (F := fun h5 => (57, [some (qm_r 0 10 a0), some (qm_i x1), some (qm_i x2), some (qm_i x3), some (qm_i x4), some (qm_i v1)], [], h5)) (G := qm_Gv) ho (fun h5 ho => ?_)
    refine qm_Ret.sts 6 (f' := (67, [some (qm_r 0 10 a0), some (qm_i x1), some (qm_i x2), some (qm_i x3), some (qm_i x4), some (qm_i v1)], [], (qm_seti h5 a0 1 ((h5.1 a0 1) + (1 : Int32))))) rfl ?_
    refine qm_Ret.lets (F := fun h6 => (67, [some (qm_r 0 10 a0), some (qm_i x1), some (qm_i x2), some (qm_i x3), some (qm_i x4), some (qm_i v1)], [], h6)) (G := qm_Gv) ho (fun h6 ho => ?_)
    cases ho
    exact qm_Ret.ret 1 rfl
  · rw [if_neg hc] at ho
    cases ho
    exact qm_Ret.ret 1 rfl
theorem cX10_add_ok : ∀ q ∈ ([] : List (Nat × Nat × Nat × qm_C)), qm_CallOK RX10 0 0 q.2.1 q.1 q.2.2.1 q.2.2.2 := fun _ h => absurd h List.not_mem_nil
theorem sX10_add : qm_Snd yX10_add cX10_add 6 none 0 0 wX10_add := qm_met (fld := fun k => qm_lk k pfRX10) (con := fun k => qm_lk k pcRX10) (call := fun k => qm_lk k []) (tab := qm_tab aX10_add) (plainFor_of_name (by decide)) (qm_fld_ok pfRX10_ok) (qm_con_ok pcRX10_ok) (fun idx kd n f hc => cX10_add_ok (idx, kd, n, f) (qm_lk_mem hc)) (qm_tab_ok aX10_add_ok) (fun vs h o hw => by
  unfold wX10_add at hw
  split at hw
  · obtain ⟨r, hr, rfl⟩ := Option.map_eq_some_iff.mp hw
    exact ⟨Nat.le_of_ble_eq_true rfl, rX10_add_0 (hr)⟩
  · cases hw)
theorem recvX10_add : ∀ vs h o, wX10_add vs h = some o → ∃ ci a rest, vs = qm_r 0 ci a :: rest ∧ qm_R ci = yX10_add.cls := by
  intro vs h o hw
  unfold wX10_add at hw
  split at hw
  · exact ⟨_, _, _, rfl, rfl⟩
  · cases hw
-- RX3 readStop()V
theorem jX3_readStop : Jvm.Cond.code yX3_readStop cX3_readStop 1 none ∈ qm_all := List.mem_filter.mpr ⟨by decide +kernel, rfl⟩
theorem iX3_readStop : Jvm.Cond.instanceMethod yX3_readStop ∈ qm_all ∧ Jvm.Cond.selects yX3_readStop.cls yX3_readStop yX3_readStop ∈ qm_all := ⟨List.mem_filter.mpr ⟨by decide +kernel, rfl⟩, List.mem_filter.mpr ⟨by decide +kernel, rfl⟩⟩
def wX3_readStop : qm_C := fun vs h => match vs with
  | [.inr (.inr (some (0, 3, p0)))] => (qX3_readStop p0 h).map qm_Gv
  | _ => none
def aX3_readStop : List (Option (Instr × Nat)) := [some (.aload_n 0, 1), some (.invokevirtual 72, 3), none, none, some (.ifCond .eq 24, 3), none, none, some (.aload_n 0, 1), some (.getfield 44, 3), none, none, some (.getfield 76, 3), none, none, some (.iconst 3, 1), some (.if_icmp .ne 13, 3), none, none, some (.aload_n 0, 1), some (.getfield 44, 3), none, none, some (.invokevirtual 214, 3), none, none, some (.goto 7, 3), none, none, some (.aload_n 0, 1), some (.invokevirtual 144, 3), none, none, some (.return_, 1)]
theorem aX3_readStop_ok : qm_tabok cX3_readStop aX3_readStop = true := by decide +kernel
def mX3_readStop : qm_M := (none, (fun k => qm_lk k pfRX3), (fun k => qm_lk k pcRX3), (fun k => qm_lk k [(144, 0, 1, wX3_refuse), (72, 0, 1, wX3_goesOn), (214, 0, 1, wX8_advance)]), qm_tab aX3_readStop)
set_option maxRecDepth 20000 in
set_option maxHeartbeats 2000000 in
theorem rX3_readStop_28   {a0 : Nat} {h : qm_H} {r : qm_H} (ho : qX3_readStop_28  a0 h = some r) : qm_Ret mX3_readStop (28, [some (qm_r 0 3 a0)], [], h) (qm_Gv r) := by
  unfold qX3_readStop_28 at ho
  refine qm_Ret.sts 1 (f' := (29, [some (qm_r 0 3 a0)], [qm_r 0 3 a0], h)) rfl ?_
  obtain ⟨h1, hr, ho⟩ := qm_bd ho
  refine qm_Ret.call (X := wX3_refuse [qm_r 0 3 a0] h) (o1 := (none, h1)) (qm_mp (G := qm_Gv) hr) rfl ?_
  show qm_Ret _ (32, [some (qm_r 0 3 a0)], [], h1) _
  cases ho
  exact qm_Ret.ret 1 rfl
set_option maxRecDepth 20000 in
set_option maxHeartbeats 2000000 in
theorem rX3_readStop_0   {a0 : Nat} {h : qm_H} {r : qm_H} (ho : qX3_readStop  a0 h = some r) : qm_Ret mX3_readStop (0, [some (qm_r 0 3 a0)], [], h) (qm_Gv r) := by
  unfold qX3_readStop at ho
  refine qm_Ret.sts 1 (f' := (1, [some (qm_r 0 3 a0)], [qm_r 0 3 a0], h)) rfl ?_
  obtain ⟨r2, h1, hr, ho⟩ := qm_b2e ho
  refine qm_Ret.call (X := wX3_goesOn [qm_r 0 3 a0] h) (o1 := (some (qm_i r2), h1)) (qm_mp (G := qm_Gi) hr) rfl ?_
  show qm_Ret _ (4, [some (qm_r 0 3 a0)], [qm_i r2], h1) _
  refine qm_Ret.eq (t := 28) (e := 7) rfl (fun hc => ?_) (fun hc => ?_)
  · rw [if_pos hc] at ho
    exact rX3_readStop_28 ho
  · rw [if_neg hc] at ho
    refine qm_Ret.sts 4 (f' := (15, [some (qm_r 0 3 a0)], [qm_i (3 : Int32), qm_i (h1.1 (a0 + 12) 2)], h1)) rfl ?_
    refine qm_Ret.ne (t := 28) (e := 18) rfl (fun hc => ?_) (fun hc => ?_)
    · rw [if_pos hc] at ho
      refine qm_Ret.sts 2 (f' := (22, [some (qm_r 0 3 a0)], [qm_r 0 8 (a0 + 12)], h1)) rfl ?_
      obtain ⟨h3, hr, ho⟩ := qm_bd ho
      refine qm_Ret.call (X := wX8_advance [qm_r 0 8 (a0 + 12)] h1) (o1 := (none, h3)) (qm_mp (G := qm_Gv) hr) rfl ?_
      show qm_Ret _ (25, [some (qm_r 0 3 a0)], [], h3) _
      cases ho
      exact qm_Ret.ret 2 rfl
    · rw [if_neg hc] at ho
      exact rX3_readStop_28 ho
theorem cX3_readStop_ok : ∀ q ∈ ([(144, 0, 1, wX3_refuse), (72, 0, 1, wX3_goesOn), (214, 0, 1, wX8_advance)] : List (Nat × Nat × Nat × qm_C)), qm_CallOK RX3 2 43 q.2.1 q.1 q.2.2.1 q.2.2.2 := List.forall_mem_cons.mpr ⟨Or.inl ⟨yX3_refuse, cX3_refuse, 1, none, 0, 0, _, sX3_refuse, ⟨by decide, by decide⟩, ⟨jX3_refuse, kRX3_144, uRX3⟩, ⟨by decide, by decide, rfl⟩, Or.inl ⟨rfl, rfl, iX3_refuse, recvX3_refuse⟩⟩, List.forall_mem_cons.mpr ⟨Or.inl ⟨yX3_goesOn, cX3_goesOn, 1, (some .boolean), 0, 0, _, sX3_goesOn, ⟨by decide, by decide⟩, ⟨jX3_goesOn, kRX3_72, uRX3⟩, ⟨by decide, by decide, rfl⟩, Or.inl ⟨rfl, rfl, iX3_goesOn, recvX3_goesOn⟩⟩, List.forall_mem_cons.mpr ⟨Or.inl ⟨yX8_advance, cX8_advance, 2, none, 1, 22, _, sX8_advance, ⟨by decide, by decide⟩, ⟨jX8_advance, kRX3_214, uRX8⟩, ⟨by decide, by decide, rfl⟩, Or.inl ⟨rfl, rfl, iX8_advance, recvX8_advance⟩⟩, fun _ h => absurd h List.not_mem_nil⟩⟩⟩
theorem sX3_readStop : qm_Snd yX3_readStop cX3_readStop 1 none 2 43 wX3_readStop := qm_met (fld := fun k => qm_lk k pfRX3) (con := fun k => qm_lk k pcRX3) (call := fun k => qm_lk k [(144, 0, 1, wX3_refuse), (72, 0, 1, wX3_goesOn), (214, 0, 1, wX8_advance)]) (tab := qm_tab aX3_readStop) (plainFor_of_name (by decide)) (qm_fld_ok pfRX3_ok) (qm_con_ok pcRX3_ok) (fun idx kd n f hc => cX3_readStop_ok (idx, kd, n, f) (qm_lk_mem hc)) (qm_tab_ok aX3_readStop_ok) (fun vs h o hw => by
  unfold wX3_readStop at hw
  split at hw
  · obtain ⟨r, hr, rfl⟩ := Option.map_eq_some_iff.mp hw
    exact ⟨Nat.le_of_ble_eq_true rfl, rX3_readStop_0 (hr)⟩
  · cases hw)
theorem recvX3_readStop : ∀ vs h o, wX3_readStop vs h = some o → ∃ ci a rest, vs = qm_r 0 ci a :: rest ∧ qm_R ci = yX3_readStop.cls := by
  intro vs h o hw
  unfold wX3_readStop at hw
  split at hw
  · exact ⟨_, _, _, rfl, rfl⟩
  · cases hw
-- RX3 lookForAll(II)V
theorem jX3_lookForAll : Jvm.Cond.code yX3_lookForAll cX3_lookForAll 3 none ∈ qm_all := List.mem_filter.mpr ⟨by decide +kernel, rfl⟩
theorem iX3_lookForAll : Jvm.Cond.instanceMethod yX3_lookForAll ∈ qm_all ∧ Jvm.Cond.selects yX3_lookForAll.cls yX3_lookForAll yX3_lookForAll ∈ qm_all := ⟨List.mem_filter.mpr ⟨by decide +kernel, rfl⟩, List.mem_filter.mpr ⟨by decide +kernel, rfl⟩⟩
def wX3_lookForAll : qm_C := fun vs h => match vs with
  | [.inr (.inr (some (0, 3, p0))), .inl p1, .inl p2] => (qX3_lookForAll p0 p1 p2 h).map qm_Gv
  | _ => none
def aX3_lookForAll : List (Option (Instr × Nat)) := [some (.aload_n 0, 1), some (.getfield 55, 3), none, none, some (.iload_n 1, 1), some (.if_icmp .ge 11, 3), none, none, some (.aload_n 0, 1), some (.getfield 58, 3), none, none, some (.iload_n 2, 1), some (.if_icmp .lt 15, 3), none, none, some (.aload_n 0, 1), some (.iconst 4, 1), some (.aload_n 0, 1), some (.getfield 44, 3), none, none, some (.getfield 220, 3), none, none, some (.invokevirtual 154, 3), none, none, some (.return_, 1)]
theorem aX3_lookForAll_ok : qm_tabok cX3_lookForAll aX3_lookForAll = true := by decide +kernel
def mX3_lookForAll : qm_M := (none, (fun k => qm_lk k pfRX3), (fun k => qm_lk k pcRX3), (fun k => qm_lk k [(154, 0, 3, wX3_note)]), qm_tab aX3_lookForAll)
set_option maxRecDepth 20000 in
set_option maxHeartbeats 2000000 in
theorem rX3_lookForAll_16   {a0 : Nat} {xd1 : Int32} {xd2 : Int32} {h : qm_H} {r : qm_H} (ho : qX3_lookForAll_16  a0 h = some r) : qm_Ret mX3_lookForAll (16, [some (qm_r 0 3 a0), some (qm_i xd1), some (qm_i xd2)], [], h) (qm_Gv r) := by
  unfold qX3_lookForAll_16 at ho
  refine qm_Ret.sts 5 (f' := (25, [some (qm_r 0 3 a0), some (qm_i xd1), some (qm_i xd2)], [qm_i (h.1 (a0 + 12) 1), qm_i (4 : Int32), qm_r 0 3 a0], h)) rfl ?_
  obtain ⟨h1, hr, ho⟩ := qm_bd ho
  refine qm_Ret.call (X := wX3_note [qm_r 0 3 a0, qm_i (4 : Int32), qm_i (h.1 (a0 + 12) 1)] h) (o1 := (none, h1)) (qm_mp (G := qm_Gv) hr) rfl ?_
  show qm_Ret _ (28, [some (qm_r 0 3 a0), some (qm_i xd1), some (qm_i xd2)], [], h1) _
  cases ho
  exact qm_Ret.ret 1 rfl
set_option maxRecDepth 20000 in
set_option maxHeartbeats 2000000 in
theorem rX3_lookForAll_0   {a0 : Nat} {x1 : Int32} {x2 : Int32} {h : qm_H} {r : qm_H} (ho : qX3_lookForAll  a0 x1 x2 h = some r) : qm_Ret mX3_lookForAll (0, [some (qm_r 0 3 a0), some (qm_i x1), some (qm_i x2)], [], h) (qm_Gv r) := by
  unfold qX3_lookForAll at ho
  refine qm_Ret.sts 3 (f' := (5, [some (qm_r 0 3 a0), some (qm_i x1), some (qm_i x2)], [qm_i x1, qm_i (h.1 a0 7)], h)) rfl ?_
  refine qm_Ret.ge (t := 16) (e := 8) rfl (fun hc => ?_) (fun hc => ?_)
  · rw [if_pos hc] at ho
    refine qm_Ret.sts 3 (f' := (13, [some (qm_r 0 3 a0), some (qm_i x1), some (qm_i x2)], [qm_i x2, qm_i (h.1 a0 8)], h)) rfl ?_
    refine qm_Ret.lt (t := 28) (e := 16) rfl (fun hc => ?_) (fun hc => ?_)
    · rw [if_pos hc] at ho
      cases ho
      exact qm_Ret.ret 1 rfl
    · rw [if_neg hc] at ho
      exact rX3_lookForAll_16 ho
  · rw [if_neg hc] at ho
    exact rX3_lookForAll_16 ho
theorem cX3_lookForAll_ok : ∀ q ∈ ([(154, 0, 3, wX3_note)] : List (Nat × Nat × Nat × qm_C)), qm_CallOK RX3 1 22 q.2.1 q.1 q.2.2.1 q.2.2.2 := List.forall_mem_cons.mpr ⟨Or.inl ⟨yX3_note, cX3_note, 3, none, 0, 0, _, sX3_note, ⟨by decide, by decide⟩, ⟨jX3_note, kRX3_154, uRX3⟩, ⟨by decide, by decide, rfl⟩, Or.inl ⟨rfl, rfl, iX3_note, recvX3_note⟩⟩, fun _ h => absurd h List.not_mem_nil⟩
theorem sX3_lookForAll : qm_Snd yX3_lookForAll cX3_lookForAll 3 none 1 22 wX3_lookForAll := qm_met (fld := fun k => qm_lk k pfRX3) (con := fun k => qm_lk k pcRX3) (call := fun k => qm_lk k [(154, 0, 3, wX3_note)]) (tab := qm_tab aX3_lookForAll) (plainFor_of_name (by decide)) (qm_fld_ok pfRX3_ok) (qm_con_ok pcRX3_ok) (fun idx kd n f hc => cX3_lookForAll_ok (idx, kd, n, f) (qm_lk_mem hc)) (qm_tab_ok aX3_lookForAll_ok) (fun vs h o hw => by
  unfold wX3_lookForAll at hw
  split at hw
  · obtain ⟨r, hr, rfl⟩ := Option.map_eq_some_iff.mp hw
    exact ⟨Nat.le_of_ble_eq_true rfl, rX3_lookForAll_0 (hr)⟩
  · cases hw)
theorem recvX3_lookForAll : ∀ vs h o, wX3_lookForAll vs h = some o → ∃ ci a rest, vs = qm_r 0 ci a :: rest ∧ qm_R ci = yX3_lookForAll.cls := by
  intro vs h o hw
  unfold wX3_lookForAll at hw
  split at hw
  · exact ⟨_, _, _, rfl, rfl⟩
  · cases hw
-- RX4 wholeRods(LWillowLaw$Parish;Z)V
theorem jX4_wholeRods : Jvm.Cond.code yX4_wholeRods cX4_wholeRods 4 none ∈ qm_all := List.mem_filter.mpr ⟨by decide +kernel, rfl⟩
theorem iX4_wholeRods : Jvm.Cond.instanceMethod yX4_wholeRods ∈ qm_all ∧ Jvm.Cond.selects yX4_wholeRods.cls yX4_wholeRods yX4_wholeRods ∈ qm_all := ⟨List.mem_filter.mpr ⟨by decide +kernel, rfl⟩, List.mem_filter.mpr ⟨by decide +kernel, rfl⟩⟩
def wX4_wholeRods : qm_C := fun vs h => match vs with
  | [.inr (.inr (some (0, 4, p0))), .inr (.inr (some (0, 2, p1))), .inl p2] => (qX4_wholeRods p0 p1 p2 h).map qm_Gv
  | _ => none
def aX4_wholeRods : List (Option (Instr × Nat)) := [some (.iconst 0, 1), some (.istore_n 3, 1), some (.iload_n 3, 1), some (.aload_n 1, 1), some (.getfield 32, 3), none, none, some (.if_icmp .ge 47, 3), none, none, some (.iload_n 3, 1), some (.bipush 6, 2), none, some (.if_icmp .ge 41, 3), none, none, some (.aload_n 0, 1), some (.getfield 11, 3), none, none, some (.iload_n 3, 1), some (.aload_n 1, 1), some (.getfield 36, 3), none, none, some (.iload_n 3, 1), some (.iaload, 1), some (.iastore, 1), some (.aload_n 0, 1), some (.getfield 17, 3), none, none, some (.iload_n 3, 1), some (.iload_n 2, 1), some (.ifCond .eq 12, 3), none, none, some (.aload_n 1, 1), some (.getfield 36, 3), none, none, some (.iload_n 3, 1), some (.iaload, 1), some (.goto 4, 3), none, none, some (.iconst 1, 1), some (.iastore, 1), some (.iinc 3 1, 3), none, none, some (.goto (-49), 3), none, none, some (.return_, 1)]
theorem aX4_wholeRods_ok : qm_tabok cX4_wholeRods aX4_wholeRods = true := by decide +kernel
def mX4_wholeRods : qm_M := (none, (fun k => qm_lk k pfRX4), (fun k => qm_lk k pcRX4), (fun k => qm_lk k []), qm_tab aX4_wholeRods)
set_option maxRecDepth 20000 in
set_option maxHeartbeats 2000000 in
theorem rX4_wholeRods_2   : ∀ {fuel : Nat} {a0 : Nat} {a1 : Nat} {x2 : Int32} {x3 : Int32} {h : qm_H} {r : qm_H}, qX4_wholeRods_2  fuel a0 a1 x2 x3 h = some r → qm_Ret mX4_wholeRods (2, [some (qm_r 0 4 a0), some (qm_r 0 2 a1), some (qm_i x2), some (qm_i x3)], [], h) (qm_Gv r) := by
  intro fuel
  induction fuel with
  | zero => intros; rename_i ho; cases ho
  | succ n ih =>
    intro a0 a1 x2 x3 h r ho
    unfold qX4_wholeRods_2 at ho
    refine qm_Ret.sts 3 (f' := (7, [some (qm_r 0 4 a0), some (qm_r 0 2 a1), some (qm_i x2), some (qm_i x3)], [qm_i (h.1 a1 2), qm_i x3], h)) rfl ?_
    refine qm_Ret.ge (t := 54) (e := 10) rfl (fun hc => ?_) (fun hc => ?_)
    · rw [if_pos hc] at ho
      refine qm_Ret.sts 2 (f' := (13, [some (qm_r 0 4 a0), some (qm_r 0 2 a1), some (qm_i x2), some (qm_i x3)], [qm_i (6 : Int32), qm_i x3], h)) rfl ?_
      refine qm_Ret.ge (t := 54) (e := 16) rfl (fun hc => ?_) (fun hc => ?_)
      · rw [if_pos hc] at ho
        refine qm_Ret.sts 6 (f' := (26, [some (qm_r 0 4 a0), some (qm_r 0 2 a1), some (qm_i x2), some (qm_i x3)], [qm_i x3, qm_r 1 6 (a1 + 1), qm_i x3, qm_r 1 6 (a0 + 1)], h)) rfl ?_
        obtain ⟨hg, ho⟩ := qm_ifn ho
        refine qm_Ret.gn (f1 := (27, [some (qm_r 0 4 a0), some (qm_r 0 2 a1), some (qm_i x2), some (qm_i x3)], [qm_i (h.1 (a1 + 1) (x3).toNatClampNeg), qm_i x3, qm_r 1 6 (a0 + 1)], h)) hg rfl ?_
        obtain ⟨hg, ho⟩ := qm_ifn ho
        refine qm_Ret.gn (f1 := (28, [some (qm_r 0 4 a0), some (qm_r 0 2 a1), some (qm_i x2), some (qm_i x3)], [], (qm_seti h (a0 + 1) (x3).toNatClampNeg (h.1 (a1 + 1) (x3).toNatClampNeg)))) hg rfl ?_
        refine qm_Ret.lets (F := fun h1 => (28, [some (qm_r 0 4 a0), some (qm_r 0 2 a1), some (qm_i x2), some (qm_i x3)], [], h1)) (G := qm_Gv) ho (fun h1 ho => ?_)
        refine qm_Ret.sts 4 (f' := (34, [some (qm_r 0 4 a0), some (qm_r 0 2 a1), some (qm_i x2), some (qm_i x3)], [qm_i x2, qm_i x3, qm_r 1 6 (a0 + 2)], h1)) rfl ?_
        refine qm_Ret.eq (t := 46) (e := 37) rfl (fun hc => ?_) (fun hc => ?_)
        · rw [if_pos hc] at ho
          refine qm_Ret.sts 1 (f' := (47, [some (qm_r 0 4 a0), some (qm_r 0 2 a1), some (qm_i x2), some (qm_i x3)], [qm_i (1 : Int32), qm_i x3, qm_r 1 6 (a0 + 2)], h1)) rfl ?_
          obtain ⟨hg, ho⟩ := qm_ifn ho
          refine qm_Ret.gn (f1 := (48, [some (qm_r 0 4 a0), some (qm_r 0 2 a1), some (qm_i x2), some (qm_i x3)], [], (qm_seti h1 (a0 + 2) (x3).toNatClampNeg (1 : Int32)))) hg rfl ?_
          refine qm_Ret.lets (F := fun h2 => (48, [some (qm_r 0 4 a0), some (qm_r 0 2 a1), some (qm_i x2), some (qm_i x3)], [], h2)) (G := qm_Gv) ho (fun h2 ho => ?_)
          refine qm_Ret.sts 2 (f' := (2, [some (qm_r 0 4 a0), some (qm_r 0 2 a1), some (qm_i x2), some (qm_i (x3 + (1 : Int32)))], [], h2)) rfl ?_
          exact ih ho
        · rw [if_neg hc] at ho
          refine qm_Ret.sts 3 (f' := (42, [some (qm_r 0 4 a0), some (qm_r 0 2 a1), some (qm_i x2), some (qm_i x3)], [qm_i x3, qm_r 1 6 (a1 + 1), qm_i x3, qm_r 1 6 (a0 + 2)], h1)) rfl ?_
          obtain ⟨hg, ho⟩ := qm_ifn ho
          refine qm_Ret.gn (f1 := (43, [some (qm_r 0 4 a0), some (qm_r 0 2 a1), some (qm_i x2), some (qm_i x3)], [qm_i (h1.1 (a1 + 1) (x3).toNatClampNeg), qm_i x3, qm_r 1 6 (a0 + 2)], h1)) hg rfl ?_
          refine qm_Ret.sts 1 (f' := (47, [some (qm_r 0 4 a0), some (qm_r 0 2 a1), some (qm_i x2), some (qm_i x3)], [qm_i (h1.1 (a1 + 1) (x3).toNatClampNeg), qm_i x3, qm_r 1 6 (a0 + 2)], h1)) rfl ?_
          obtain ⟨hg, ho⟩ := qm_ifn ho
          refine qm_Ret.gn (f1 := (48, [some (qm_r 0 4 a0), some (qm_r 0 2 a1), some (qm_i x2), some (qm_i x3)], [], (qm_seti h1 (a0 + 2) (x3).toNatClampNeg (h1.1 (a1 + 1) (x3).toNatClampNeg)))) hg rfl ?_
          refine qm_Ret.lets (F := fun h3 => (48, [some (qm_r 0 4 a0), some (qm_r 0 2 a1), some (qm_i x2), some (qm_i x3)], [], h3)) (G := qm_Gv) ho (fun h3 ho => ?_)
          refine qm_Ret.sts 2 (f' := (2, [some (qm_r 0 4 a0), some (qm_r 0 2 a1), some (qm_i x2), some (qm_i (x3 + (1 : Int32)))], [], h3)) rfl ?_
          exact ih ho
      · rw [if_neg hc] at ho
        cases ho
        exact qm_Ret.ret 1 rfl
    · rw [if_neg hc] at ho
      cases ho
      exact qm_Ret.ret 1 rfl
set_option maxRecDepth 20000 in
set_option maxHeartbeats 2000000 in
theorem rX4_wholeRods_0   {a0 : Nat} {a1 : Nat} {x2 : Int32} {h : qm_H} {r : qm_H} (ho : qX4_wholeRods  a0 a1 x2 h = some r) : qm_Ret mX4_wholeRods (0, [some (qm_r 0 4 a0), some (qm_r 0 2 a1), some (qm_i x2), none], [], h) (qm_Gv r) := by
  unfold qX4_wholeRods at ho
  refine qm_Ret.sts 2 (f' := (2, [some (qm_r 0 4 a0), some (qm_r 0 2 a1), some (qm_i x2), some (qm_i (0 : Int32))], [], h)) rfl ?_
  exact rX4_wholeRods_2 ho
theorem cX4_wholeRods_ok : ∀ q ∈ ([] : List (Nat × Nat × Nat × qm_C)), qm_CallOK RX4 0 0 q.2.1 q.1 q.2.2.1 q.2.2.2 := fun _ h => absurd h List.not_mem_nil
theorem sX4_wholeRods : qm_Snd yX4_wholeRods cX4_wholeRods 4 none 0 0 wX4_wholeRods := qm_met (fld := fun k => qm_lk k pfRX4) (con := fun k => qm_lk k pcRX4) (call := fun k => qm_lk k []) (tab := qm_tab aX4_wholeRods) (plainFor_of_name (by decide)) (qm_fld_ok pfRX4_ok) (qm_con_ok pcRX4_ok) (fun idx kd n f hc => cX4_wholeRods_ok (idx, kd, n, f) (qm_lk_mem hc)) (qm_tab_ok aX4_wholeRods_ok) (fun vs h o hw => by
  unfold wX4_wholeRods at hw
  split at hw
  · obtain ⟨r, hr, rfl⟩ := Option.map_eq_some_iff.mp hw
    exact ⟨Nat.le_of_ble_eq_true rfl, rX4_wholeRods_0 (hr)⟩
  · cases hw)
theorem recvX4_wholeRods : ∀ vs h o, wX4_wholeRods vs h = some o → ∃ ci a rest, vs = qm_r 0 ci a :: rest ∧ qm_R ci = yX4_wholeRods.cls := by
  intro vs h o hw
  unfold wX4_wholeRods at hw
  split at hw
  · exact ⟨_, _, _, rfl, rfl⟩
  · cases hw
-- RX4 allFrom(LWillowLaw$Parish;I)I
theorem jX4_allFrom : Jvm.Cond.code yX4_allFrom cX4_allFrom 3 (some .int) ∈ qm_all := List.mem_filter.mpr ⟨by decide +kernel, rfl⟩
theorem iX4_allFrom : Jvm.Cond.static yX4_allFrom ∈ qm_all := List.mem_filter.mpr ⟨by decide +kernel, rfl⟩
def wX4_allFrom : qm_C := fun vs h => match vs with
  | [.inr (.inr (some (0, 2, p0))), .inl p1] => (qX4_allFrom p0 p1 h).map qm_Gi
  | _ => none
def aX4_allFrom : List (Option (Instr × Nat)) := [some (.iconst 0, 1), some (.aload_n 0, 1), some (.getfield 78, 3), none, none, some (.bipush 8, 2), none, some (.invokestatic 81, 3), none, none, some (.iload_n 1, 1), some (.isub, 1), some (.invokestatic 57, 3), none, none, some (.istore_n 2, 1), some (.iconst 1, 1), some (.iload_n 2, 1), some (.ishl, 1), some (.iconst 1, 1), some (.isub, 1), some (.ireturn, 1)]
theorem aX4_allFrom_ok : qm_tabok cX4_allFrom aX4_allFrom = true := by decide +kernel
def mX4_allFrom : qm_M := ((some .int), (fun k => qm_lk k pfRX4), (fun k => qm_lk k pcRX4), (fun k => qm_lk k [(81, 2, 2, wJ9_min_7cf53), (57, 2, 2, wJ9_max_7cf53)]), qm_tab aX4_allFrom)
set_option maxRecDepth 20000 in
set_option maxHeartbeats 2000000 in
theorem rX4_allFrom_0   {a0 : Nat} {x1 : Int32} {h : qm_H} {r : Int32 × qm_H} (ho : qX4_allFrom  a0 x1 h = some r) : qm_Ret mX4_allFrom (0, [some (qm_r 0 2 a0), some (qm_i x1), none], [], h) (qm_Gi r) := by
  unfold qX4_allFrom at ho
  refine qm_Ret.sts 4 (f' := (7, [some (qm_r 0 2 a0), some (qm_i x1), none], [qm_i (8 : Int32), qm_i (h.1 a0 3), qm_i (0 : Int32)], h)) rfl ?_
  obtain ⟨r2, h1, hr, ho⟩ := qm_b2e ho
  refine qm_Ret.call (X := wJ9_min_7cf53 [qm_i (h.1 a0 3), qm_i (8 : Int32)] h) (o1 := (some (qm_i r2), h1)) (qm_mp (G := qm_Gi) hr) rfl ?_
  show qm_Ret _ (10, [some (qm_r 0 2 a0), some (qm_i x1), none], [qm_i r2, qm_i (0 : Int32)], h1) _
  refine qm_Ret.sts 2 (f' := (12, [some (qm_r 0 2 a0), some (qm_i x1), none], [qm_i (r2 - x1), qm_i (0 : Int32)], h1)) rfl ?_
  obtain ⟨r4, h3, hr, ho⟩ := qm_b2e ho
  refine qm_Ret.call (X := wJ9_max_7cf53 [qm_i (0 : Int32), qm_i (r2 - x1)] h1) (o1 := (some (qm_i r4), h3)) (qm_mp (G := qm_Gi) hr) rfl ?_
  show qm_Ret _ (15, [some (qm_r 0 2 a0), some (qm_i x1), none], [qm_i r4], h3) _
  cases ho
  exact qm_Ret.ret 7 rfl
theorem cX4_allFrom_ok : ∀ q ∈ ([(81, 2, 2, wJ9_min_7cf53), (57, 2, 2, wJ9_max_7cf53)] : List (Nat × Nat × Nat × qm_C)), qm_CallOK RX4 1 21 q.2.1 q.1 q.2.2.1 q.2.2.2 := List.forall_mem_cons.mpr ⟨Or.inl ⟨yJ9_min_7cf53, cJ9_min_7cf53, 2, (some .int), 0, 0, _, sJ9_min_7cf53, ⟨by decide, by decide⟩, ⟨jJ9_min_7cf53, kRX4_81, uRJ9⟩, ⟨by decide, by decide, rfl⟩, Or.inr (Or.inl ⟨rfl, rfl, iJ9_min_7cf53⟩)⟩, List.forall_mem_cons.mpr ⟨Or.inl ⟨yJ9_max_7cf53, cJ9_max_7cf53, 2, (some .int), 0, 0, _, sJ9_max_7cf53, ⟨by decide, by decide⟩, ⟨jJ9_max_7cf53, kRX4_57, uRJ9⟩, ⟨by decide, by decide, rfl⟩, Or.inr (Or.inl ⟨rfl, rfl, iJ9_max_7cf53⟩)⟩, fun _ h => absurd h List.not_mem_nil⟩⟩
theorem sX4_allFrom : qm_Snd yX4_allFrom cX4_allFrom 3 (some .int) 1 21 wX4_allFrom := qm_met (fld := fun k => qm_lk k pfRX4) (con := fun k => qm_lk k pcRX4) (call := fun k => qm_lk k [(81, 2, 2, wJ9_min_7cf53), (57, 2, 2, wJ9_max_7cf53)]) (tab := qm_tab aX4_allFrom) (plainFor_of_name (by decide)) (qm_fld_ok pfRX4_ok) (qm_con_ok pcRX4_ok) (fun idx kd n f hc => cX4_allFrom_ok (idx, kd, n, f) (qm_lk_mem hc)) (qm_tab_ok aX4_allFrom_ok) (fun vs h o hw => by
  unfold wX4_allFrom at hw
  split at hw
  · obtain ⟨r, hr, rfl⟩ := Option.map_eq_some_iff.mp hw
    exact ⟨Nat.le_of_ble_eq_true rfl, rX4_allFrom_0 (hr)⟩
  · cases hw)
-- RJ6 numberOfTrailingZeros(I)I
theorem jJ6_numberOfTrailingZeros_0f7a4 : Jvm.Cond.code yJ6_numberOfTrailingZeros_0f7a4 cJ6_numberOfTrailingZeros_0f7a4 2 (some .int) ∈ qm_all := List.mem_filter.mpr ⟨by decide +kernel, rfl⟩
theorem iJ6_numberOfTrailingZeros_0f7a4 : Jvm.Cond.static yJ6_numberOfTrailingZeros_0f7a4 ∈ qm_all := List.mem_filter.mpr ⟨by decide +kernel, rfl⟩
def wJ6_numberOfTrailingZeros_0f7a4 : qm_C := fun vs h => match vs with
  | [.inl p0] => (qJ6_numberOfTrailingZeros_0f7a4 p0 h).map qm_Gi
  | _ => none
def aJ6_numberOfTrailingZeros_0f7a4 : List (Option (Instr × Nat)) := [some (.iload_n 0, 1), some (.iconst (-1), 1), some (.ixor, 1), some (.iload_n 0, 1), some (.iconst 1, 1), some (.isub, 1), some (.iand, 1), some (.istore_n 0, 1), some (.iload_n 0, 1), some (.ifCond .gt 8, 3), none, none, some (.iload_n 0, 1), some (.bipush 32, 2), none, some (.iand, 1), some (.ireturn, 1), some (.iconst 1, 1), some (.istore_n 1, 1), some (.iload_n 0, 1), some (.ldc_w 264, 3), none, none, some (.if_icmp .le 11, 3), none, none, some (.iinc 1 16, 3), none, none, some (.iload_n 0, 1), some (.bipush 16, 2), none, some (.iushr, 1), some (.istore_n 0, 1), some (.iload_n 0, 1), some (.sipush 256, 3), none, none, some (.if_icmp .le 11, 3), none, none, some (.iinc 1 8, 3), none, none, some (.iload_n 0, 1), some (.bipush 8, 2), none, some (.iushr, 1), some (.istore_n 0, 1), some (.iload_n 0, 1), some (.bipush 16, 2), none, some (.if_icmp .le 10, 3), none, none, some (.iinc 1 4, 3), none, none, some (.iload_n 0, 1), some (.iconst 4, 1), some (.iushr, 1), some (.istore_n 0, 1), some (.iload_n 0, 1), some (.iconst 4, 1), some (.if_icmp .le 10, 3), none, none, some (.iinc 1 2, 3), none, none, some (.iload_n 0, 1), some (.iconst 2, 1), some (.iushr, 1), some (.istore_n 0, 1), some (.iload_n 1, 1), some (.iload_n 0, 1), some (.iconst 1, 1), some (.iushr, 1), some (.iadd, 1), some (.ireturn, 1)]
theorem aJ6_numberOfTrailingZeros_0f7a4_ok : qm_tabok cJ6_numberOfTrailingZeros_0f7a4 aJ6_numberOfTrailingZeros_0f7a4 = true := by decide +kernel
def mJ6_numberOfTrailingZeros_0f7a4 : qm_M := ((some .int), (fun k => qm_lk k pfRJ6), (fun k => qm_lk k pcRJ6), (fun k => qm_lk k []), qm_tab aJ6_numberOfTrailingZeros_0f7a4)
set_option maxRecDepth 20000 in
set_option maxHeartbeats 2000000 in
theorem rJ6_numberOfTrailingZeros_0f7a4_62   {x0 : Int32} {x1 : Int32} {h : qm_H} {r : Int32 × qm_H} (ho : qJ6_numberOfTrailingZeros_0f7a4_62  x0 x1 h = some r) : qm_Ret mJ6_numberOfTrailingZeros_0f7a4 (62, [some (qm_i x0), some (qm_i x1)], [], h) (qm_Gi r) := by
  unfold qJ6_numberOfTrailingZeros_0f7a4_62 at ho
  refine qm_Ret.sts 2 (f' := (64, [some (qm_i x0), some (qm_i x1)], [qm_i (4 : Int32), qm_i x0], h)) rfl ?_
  refine qm_Ret.le (t := 74) (e := 67) rfl (fun hc => ?_) (fun hc => ?_)
  · rw [if_pos hc] at ho
    refine qm_Ret.sts 4 (f' := (73, [some (qm_i x0), some (qm_i (x1 + (2 : Int32)))], [qm_i (qm_iushr x0 (2 : Int32))], h)) rfl ?_
    refine qm_Ret.lets (F := fun v1 => (73, [some (qm_i x0), some (qm_i (x1 + (2 : Int32)))], [qm_i v1], h)) (G := qm_Gi) ho (fun v1 ho => ?_)
    cases ho
    exact qm_Ret.ret 7 rfl
  · rw [if_neg hc] at ho
    cases ho
    exact qm_Ret.ret 6 rfl
set_option maxRecDepth 20000 in
set_option maxHeartbeats 2000000 in
theorem rJ6_numberOfTrailingZeros_0f7a4_34   {x0 : Int32} {x1 : Int32} {h : qm_H} {r : Int32 × qm_H} (ho : qJ6_numberOfTrailingZeros_0f7a4_34  x0 x1 h = some r) : qm_Ret mJ6_numberOfTrailingZeros_0f7a4 (34, [some (qm_i x0), some (qm_i x1)], [], h) (qm_Gi r) := by
  unfold qJ6_numberOfTrailingZeros_0f7a4_34 at ho
  refine qm_Ret.sts 2 (f' := (38, [some (qm_i x0), some (qm_i x1)], [qm_i (256 : Int32), qm_i x0], h)) rfl ?_
  refine qm_Ret.le (t := 49) (e := 41) rfl (fun hc => ?_) (fun hc => ?_)
  · rw [if_pos hc] at ho
    refine qm_Ret.sts 4 (f' := (48, [some (qm_i x0), some (qm_i (x1 + (8 : Int32)))], [qm_i (qm_iushr x0 (8 : Int32))], h)) rfl ?_
    refine qm_Ret.lets (F := fun v2 => (48, [some (qm_i x0), some (qm_i (x1 + (8 : Int32)))], [qm_i v2], h)) (G := qm_Gi) ho (fun v2 ho => ?_)
    refine qm_Ret.sts 3 (f' := (52, [some (qm_i v2), some (qm_i (x1 + (8 : Int32)))], [qm_i (16 : Int32), qm_i v2], h)) rfl ?_
    refine qm_Ret.le (t := 62) (e := 55) rfl (fun hc => ?_) (fun hc => ?_)
    · rw [if_pos hc] at ho
      refine qm_Ret.sts 4 (f' := (61, [some (qm_i v2), some (qm_i ((x1 + (8 : Int32)) + (4 : Int32)))], [qm_i (qm_iushr v2 (4 : Int32))], h)) rfl ?_
      refine qm_Ret.lets (F := fun v3 => (61, [some (qm_i v2), some (qm_i ((x1 + (8 : Int32)) + (4 : Int32)))], [qm_i v3], h)) (G := qm_Gi) ho (fun v3 ho => ?_)
      refine qm_Ret.sts 1 (f' := (62, [some (qm_i v3), some (qm_i ((x1 + (8 : Int32)) + (4 : Int32)))], [], h)) rfl ?_
      exact rJ6_numberOfTrailingZeros_0f7a4_62 ho
    · rw [if_neg hc] at ho
      exact rJ6_numberOfTrailingZeros_0f7a4_62 ho
  · rw [if_neg hc] at ho
    refine qm_Ret.sts 2 (f' := (52, [some (qm_i x0), some (qm_i x1)], [qm_i (16 : Int32), qm_i x0], h)) rfl ?_
    refine qm_Ret.le (t := 62) (e := 55) rfl (fun hc => ?_) (fun hc => ?_)
    · rw [if_pos hc] at ho
      refine qm_Ret.sts 4 (f' := (61, [some (qm_i x0), some (qm_i (x1 + (4 : Int32)))], [qm_i (qm_iushr x0 (4 : Int32))], h)) rfl ?_
      refine qm_Ret.lets (F := fun v1 => (61, [some (qm_i x0), some (qm_i (x1 + (4 : Int32)))], [qm_i v1], h)) (G := qm_Gi) ho (fun v1 ho => ?_)
      refine qm_Ret.sts 1 (f' := (62, [some (qm_i v1), some (qm_i (x1 + (4 : Int32)))], [], h)) rfl ?_
      exact rJ6_numberOfTrailingZeros_0f7a4_62 ho
    · rw [if_neg hc] at ho
      exact rJ6_numberOfTrailingZeros_0f7a4_62 ho
set_option maxRecDepth 20000 in
set_option maxHeartbeats 2000000 in
theorem rJ6_numberOfTrailingZeros_0f7a4_0   {x0 : Int32} {h : qm_H} {r : Int32 × qm_H} (ho : qJ6_numberOfTrailingZeros_0f7a4  x0 h = some r) : qm_Ret mJ6_numberOfTrailingZeros_0f7a4 (0, [some (qm_i x0), none], [], h) (qm_Gi r) := by
  unfold qJ6_numberOfTrailingZeros_0f7a4 at ho
  refine qm_Ret.sts 7 (f' := (7, [some (qm_i x0), none], [qm_i ((x0 ^^^ (-1 : Int32)) &&& (x0 - (1 : Int32)))], h)) rfl ?_
  refine qm_Ret.lets (F := fun v1 => (7, [some (qm_i x0), none], [qm_i v1], h)) (G := qm_Gi) ho (fun v1 ho => ?_)
  refine qm_Ret.sts 2 (f' := (9, [some (qm_i v1), none], [qm_i v1], h)) rfl ?_
  refine qm_Ret.gt (t := 17) (e := 12) rfl (fun hc => ?_) (fun hc => ?_)
  · rw [if_pos hc] at ho
    refine qm_Ret.sts 4 (f' := (23, [some (qm_i v1), some (qm_i (1 : Int32))], [qm_i (65536 : Int32), qm_i v1], h)) rfl ?_
    refine qm_Ret.le (t := 34) (e := 26) rfl (fun hc => ?_) (fun hc => ?_)
    · rw [if_pos hc] at ho
      refine qm_Ret.sts 4 (f' := (33, [some (qm_i v1), some (qm_i ((1 : Int32) + (16 : Int32)))], [qm_i (qm_iushr v1 (16 : Int32))], h)) rfl ?_
      refine qm_Ret.lets (F := fun v2 => (33, [some (qm_i v1), some (qm_i ((1 : Int32) + (16 : Int32)))], [qm_i v2], h)) (G := qm_Gi) ho (fun v2 ho => ?_)
      refine qm_Ret.sts 1 (f' := (34, [some (qm_i v2), some (qm_i ((1 : Int32) + (16 : Int32)))], [], h)) rfl ?_
      exact rJ6_numberOfTrailingZeros_0f7a4_34 ho
    · rw [if_neg hc] at ho
      exact rJ6_numberOfTrailingZeros_0f7a4_34 ho
  · rw [if_neg hc] at ho
    cases ho
    exact qm_Ret.ret 4 rfl
theorem cJ6_numberOfTrailingZeros_0f7a4_ok : ∀ q ∈ ([] : List (Nat × Nat × Nat × qm_C)), qm_CallOK RJ6 0 0 q.2.1 q.1 q.2.2.1 q.2.2.2 := fun _ h => absurd h List.not_mem_nil
theorem sJ6_numberOfTrailingZeros_0f7a4 : qm_Snd yJ6_numberOfTrailingZeros_0f7a4 cJ6_numberOfTrailingZeros_0f7a4 2 (some .int) 0 0 wJ6_numberOfTrailingZeros_0f7a4 := qm_met (fld := fun k => qm_lk k pfRJ6) (con := fun k => qm_lk k pcRJ6) (call := fun k => qm_lk k []) (tab := qm_tab aJ6_numberOfTrailingZeros_0f7a4) (by decide +kernel) (qm_fld_ok pfRJ6_ok) (qm_con_ok pcRJ6_ok) (fun idx kd n f hc => cJ6_numberOfTrailingZeros_0f7a4_ok (idx, kd, n, f) (qm_lk_mem hc)) (qm_tab_ok aJ6_numberOfTrailingZeros_0f7a4_ok) (fun vs h o hw => by
  unfold wJ6_numberOfTrailingZeros_0f7a4 at hw
  split at hw
  · obtain ⟨r, hr, rfl⟩ := Option.map_eq_some_iff.mp hw
    exact ⟨Nat.le_of_ble_eq_true rfl, rJ6_numberOfTrailingZeros_0f7a4_0 (hr)⟩
  · cases hw)
-- RX4 packInto(II)V
theorem jX4_packInto : Jvm.Cond.code yX4_packInto cX4_packInto 5 none ∈ qm_all := List.mem_filter.mpr ⟨by decide +kernel, rfl⟩
theorem iX4_packInto : Jvm.Cond.instanceMethod yX4_packInto ∈ qm_all ∧ Jvm.Cond.selects yX4_packInto.cls yX4_packInto yX4_packInto ∈ qm_all := ⟨List.mem_filter.mpr ⟨by decide +kernel, rfl⟩, List.mem_filter.mpr ⟨by decide +kernel, rfl⟩⟩
def wX4_packInto : qm_C := fun vs h => match vs with
  | [.inr (.inr (some (0, 4, p0))), .inl p1, .inl p2] => (qX4_packInto p0 p1 p2 h).map qm_Gv
  | _ => none
def aX4_packInto : List (Option (Instr × Nat)) := [some (.iload_n 2, 1), some (.istore_n 3, 1), some (.iload_n 3, 1), some (.ifCond .le 75, 3), none, none, some (.iload_n 3, 1), some (.istore 4, 2), none, some (.iload 4, 2), none, some (.ifCond .le 61, 3), none, none, some (.aload_n 0, 1), some (.getfield 20, 3), none, none, some (.iload 4, 2), none, some (.iaload, 1), some (.aload_n 0, 1), some (.getfield 11, 3), none, none, some (.iload_n 1, 1), some (.iaload, 1), some (.if_icmp .gt 34, 3), none, none, some (.aload_n 0, 1), some (.getfield 23, 3), none, none, some (.iload_n 3, 1), some (.aload_n 0, 1), some (.getfield 23, 3), none, none, some (.iload_n 3, 1), some (.iaload, 1), some (.aload_n 0, 1), some (.getfield 23, 3), none, none, some (.iload_n 3, 1), some (.iload 4, 2), none, some (.ixor, 1), some (.iaload, 1), some (.aload_n 0, 1), some (.getfield 17, 3), none, none, some (.iload_n 1, 1), some (.iaload, 1), some (.iadd, 1), some (.invokestatic 81, 3), none, none, some (.iastore, 1), some (.iload 4, 2), none, some (.iconst 1, 1), some (.isub, 1), some (.iload_n 3, 1), some (.iand, 1), some (.istore 4, 2), none, some (.goto (-60), 3), none, none, some (.iinc 3 (-1), 3), none, none, some (.goto (-73), 3), none, none, some (.return_, 1)]
theorem aX4_packInto_ok : qm_tabok cX4_packInto aX4_packInto = true := by decide +kernel
def mX4_packInto : qm_M := (none, (fun k => qm_lk k pfRX4), (fun k => qm_lk k pcRX4), (fun k => qm_lk k [(81, 2, 2, wJ9_min_7cf53)]), qm_tab aX4_packInto)
set_option maxRecDepth 20000 in
set_option maxHeartbeats 2000000 in
theorem rX4_packInto_9 {K2 : Nat → Int32 → Int32 → qm_H → Option (qm_H)} (H2 : ∀ {a0 : Nat} {x1 : Int32} {x3 : Int32} {xd2 : Int32} {d4 : Option qm_V} {h : qm_H} {r : qm_H}, K2 a0 x1 x3 h = some r → qm_Ret mX4_packInto (2, [some (qm_r 0 4 a0), some (qm_i x1), some (qm_i xd2), some (qm_i x3), d4], [], h) (qm_Gv r)) : ∀ {fuel : Nat} {a0 : Nat} {x1 : Int32} {x3 : Int32} {x4 : Int32} {xd2 : Int32} {h : qm_H} {r : qm_H}, qX4_packInto_9 K2 fuel a0 x1 x3 x4 h = some r → qm_Ret mX4_packInto (9, [some (qm_r 0 4 a0), some (qm_i x1), some (qm_i xd2), some (qm_i x3), some (qm_i x4)], [], h) (qm_Gv r) := by
  intro fuel
  induction fuel with
  | zero => intros; rename_i ho; cases ho
  | succ n ih =>
    intro a0 x1 x3 x4 xd2 h r ho
    unfold qX4_packInto_9 at ho
    refine qm_Ret.sts 1 (f' := (11, [some (qm_r 0 4 a0), some (qm_i x1), some (qm_i xd2), some (qm_i x3), some (qm_i x4)], [qm_i x4], h)) rfl ?_
    refine qm_Ret.le (t := 72) (e := 14) rfl (fun hc => ?_) (fun hc => ?_)
    · rw [if_pos hc] at ho
      refine qm_Ret.sts 3 (f' := (20, [some (qm_r 0 4 a0), some (qm_i x1), some (qm_i xd2), some (qm_i x3), some (qm_i x4)], [qm_i x4, qm_r 1 256 (a0 + 3)], h)) rfl ?_
      obtain ⟨hg, ho⟩ := qm_ifn ho
      refine qm_Ret.gn (f1 := (21, [some (qm_r 0 4 a0), some (qm_i x1), some (qm_i xd2), some (qm_i x3), some (qm_i x4)], [qm_i (h.1 (a0 + 3) (x4).toNatClampNeg)], h)) hg rfl ?_
      refine qm_Ret.sts 3 (f' := (26, [some (qm_r 0 4 a0), some (qm_i x1), some (qm_i xd2), some (qm_i x3), some (qm_i x4)], [qm_i x1, qm_r 1 6 (a0 + 1), qm_i (h.1 (a0 + 3) (x4).toNatClampNeg)], h)) rfl ?_
      obtain ⟨hg, ho⟩ := qm_ifn ho
      refine qm_Ret.gn (f1 := (27, [some (qm_r 0 4 a0), some (qm_i x1), some (qm_i xd2), some (qm_i x3), some (qm_i x4)], [qm_i (h.1 (a0 + 1) (x1).toNatClampNeg), qm_i (h.1 (a0 + 3) (x4).toNatClampNeg)], h)) hg rfl ?_
      refine qm_Ret.gt (t := 61) (e := 30) rfl (fun hc => ?_) (fun hc => ?_)
      · rw [if_pos hc] at ho
        refine qm_Ret.sts 5 (f' := (67, [some (qm_r 0 4 a0), some (qm_i x1), some (qm_i xd2), some (qm_i x3), some (qm_i x4)], [qm_i ((x4 - (1 : Int32)) &&& x3)], h)) rfl ?_
        refine qm_Ret.lets (F := fun v1 => (67, [some (qm_r 0 4 a0), some (qm_i x1), some (qm_i xd2), some (qm_i x3), some (qm_i x4)], [qm_i v1], h)) (G := qm_Gv) ho (fun v1 ho => ?_)
        refine qm_Ret.sts 2 (f' := (9, [some (qm_r 0 4 a0), some (qm_i x1), some (qm_i xd2), some (qm_i x3), some (qm_i v1)], [], h)) rfl ?_
        exact ih ho
      · rw [if_neg hc] at ho
        refine qm_Ret.sts 6 (f' := (40, [some (qm_r 0 4 a0), some (qm_i x1), some (qm_i xd2), some (qm_i x3), some (qm_i x4)], [qm_i x3, qm_r 1 256 (a0 + 4), qm_i x3, qm_r 1 256 (a0 + 4)], h)) rfl ?_
        obtain ⟨hg, ho⟩ := qm_ifn ho
        refine qm_Ret.gn (f1 := (41, [some (qm_r 0 4 a0), some (qm_i x1), some (qm_i xd2), some (qm_i x3), some (qm_i x4)], [qm_i (h.1 (a0 + 4) (x3).toNatClampNeg), qm_i x3, qm_r 1 256 (a0 + 4)], h)) hg rfl ?_
        refine qm_Ret.sts 5 (f' := (49, [some (qm_r 0 4 a0), some (qm_i x1), some (qm_i xd2), some (qm_i x3), some (qm_i x4)], [qm_i (x3 ^^^ x4), qm_r 1 256 (a0 + 4), qm_i (h.1 (a0 + 4) (x3).toNatClampNeg), qm_i x3, qm_r 1 256 (a0 + 4)], h)) rfl ?_
        obtain ⟨hg, ho⟩ := qm_ifn ho
        refine qm_Ret.gn (f1 := (50, [some (qm_r 0 4 a0), some (qm_i x1), some (qm_i xd2), some (qm_i x3), some (qm_i x4)], [qm_i (h.1 (a0 + 4) (x3 ^^^ x4).toNatClampNeg), qm_i (h.1 (a0 + 4) (x3).toNatClampNeg), qm_i x3, qm_r 1 256 (a0 + 4)], h)) hg rfl ?_
        refine qm_Ret.sts 3 (f' := (55, [some (qm_r 0 4 a0), some (qm_i x1), some (qm_i xd2), some (qm_i x3), some (qm_i x4)], [qm_i x1, qm_r 1 6 (a0 + 2), qm_i (h.1 (a0 + 4) (x3 ^^^ x4).toNatClampNeg), qm_i (h.1 (a0 + 4) (x3).toNatClampNeg), qm_i x3, qm_r 1 256 (a0 + 4)], h)) rfl ?_
        obtain ⟨hg, ho⟩ := qm_ifn ho
        refine qm_Ret.gn (f1 := (56, [some (qm_r 0 4 a0), some (qm_i x1), some (qm_i xd2), some (qm_i x3), some (qm_i x4)], [qm_i (h.1 (a0 + 2) (x1).toNatClampNeg), qm_i (h.1 (a0 + 4) (x3 ^^^ x4).toNatClampNeg), qm_i (h.1 (a0 + 4) (x3).toNatClampNeg), qm_i x3, qm_r 1 256 (a0 + 4)], h)) hg rfl ?_
        refine qm_Ret.sts 1 (f' := (57, [some (qm_r 0 4 a0), some (qm_i x1), some (qm_i xd2), some (qm_i x3), some (qm_i x4)], [qm_i ((h.1 (a0 + 4) (x3 ^^^ x4).toNatClampNeg) + (h.1 (a0 + 2) (x1).toNatClampNeg)), qm_i (h.1 (a0 + 4) (x3).toNatClampNeg), qm_i x3, qm_r 1 256 (a0 + 4)], h)) rfl ?_
        obtain ⟨r3, h2, hr, ho⟩ := qm_b2e ho
        refine qm_Ret.call (X := wJ9_min_7cf53 [qm_i (h.1 (a0 + 4) (x3).toNatClampNeg), qm_i ((h.1 (a0 + 4) (x3 ^^^ x4).toNatClampNeg) + (h.1 (a0 + 2) (x1).toNatClampNeg))] h) (o1 := (some (qm_i r3), h2)) (qm_mp (G := qm_Gi) hr) rfl ?_
        show qm_Ret _ (60, [some (qm_r 0 4 a0), some (qm_i x1), some (qm_i xd2), some (qm_i x3), some (qm_i x4)], [qm_i r3, qm_i x3, qm_r 1 256 (a0 + 4)], h2) _
        obtain ⟨hg, ho⟩ := qm_ifn ho
        refine qm_Ret.gn (f1 := (61, [some (qm_r 0 4 a0), some (qm_i x1), some (qm_i xd2), some (qm_i x3), some (qm_i x4)], [], (qm_seti h2 (a0 + 4) (x3).toNatClampNeg r3))) hg rfl ?_
        refine qm_Ret.lets (F := fun h4 => (61, [some (qm_r 0 4 a0), some (qm_i x1), some (qm_i xd2), some (qm_i x3), some (qm_i x4)], [], h4)) (G := qm_Gv) ho (fun h4 ho => ?_)
        refine qm_Ret.sts 5 (f' := (67, [some (qm_r 0 4 a0), some (qm_i x1), some (qm_i xd2), some (qm_i x3), some (qm_i x4)], [qm_i ((x4 - (1 : Int32)) &&& x3)], h4)) rfl ?_
        refine qm_Ret.lets (F := fun v5 => (67, [some (qm_r 0 4 a0), some (qm_i x1), some (qm_i xd2), some (qm_i x3), some (qm_i x4)], [qm_i v5], h4)) (G := qm_Gv) ho (fun v5 ho => ?_)
        refine qm_Ret.sts 2 (f' := (9, [some (qm_r 0 4 a0), some (qm_i x1), some (qm_i xd2), some (qm_i x3), some (qm_i v5)], [], h4)) rfl ?_
        exact ih ho
    · rw [if_neg hc] at ho
      refine qm_Ret.sts 2 (f' := (2, [some (qm_r 0 4 a0), some (qm_i x1), some (qm_i xd2), some (qm_i (x3 + (-1 : Int32))), some (qm_i x4)], [], h)) rfl ?_
      exact H2 ho
set_option maxRecDepth 20000 in
set_option maxHeartbeats 2000000 in
theorem rX4_packInto_2   : ∀ {fuel : Nat} {a0 : Nat} {x1 : Int32} {x3 : Int32} {xd2 : Int32} {d4 : Option qm_V} {h : qm_H} {r : qm_H}, qX4_packInto_2  fuel a0 x1 x3 h = some r → qm_Ret mX4_packInto (2, [some (qm_r 0 4 a0), some (qm_i x1), some (qm_i xd2), some (qm_i x3), d4], [], h) (qm_Gv r) := by
  intro fuel
  induction fuel with
  | zero => intros; rename_i ho; cases ho
  | succ n ih =>
    intro a0 x1 x3 xd2 d4 h r ho
    unfold qX4_packInto_2 at ho
    refine qm_Ret.sts 1 (f' := (3, [some (qm_r 0 4 a0), some (qm_i x1), some (qm_i xd2), some (qm_i x3), d4], [qm_i x3], h)) rfl ?_
    refine qm_Ret.le (t := 78) (e := 6) rfl (fun hc => ?_) (fun hc => ?_)
    · rw [if_pos hc] at ho
      refine qm_Ret.sts 2 (f' := (9, [some (qm_r 0 4 a0), some (qm_i x1), some (qm_i xd2), some (qm_i x3), some (qm_i x3)], [], h)) rfl ?_
      exact rX4_packInto_9 (ih) ho
    · rw [if_neg hc] at ho
      cases ho
      exact qm_Ret.ret 1 rfl
set_option maxRecDepth 20000 in
set_option maxHeartbeats 2000000 in
theorem rX4_packInto_0   {a0 : Nat} {x1 : Int32} {x2 : Int32} {h : qm_H} {r : qm_H} (ho : qX4_packInto  a0 x1 x2 h = some r) : qm_Ret mX4_packInto (0, [some (qm_r 0 4 a0), some (qm_i x1), some (qm_i x2), none, none], [], h) (qm_Gv r) := by
  unfold qX4_packInto at ho
  refine qm_Ret.sts 2 (f' := (2, [some (qm_r 0 4 a0), some (qm_i x1), some (qm_i x2), some (qm_i x2), none], [], h)) rfl ?_
  exact rX4_packInto_2 ho
theorem cX4_packInto_ok : ∀ q ∈ ([(81, 2, 2, wJ9_min_7cf53)] : List (Nat × Nat × Nat × qm_C)), qm_CallOK RX4 1 21 q.2.1 q.1 q.2.2.1 q.2.2.2 := List.forall_mem_cons.mpr ⟨Or.inl ⟨yJ9_min_7cf53, cJ9_min_7cf53, 2, (some .int), 0, 0, _, sJ9_min_7cf53, ⟨by decide, by decide⟩, ⟨jJ9_min_7cf53, kRX4_81, uRJ9⟩, ⟨by decide, by decide, rfl⟩, Or.inr (Or.inl ⟨rfl, rfl, iJ9_min_7cf53⟩)⟩, fun _ h => absurd h List.not_mem_nil⟩
theorem sX4_packInto : qm_Snd yX4_packInto cX4_packInto 5 none 1 21 wX4_packInto := qm_met (fld := fun k => qm_lk k pfRX4) (con := fun k => qm_lk k pcRX4) (call := fun k => qm_lk k [(81, 2, 2, wJ9_min_7cf53)]) (tab := qm_tab aX4_packInto) (plainFor_of_name (by decide)) (qm_fld_ok pfRX4_ok) (qm_con_ok pcRX4_ok) (fun idx kd n f hc => cX4_packInto_ok (idx, kd, n, f) (qm_lk_mem hc)) (qm_tab_ok aX4_packInto_ok) (fun vs h o hw => by
  unfold wX4_packInto at hw
  split at hw
  · obtain ⟨r, hr, rfl⟩ := Option.map_eq_some_iff.mp hw
    exact ⟨Nat.le_of_ble_eq_true rfl, rX4_packInto_0 (hr)⟩
  · cases hw)
theorem recvX4_packInto : ∀ vs h o, wX4_packInto vs h = some o → ∃ ci a rest, vs = qm_r 0 ci a :: rest ∧ qm_R ci = yX4_packInto.cls := by
  intro vs h o hw
  unfold wX4_packInto at hw
  split at hw
  · exact ⟨_, _, _, rfl, rfl⟩
  · cases hw
-- RX4 pack(LWillowLaw$Parish;I)I
theorem jX4_pack : Jvm.Cond.code yX4_pack cX4_pack 6 (some .int) ∈ qm_all := List.mem_filter.mpr ⟨by decide +kernel, rfl⟩
theorem iX4_pack : Jvm.Cond.instanceMethod yX4_pack ∈ qm_all ∧ Jvm.Cond.selects yX4_pack.cls yX4_pack yX4_pack ∈ qm_all := ⟨List.mem_filter.mpr ⟨by decide +kernel, rfl⟩, List.mem_filter.mpr ⟨by decide +kernel, rfl⟩⟩
def wX4_pack : qm_C := fun vs h => match vs with
  | [.inr (.inr (some (0, 4, p0))), .inr (.inr (some (0, 2, p1))), .inl p2] => (qX4_pack p0 p1 p2 h).map qm_Gi
  | _ => none
def aX4_pack : List (Option (Instr × Nat)) := [some (.aload_n 1, 1), some (.iload_n 2, 1), some (.invokestatic 48, 3), none, none, some (.istore_n 3, 1), some (.aload_n 0, 1), some (.getfield 20, 3), none, none, some (.iconst 0, 1), some (.iconst 0, 1), some (.iastore, 1), some (.aload_n 0, 1), some (.getfield 23, 3), none, none, some (.iconst 0, 1), some (.iconst 0, 1), some (.iastore, 1), some (.iconst 1, 1), some (.istore 4, 2), none, some (.iload 4, 2), none, some (.iload_n 3, 1), some (.if_icmp .gt 73, 3), none, none, some (.iload 4, 2), none, some (.sipush 256, 3), none, none, some (.if_icmp .ge 65, 3), none, none, some (.iload_n 2, 1), some (.iload 4, 2), none, some (.invokestatic 84, 3), none, none, some (.iadd, 1), some (.istore 5, 2), none, some (.aload_n 0, 1), some (.getfield 20, 3), none, none, some (.iload 4, 2), none, some (.aload_n 0, 1), some (.getfield 20, 3), none, none, some (.iload 4, 2), none, some (.iload 4, 2), none, some (.iconst 1, 1), some (.isub, 1), some (.iand, 1), some (.iaload, 1), some (.iload 5, 2), none, some (.bipush 8, 2), none, some (.if_icmp .ge 13, 3), none, none, some (.aload_n 1, 1), some (.getfield 71, 3), none, none, some (.iload 5, 2), none, some (.iaload, 1), some (.goto 4, 3), none, none, some (.iconst 0, 1), some (.iadd, 1), some (.iastore, 1), some (.aload_n 0, 1), some (.getfield 23, 3), none, none, some (.iload 4, 2), none, some (.ldc 47, 2), none, some (.iastore, 1), some (.iinc 4 1, 3), none, none, some (.goto (-73), 3), none, none, some (.iconst 0, 1), some (.istore 4, 2), none, some (.iload 4, 2), none, some (.aload_n 1, 1), some (.getfield 32, 3), none, none, some (.if_icmp .ge 23, 3), none, none, some (.iload 4, 2), none, some (.bipush 6, 2), none, some (.if_icmp .ge 16, 3), none, none, some (.aload_n 0, 1), some (.iload 4, 2), none, some (.iload_n 3, 1), some (.invokevirtual 87, 3), none, none, some (.iinc 4 1, 3), none, none, some (.goto (-26), 3), none, none, some (.iload_n 3, 1), some (.sipush 256, 3), none, none, some (.if_icmp .ge 12, 3), none, none, some (.aload_n 0, 1), some (.getfield 23, 3), none, none, some (.iload_n 3, 1), some (.iaload, 1), some (.goto 5, 3), none, none, some (.ldc 47, 2), none, some (.ireturn, 1)]
theorem aX4_pack_ok : qm_tabok cX4_pack aX4_pack = true := by decide +kernel
def mX4_pack : qm_M := ((some .int), (fun k => qm_lk k pfRX4), (fun k => qm_lk k pcRX4), (fun k => qm_lk k [(87, 0, 3, wX4_packInto), (84, 2, 1, wJ6_numberOfTrailingZeros_0f7a4), (48, 2, 2, wX4_allFrom)]), qm_tab aX4_pack)
set_option maxRecDepth 20000 in
set_option maxHeartbeats 2000000 in
theorem rX4_pack_102   : ∀ {fuel : Nat} {a0 : Nat} {a1 : Nat} {x3 : Int32} {x4 : Int32} {xd2 : Int32} {d5 : Option qm_V} {h : qm_H} {r : Int32 × qm_H}, qX4_pack_102  fuel a0 a1 x3 x4 h = some r → qm_Ret mX4_pack (102, [some (qm_r 0 4 a0), some (qm_r 0 2 a1), some (qm_i xd2), some (qm_i x3), some (qm_i x4), d5], [], h) (qm_Gi r) := by
  intro fuel
  induction fuel with
  | zero => intros; rename_i ho; cases ho
  | succ n ih =>
    intro a0 a1 x3 x4 xd2 d5 h r ho
    unfold qX4_pack_102 at ho
    refine qm_Ret.sts 3 (f' := (108, [some (qm_r 0 4 a0), some (qm_r 0 2 a1), some (qm_i xd2), some (qm_i x3), some (qm_i x4), d5], [qm_i (h.1 a1 2), qm_i x4], h)) rfl ?_
    refine qm_Ret.ge (t := 131) (e := 111) rfl (fun hc => ?_) (fun hc => ?_)
    · rw [if_pos hc] at ho
      refine qm_Ret.sts 2 (f' := (115, [some (qm_r 0 4 a0), some (qm_r 0 2 a1), some (qm_i xd2), some (qm_i x3), some (qm_i x4), d5], [qm_i (6 : Int32), qm_i x4], h)) rfl ?_
      refine qm_Ret.ge (t := 131) (e := 118) rfl (fun hc => ?_) (fun hc => ?_)
      · rw [if_pos hc] at ho
        refine qm_Ret.sts 3 (f' := (122, [some (qm_r 0 4 a0), some (qm_r 0 2 a1), some (qm_i xd2), some (qm_i x3), some (qm_i x4), d5], [qm_i x3, qm_i x4, qm_r 0 4 a0], h)) rfl ?_
        obtain ⟨h1, hr, ho⟩ := qm_bd ho
        refine qm_Ret.call (X := wX4_packInto [qm_r 0 4 a0, qm_i x4, qm_i x3] h) (o1 := (none, h1)) (qm_mp (G := qm_Gv) hr) rfl ?_
        show qm_Ret _ (125, [some (qm_r 0 4 a0), some (qm_r 0 2 a1), some (qm_i xd2), some (qm_i x3), some (qm_i x4), d5], [], h1) _
        refine qm_Ret.sts 2 (f' := (102, [some (qm_r 0 4 a0), some (qm_r 0 2 a1), some (qm_i xd2), some (qm_i x3), some (qm_i (x4 + (1 : Int32))), d5], [], h1)) rfl ?_
        exact ih ho
      · rw [if_neg hc] at ho
        refine qm_Ret.sts 2 (f' := (135, [some (qm_r 0 4 a0), some (qm_r 0 2 a1), some (qm_i xd2), some (qm_i x3), some (qm_i x4), d5], [qm_i (256 : Int32), qm_i x3], h)) rfl ?_
        refine qm_Ret.ge (t := 147) (e := 138) rfl (fun hc => ?_) (fun hc => ?_)
        · rw [if_pos hc] at ho
          refine qm_Ret.sts 3 (f' := (143, [some (qm_r 0 4 a0), some (qm_r 0 2 a1), some (qm_i xd2), some (qm_i x3), some (qm_i x4), d5], [qm_i x3, qm_r 1 256 (a0 + 4)], h)) rfl ?_
          obtain ⟨hg, ho⟩ := qm_ifn ho
          refine qm_Ret.gn (f1 := (144, [some (qm_r 0 4 a0), some (qm_r 0 2 a1), some (qm_i xd2), some (qm_i x3), some (qm_i x4), d5], [qm_i (h.1 (a0 + 4) (x3).toNatClampNeg)], h)) hg rfl ?_
          cases ho
          exact qm_Ret.ret 2 rfl
        · rw [if_neg hc] at ho
          cases ho
          exact qm_Ret.ret 2 rfl
    · rw [if_neg hc] at ho
      refine qm_Ret.sts 2 (f' := (135, [some (qm_r 0 4 a0), some (qm_r 0 2 a1), some (qm_i xd2), some (qm_i x3), some (qm_i x4), d5], [qm_i (256 : Int32), qm_i x3], h)) rfl ?_
      refine qm_Ret.ge (t := 147) (e := 138) rfl (fun hc => ?_) (fun hc => ?_)
      · rw [if_pos hc] at ho
        refine qm_Ret.sts 3 (f' := (143, [some (qm_r 0 4 a0), some (qm_r 0 2 a1), some (qm_i xd2), some (qm_i x3), some (qm_i x4), d5], [qm_i x3, qm_r 1 256 (a0 + 4)], h)) rfl ?_
        obtain ⟨hg, ho⟩ := qm_ifn ho
        refine qm_Ret.gn (f1 := (144, [some (qm_r 0 4 a0), some (qm_r 0 2 a1), some (qm_i xd2), some (qm_i x3), some (qm_i x4), d5], [qm_i (h.1 (a0 + 4) (x3).toNatClampNeg)], h)) hg rfl ?_
        cases ho
        exact qm_Ret.ret 2 rfl
      · rw [if_neg hc] at ho
        cases ho
        exact qm_Ret.ret 2 rfl
set_option maxRecDepth 20000 in
set_option maxHeartbeats 2000000 in
theorem rX4_pack_23   : ∀ {fuel : Nat} {a0 : Nat} {a1 : Nat} {x2 : Int32} {x3 : Int32} {x4 : Int32} {d5 : Option qm_V} {h : qm_H} {r : Int32 × qm_H}, qX4_pack_23  fuel a0 a1 x2 x3 x4 h = some r → qm_Ret mX4_pack (23, [some (qm_r 0 4 a0), some (qm_r 0 2 a1), some (qm_i x2), some (qm_i x3), some (qm_i x4), d5], [], h) (qm_Gi r) := by
  intro fuel
  induction fuel with
  | zero => intros; rename_i ho; cases ho
  | succ n ih =>
    intro a0 a1 x2 x3 x4 d5 h r ho
    unfold qX4_pack_23 at ho
    refine qm_Ret.sts 2 (f' := (26, [some (qm_r 0 4 a0), some (qm_r 0 2 a1), some (qm_i x2), some (qm_i x3), some (qm_i x4), d5], [qm_i x3, qm_i x4], h)) rfl ?_
    refine qm_Ret.gt (t := 99) (e := 29) rfl (fun hc => ?_) (fun hc => ?_)
    · rw [if_pos hc] at ho
      refine qm_Ret.sts 2 (f' := (102, [some (qm_r 0 4 a0), some (qm_r 0 2 a1), some (qm_i x2), some (qm_i x3), some (qm_i (0 : Int32)), d5], [], h)) rfl ?_
      exact rX4_pack_102 ho
    · rw [if_neg hc] at ho
      refine qm_Ret.sts 2 (f' := (34, [some (qm_r 0 4 a0), some (qm_r 0 2 a1), some (qm_i x2), some (qm_i x3), some (qm_i x4), d5], [qm_i (256 : Int32), qm_i x4], h)) rfl ?_
      refine qm_Ret.ge (t := 99) (e := 37) rfl (fun hc => ?_) (fun hc => ?_)
      · rw [if_pos hc] at ho
        refine qm_Ret.sts 2 (f' := (40, [some (qm_r 0 4 a0), some (qm_r 0 2 a1), some (qm_i x2), some (qm_i x3), some (qm_i x4), d5], [qm_i x4, qm_i x2], h)) rfl ?_
        obtain ⟨r2, h1, hr, ho⟩ := qm_b2e ho
        refine qm_Ret.call (X := wJ6_numberOfTrailingZeros_0f7a4 [qm_i x4] h) (o1 := (some (qm_i r2), h1)) (qm_mp (G := qm_Gi) hr) rfl ?_
        show qm_Ret _ (43, [some (qm_r 0 4 a0), some (qm_r 0 2 a1), some (qm_i x2), some (qm_i x3), some (qm_i x4), d5], [qm_i r2, qm_i x2], h1) _
        refine qm_Ret.sts 12 (f' := (63, [some (qm_r 0 4 a0), some (qm_r 0 2 a1), some (qm_i x2), some (qm_i x3), some (qm_i x4), some (qm_i (x2 + r2))], [qm_i (x4 &&& (x4 - (1 : Int32))), qm_r 1 256 (a0 + 3), qm_i x4, qm_r 1 256 (a0 + 3)], h1)) rfl ?_
        obtain ⟨hg, ho⟩ := qm_ifn ho
        refine qm_Ret.gn (f1 := (64, [some (qm_r 0 4 a0), some (qm_r 0 2 a1), some (qm_i x2), some (qm_i x3), some (qm_i x4), some (qm_i (x2 + r2))], [qm_i (h1.1 (a0 + 3) (x4 &&& (x4 - (1 : Int32))).toNatClampNeg), qm_i x4, qm_r 1 256 (a0 + 3)], h1)) hg rfl ?_
        refine qm_Ret.sts 2 (f' := (68, [some (qm_r 0 4 a0), some (qm_r 0 2 a1), some (qm_i x2), some (qm_i x3), some (qm_i x4), some (qm_i (x2 + r2))], [qm_i (8 : Int32), qm_i (x2 + r2), qm_i (h1.1 (a0 + 3) (x4 &&& (x4 - (1 : Int32))).toNatClampNeg), qm_i x4, qm_r 1 256 (a0 + 3)], h1)) rfl ?_
        refine qm_Ret.ge (t := 81) (e := 71) rfl (fun hc => ?_) (fun hc => ?_)
        · rw [if_pos hc] at ho
          refine qm_Ret.sts 3 (f' := (77, [some (qm_r 0 4 a0), some (qm_r 0 2 a1), some (qm_i x2), some (qm_i x3), some (qm_i x4), some (qm_i (x2 + r2))], [qm_i (x2 + r2), qm_r 1 8 (a1 + 2), qm_i (h1.1 (a0 + 3) (x4 &&& (x4 - (1 : Int32))).toNatClampNeg), qm_i x4, qm_r 1 256 (a0 + 3)], h1)) rfl ?_
          obtain ⟨hg, ho⟩ := qm_ifn ho
          refine qm_Ret.gn (f1 := (78, [some (qm_r 0 4 a0), some (qm_r 0 2 a1), some (qm_i x2), some (qm_i x3), some (qm_i x4), some (qm_i (x2 + r2))], [qm_i (h1.1 (a1 + 2) (x2 + r2).toNatClampNeg), qm_i (h1.1 (a0 + 3) (x4 &&& (x4 - (1 : Int32))).toNatClampNeg), qm_i x4, qm_r 1 256 (a0 + 3)], h1)) hg rfl ?_
          refine qm_Ret.sts 2 (f' := (83, [some (qm_r 0 4 a0), some (qm_r 0 2 a1), some (qm_i x2), some (qm_i x3), some (qm_i x4), some (qm_i (x2 + r2))], [qm_i ((h1.1 (a0 + 3) (x4 &&& (x4 - (1 : Int32))).toNatClampNeg) + (h1.1 (a1 + 2) (x2 + r2).toNatClampNeg)), qm_i x4, qm_r 1 256 (a0 + 3)], h1)) rfl ?_
          obtain ⟨hg, ho⟩ := qm_ifn ho
          refine qm_Ret.gn (f1 := (84, [some (qm_r 0 4 a0), some (qm_r 0 2 a1), some (qm_i x2), some (qm_i x3), some (qm_i x4), some (qm_i (x2 + r2))], [], (qm_seti h1 (a0 + 3) (x4).toNatClampNeg ((h1.1 (a0 + 3) (x4 &&& (x4 - (1 : Int32))).toNatClampNeg) + (h1.1 (a1 + 2) (x2 + r2).toNatClampNeg))))) hg rfl ?_
          refine qm_Ret.lets (F := fun h5 => (84, [some (qm_r 0 4 a0), some (qm_r 0 2 a1), some (qm_i x2), some (qm_i x3), some (qm_i x4), some (qm_i (x2 + r2))], [], h5)) (G := qm_Gi) ho (fun h5 ho => ?_)
          refine qm_Ret.sts 4 (f' := (92, [some (qm_r 0 4 a0), some (qm_r 0 2 a1), some (qm_i x2), some (qm_i x3), some (qm_i x4), some (qm_i (x2 + r2))], [qm_i (1000000 : Int32), qm_i x4, qm_r 1 256 (a0 + 4)], h5)) rfl ?_
          obtain ⟨hg, ho⟩ := qm_ifn ho
          refine qm_Ret.gn (f1 := (93, [some (qm_r 0 4 a0), some (qm_r 0 2 a1), some (qm_i x2), some (qm_i x3), some (qm_i x4), some (qm_i (x2 + r2))], [], (qm_seti h5 (a0 + 4) (x4).toNatClampNeg (1000000 : Int32)))) hg rfl ?_
          refine qm_Ret.lets (F := fun h6 => (93, [some (qm_r 0 4 a0), some (qm_r 0 2 a1), some (qm_i x2), some (qm_i x3), some (qm_i x4), some (qm_i (x2 + r2))], [], h6)) (G := qm_Gi) ho (fun h6 ho => ?_)
          refine qm_Ret.sts 2 (f' := (23, [some (qm_r 0 4 a0), some (qm_r 0 2 a1), some (qm_i x2), some (qm_i x3), some (qm_i (x4 + (1 : Int32))), some (qm_i (x2 + r2))], [], h6)) rfl ?_
          exact ih ho
        · rw [if_neg hc] at ho
          refine qm_Ret.sts 2 (f' := (83, [some (qm_r 0 4 a0), some (qm_r 0 2 a1), some (qm_i x2), some (qm_i x3), some (qm_i x4), some (qm_i (x2 + r2))], [qm_i ((h1.1 (a0 + 3) (x4 &&& (x4 - (1 : Int32))).toNatClampNeg) + (0 : Int32)), qm_i x4, qm_r 1 256 (a0 + 3)], h1)) rfl ?_
          obtain ⟨hg, ho⟩ := qm_ifn ho
          refine qm_Ret.gn (f1 := (84, [some (qm_r 0 4 a0), some (qm_r 0 2 a1), some (qm_i x2), some (qm_i x3), some (qm_i x4), some (qm_i (x2 + r2))], [], (qm_seti h1 (a0 + 3) (x4).toNatClampNeg ((h1.1 (a0 + 3) (x4 &&& (x4 - (1 : Int32))).toNatClampNeg) + (0 : Int32))))) hg rfl ?_
          refine qm_Ret.lets (F := fun h3 => (84, [some (qm_r 0 4 a0), some (qm_r 0 2 a1), some (qm_i x2), some (qm_i x3), some (qm_i x4), some (qm_i (x2 + r2))], [], h3)) (G := qm_Gi) ho (fun h3 ho => ?_)
          refine qm_Ret.sts 4 (f' := (92, [some (qm_r 0 4 a0), some (qm_r 0 2 a1), some (qm_i x2), some (qm_i x3), some (qm_i x4), some (qm_i (x2 + r2))], [qm_i (1000000 : Int32), qm_i x4, qm_r 1 256 (a0 + 4)], h3)) rfl ?_
          obtain ⟨hg, ho⟩ := qm_ifn ho
          refine qm_Ret.gn (f1 := (93, [some (qm_r 0 4 a0), some (qm_r 0 2 a1), some (qm_i x2), some (qm_i x3), some (qm_i x4), some (qm_i (x2 + r2))], [], (qm_seti h3 (a0 + 4) (x4).toNatClampNeg (1000000 : Int32)))) hg rfl ?_
          refine qm_Ret.lets (F := fun h4 => (93, [some (qm_r 0 4 a0), some (qm_r 0 2 a1), some (qm_i x2), some (qm_i x3), some (qm_i x4), some (qm_i (x2 + r2))], [], h4)) (G := qm_Gi) ho (fun h4 ho => ?_)
          refine qm_Ret.sts 2 (f' := (23, [some (qm_r 0 4 a0), some (qm_r 0 2 a1), some (qm_i x2), some (qm_i x3), some (qm_i (x4 + (1 : Int32))), some (qm_i (x2 + r2))], [], h4)) rfl ?_
          exact ih ho
      · rw [if_neg hc] at ho
        refine qm_Ret.sts 2 (f' := (102, [some (qm_r 0 4 a0), some (qm_r 0 2 a1), some (qm_i x2), some (qm_i x3), some (qm_i (0 : Int32)), d5], [], h)) rfl ?_
        exact rX4_pack_102 ho
set_option maxRecDepth 20000 in
set_option maxHeartbeats 2000000 in
theorem rX4_pack_0   {a0 : Nat} {a1 : Nat} {x2 : Int32} {h : qm_H} {r : Int32 × qm_H} (ho : qX4_pack  a0 a1 x2 h = some r) : qm_Ret mX4_pack (0, [some (qm_r 0 4 a0), some (qm_r 0 2 a1), some (qm_i x2), none, none, none], [], h) (qm_Gi r) := by
  unfold qX4_pack at ho
  refine qm_Ret.sts 2 (f' := (2, [some (qm_r 0 4 a0), some (qm_r 0 2 a1), some (qm_i x2), none, none, none], [qm_i x2, qm_r 0 2 a1], h)) rfl ?_
  obtain ⟨r2, h1, hr, ho⟩ := qm_b2e ho
  refine qm_Ret.call (X := wX4_allFrom [qm_r 0 2 a1, qm_i x2] h) (o1 := (some (qm_i r2), h1)) (qm_mp (G := qm_Gi) hr) rfl ?_
  show qm_Ret _ (5, [some (qm_r 0 4 a0), some (qm_r 0 2 a1), some (qm_i x2), none, none, none], [qm_i r2], h1) _
  refine qm_Ret.sts 6 (f' := (13, [some (qm_r 0 4 a0), some (qm_r 0 2 a1), some (qm_i x2), some (qm_i r2), none, none], [], (qm_seti h1 (a0 + 3) (0 : Int32).toNatClampNeg (0 : Int32)))) rfl ?_
  refine qm_Ret.lets (F := fun h3 => (13, [some (qm_r 0 4 a0), some (qm_r 0 2 a1), some (qm_i x2), some (qm_i r2), none, none], [], h3)) (G := qm_Gi) ho (fun h3 ho => ?_)
  refine qm_Ret.sts 5 (f' := (20, [some (qm_r 0 4 a0), some (qm_r 0 2 a1), some (qm_i x2), some (qm_i r2), none, none], [], (qm_seti h3 (a0 + 4) (0 : Int32).toNatClampNeg (0 : Int32)))) rfl ?_
  refine qm_Ret.lets (F := fun h4 => (20, [some (qm_r 0 4 a0), some (qm_r 0 2 a1), some (qm_i x2), some (qm_i r2), none, none], [], h4)) (G := qm_Gi) ho (fun h4 ho => ?_)
  refine qm_Ret.sts 2 (f' := (23, [some (qm_r 0 4 a0), some (qm_r 0 2 a1), some (qm_i x2), some (qm_i r2), some (qm_i (1 : Int32)), none], [], h4)) rfl ?_
  exact rX4_pack_23 ho
theorem cX4_pack_ok : ∀ q ∈ ([(87, 0, 3, wX4_packInto), (84, 2, 1, wJ6_numberOfTrailingZeros_0f7a4), (48, 2, 2, wX4_allFrom)] : List (Nat × Nat × Nat × qm_C)), qm_CallOK RX4 2 45 q.2.1 q.1 q.2.2.1 q.2.2.2 := List.forall_mem_cons.mpr ⟨Or.inl ⟨yX4_packInto, cX4_packInto, 5, none, 1, 21, _, sX4_packInto, ⟨by decide, by decide⟩, ⟨jX4_packInto, kRX4_87, uRX4⟩, ⟨by decide, by decide, rfl⟩, Or.inl ⟨rfl, rfl, iX4_packInto, recvX4_packInto⟩⟩, List.forall_mem_cons.mpr ⟨Or.inl ⟨yJ6_numberOfTrailingZeros_0f7a4, cJ6_numberOfTrailingZeros_0f7a4, 2, (some .int), 0, 0, _, sJ6_numberOfTrailingZeros_0f7a4, ⟨by decide, by decide⟩, ⟨jJ6_numberOfTrailingZeros_0f7a4, kRX4_84, uRJ6⟩, ⟨by decide, by decide, rfl⟩, Or.inr (Or.inl ⟨rfl, rfl, iJ6_numberOfTrailingZeros_0f7a4⟩)⟩, List.forall_mem_cons.mpr ⟨Or.inl ⟨yX4_allFrom, cX4_allFrom, 3, (some .int), 1, 21, _, sX4_allFrom, ⟨by decide, by decide⟩, ⟨jX4_allFrom, kRX4_48, uRX4⟩, ⟨by decide, by decide, rfl⟩, Or.inr (Or.inl ⟨rfl, rfl, iX4_allFrom⟩)⟩, fun _ h => absurd h List.not_mem_nil⟩⟩⟩
theorem sX4_pack : qm_Snd yX4_pack cX4_pack 6 (some .int) 2 45 wX4_pack := qm_met (fld := fun k => qm_lk k pfRX4) (con := fun k => qm_lk k pcRX4) (call := fun k => qm_lk k [(87, 0, 3, wX4_packInto), (84, 2, 1, wJ6_numberOfTrailingZeros_0f7a4), (48, 2, 2, wX4_allFrom)]) (tab := qm_tab aX4_pack) (plainFor_of_name (by decide)) (qm_fld_ok pfRX4_ok) (qm_con_ok pcRX4_ok) (fun idx kd n f hc => cX4_pack_ok (idx, kd, n, f) (qm_lk_mem hc)) (qm_tab_ok aX4_pack_ok) (fun vs h o hw => by
  unfold wX4_pack at hw
  split at hw
  · obtain ⟨r, hr, rfl⟩ := Option.map_eq_some_iff.mp hw
    exact ⟨Nat.le_of_ble_eq_true rfl, rX4_pack_0 (hr)⟩
  · cases hw)
theorem recvX4_pack : ∀ vs h o, wX4_pack vs h = some o → ∃ ci a rest, vs = qm_r 0 ci a :: rest ∧ qm_R ci = yX4_pack.cls := by
  intro vs h o hw
  unfold wX4_pack at hw
  split at hw
  · exact ⟨_, _, _, rfl, rfl⟩
  · cases hw
-- RX4 fewest(LWillowLaw$Parish;)I
theorem jX4_fewest : Jvm.Cond.code yX4_fewest cX4_fewest 3 (some .int) ∈ qm_all := List.mem_filter.mpr ⟨by decide +kernel, rfl⟩
theorem iX4_fewest : Jvm.Cond.instanceMethod yX4_fewest ∈ qm_all ∧ Jvm.Cond.selects yX4_fewest.cls yX4_fewest yX4_fewest ∈ qm_all := ⟨List.mem_filter.mpr ⟨by decide +kernel, rfl⟩, List.mem_filter.mpr ⟨by decide +kernel, rfl⟩⟩
def wX4_fewest : qm_C := fun vs h => match vs with
  | [.inr (.inr (some (0, 4, p0))), .inr (.inr (some (0, 2, p1)))] => (qX4_fewest p0 p1 h).map qm_Gi
  | _ => none
def aX4_fewest : List (Option (Instr × Nat)) := [some (.aload_n 0, 1), some (.aload_n 1, 1), some (.iconst 0, 1), some (.invokevirtual 39, 3), none, none, some (.aload_n 0, 1), some (.aload_n 1, 1), some (.iconst 0, 1), some (.invokevirtual 43, 3), none, none, some (.istore_n 2, 1), some (.iload_n 2, 1), some (.ldc 47, 2), none, some (.if_icmp .lt 7, 3), none, none, some (.iconst (-1), 1), some (.goto 4, 3), none, none, some (.iload_n 2, 1), some (.ireturn, 1)]
theorem aX4_fewest_ok : qm_tabok cX4_fewest aX4_fewest = true := by decide +kernel
def mX4_fewest : qm_M := ((some .int), (fun k => qm_lk k pfRX4), (fun k => qm_lk k pcRX4), (fun k => qm_lk k [(39, 0, 3, wX4_wholeRods), (43, 0, 3, wX4_pack)]), qm_tab aX4_fewest)
set_option maxRecDepth 20000 in
set_option maxHeartbeats 2000000 in
theorem rX4_fewest_0   {a0 : Nat} {a1 : Nat} {h : qm_H} {r : Int32 × qm_H} (ho : qX4_fewest  a0 a1 h = some r) : qm_Ret mX4_fewest (0, [some (qm_r 0 4 a0), some (qm_r 0 2 a1), none], [], h) (qm_Gi r) := by
  unfold qX4_fewest at ho
  refine qm_Ret.sts 3 (f' := (3, [some (qm_r 0 4 a0), some (qm_r 0 2 a1), none], [qm_i (0 : Int32), qm_r 0 2 a1, qm_r 0 4 a0], h)) rfl ?_
  obtain ⟨h1, hr, ho⟩ := qm_bd ho
  refine qm_Ret.call (X := wX4_wholeRods [qm_r 0 4 a0, qm_r 0 2 a1, qm_i (0 : Int32)] h) (o1 := (none, h1)) (qm_mp (G := qm_Gv) hr) rfl ?_
  show qm_Ret _ (6, [some (qm_r 0 4 a0), some (qm_r 0 2 a1), none], [], h1) _
  refine qm_Ret.sts 3 (f' := (9, [some (qm_r 0 4 a0), some (qm_r 0 2 a1), none], [qm_i (0 : Int32), qm_r 0 2 a1, qm_r 0 4 a0], h1)) rfl ?_
  obtain ⟨r3, h2, hr, ho⟩ := qm_b2e ho
  refine qm_Ret.call (X := wX4_pack [qm_r 0 4 a0, qm_r 0 2 a1, qm_i (0 : Int32)] h1) (o1 := (some (qm_i r3), h2)) (qm_mp (G := qm_Gi) hr) rfl ?_
  show qm_Ret _ (12, [some (qm_r 0 4 a0), some (qm_r 0 2 a1), none], [qm_i r3], h2) _
  refine qm_Ret.sts 3 (f' := (16, [some (qm_r 0 4 a0), some (qm_r 0 2 a1), some (qm_i r3)], [qm_i (1000000 : Int32), qm_i r3], h2)) rfl ?_
  refine qm_Ret.lt (t := 23) (e := 19) rfl (fun hc => ?_) (fun hc => ?_)
  · rw [if_pos hc] at ho
    cases ho
    exact qm_Ret.ret 2 rfl
  · rw [if_neg hc] at ho
    cases ho
    exact qm_Ret.ret 3 rfl
theorem cX4_fewest_ok : ∀ q ∈ ([(39, 0, 3, wX4_wholeRods), (43, 0, 3, wX4_pack)] : List (Nat × Nat × Nat × qm_C)), qm_CallOK RX4 3 70 q.2.1 q.1 q.2.2.1 q.2.2.2 := List.forall_mem_cons.mpr ⟨Or.inl ⟨yX4_wholeRods, cX4_wholeRods, 4, none, 0, 0, _, sX4_wholeRods, ⟨by decide, by decide⟩, ⟨jX4_wholeRods, kRX4_39, uRX4⟩, ⟨by decide, by decide, rfl⟩, Or.inl ⟨rfl, rfl, iX4_wholeRods, recvX4_wholeRods⟩⟩, List.forall_mem_cons.mpr ⟨Or.inl ⟨yX4_pack, cX4_pack, 6, (some .int), 2, 45, _, sX4_pack, ⟨by decide, by decide⟩, ⟨jX4_pack, kRX4_43, uRX4⟩, ⟨by decide, by decide, rfl⟩, Or.inl ⟨rfl, rfl, iX4_pack, recvX4_pack⟩⟩, fun _ h => absurd h List.not_mem_nil⟩⟩
theorem sX4_fewest : qm_Snd yX4_fewest cX4_fewest 3 (some .int) 3 70 wX4_fewest := qm_met (fld := fun k => qm_lk k pfRX4) (con := fun k => qm_lk k pcRX4) (call := fun k => qm_lk k [(39, 0, 3, wX4_wholeRods), (43, 0, 3, wX4_pack)]) (tab := qm_tab aX4_fewest) (plainFor_of_name (by decide)) (qm_fld_ok pfRX4_ok) (qm_con_ok pcRX4_ok) (fun idx kd n f hc => cX4_fewest_ok (idx, kd, n, f) (qm_lk_mem hc)) (qm_tab_ok aX4_fewest_ok) (fun vs h o hw => by
  unfold wX4_fewest at hw
  split at hw
  · obtain ⟨r, hr, rfl⟩ := Option.map_eq_some_iff.mp hw
    exact ⟨Nat.le_of_ble_eq_true rfl, rX4_fewest_0 (hr)⟩
  · cases hw)
theorem recvX4_fewest : ∀ vs h o, wX4_fewest vs h = some o → ∃ ci a rest, vs = qm_r 0 ci a :: rest ∧ qm_R ci = yX4_fewest.cls := by
  intro vs h o hw
  unfold wX4_fewest at hw
  split at hw
  · exact ⟨_, _, _, rfl, rfl⟩
  · cases hw
-- RX4 spare(LWillowLaw$Parish;)I
theorem jX4_spare : Jvm.Cond.code yX4_spare cX4_spare 3 (some .int) ∈ qm_all := List.mem_filter.mpr ⟨by decide +kernel, rfl⟩
theorem iX4_spare : Jvm.Cond.instanceMethod yX4_spare ∈ qm_all ∧ Jvm.Cond.selects yX4_spare.cls yX4_spare yX4_spare ∈ qm_all := ⟨List.mem_filter.mpr ⟨by decide +kernel, rfl⟩, List.mem_filter.mpr ⟨by decide +kernel, rfl⟩⟩
def wX4_spare : qm_C := fun vs h => match vs with
  | [.inr (.inr (some (0, 4, p0))), .inr (.inr (some (0, 2, p1)))] => (qX4_spare p0 p1 h).map qm_Gi
  | _ => none
def aX4_spare : List (Option (Instr × Nat)) := [some (.aload_n 0, 1), some (.aload_n 1, 1), some (.iconst 1, 1), some (.invokevirtual 39, 3), none, none, some (.aload_n 0, 1), some (.aload_n 1, 1), some (.iconst 0, 1), some (.invokevirtual 43, 3), none, none, some (.istore_n 2, 1), some (.iload_n 2, 1), some (.ldc 47, 2), none, some (.if_icmp .lt 7, 3), none, none, some (.iconst (-1), 1), some (.goto 15, 3), none, none, some (.iload_n 2, 1), some (.aload_n 0, 1), some (.getfield 20, 3), none, none, some (.aload_n 1, 1), some (.iconst 0, 1), some (.invokestatic 48, 3), none, none, some (.iaload, 1), some (.isub, 1), some (.ireturn, 1)]
theorem aX4_spare_ok : qm_tabok cX4_spare aX4_spare = true := by decide +kernel
def mX4_spare : qm_M := ((some .int), (fun k => qm_lk k pfRX4), (fun k => qm_lk k pcRX4), (fun k => qm_lk k [(39, 0, 3, wX4_wholeRods), (43, 0, 3, wX4_pack), (48, 2, 2, wX4_allFrom)]), qm_tab aX4_spare)
set_option maxRecDepth 20000 in
set_option maxHeartbeats 2000000 in
theorem rX4_spare_0   {a0 : Nat} {a1 : Nat} {h : qm_H} {r : Int32 × qm_H} (ho : qX4_spare  a0 a1 h = some r) : qm_Ret mX4_spare (0, [some (qm_r 0 4 a0), some (qm_r 0 2 a1), none], [], h) (qm_Gi r) := by
  unfold qX4_spare at ho
  refine qm_Ret.sts 3 (f' := (3, [some (qm_r 0 4 a0), some (qm_r 0 2 a1), none], [qm_i (1 : Int32), qm_r 0 2 a1, qm_r 0 4 a0], h)) rfl ?_
  obtain ⟨h1, hr, ho⟩ := qm_bd ho
  refine qm_Ret.call (X := wX4_wholeRods [qm_r 0 4 a0, qm_r 0 2 a1, qm_i (1 : Int32)] h) (o1 := (none, h1)) (qm_mp (G := qm_Gv) hr) rfl ?_
  show qm_Ret _ (6, [some (qm_r 0 4 a0), some (qm_r 0 2 a1), none], [], h1) _
  refine qm_Ret.sts 3 (f' := (9, [some (qm_r 0 4 a0), some (qm_r 0 2 a1), none], [qm_i (0 : Int32), qm_r 0 2 a1, qm_r 0 4 a0], h1)) rfl ?_
  obtain ⟨r3, h2, hr, ho⟩ := qm_b2e ho
  refine qm_Ret.call (X := wX4_pack [qm_r 0 4 a0, qm_r 0 2 a1, qm_i (0 : Int32)] h1) (o1 := (some (qm_i r3), h2)) (qm_mp (G := qm_Gi) hr) rfl ?_
  show qm_Ret _ (12, [some (qm_r 0 4 a0), some (qm_r 0 2 a1), none], [qm_i r3], h2) _
  refine qm_Ret.sts 3 (f' := (16, [some (qm_r 0 4 a0), some (qm_r 0 2 a1), some (qm_i r3)], [qm_i (1000000 : Int32), qm_i r3], h2)) rfl ?_
  refine qm_Ret.lt (t := 23) (e := 19) rfl (fun hc => ?_) (fun hc => ?_)
  · rw [if_pos hc] at ho
    refine qm_Ret.sts 5 (f' := (30, [some (qm_r 0 4 a0), some (qm_r 0 2 a1), some (qm_i r3)], [qm_i (0 : Int32), qm_r 0 2 a1, qm_r 1 256 (a0 + 3), qm_i r3], h2)) rfl ?_
    obtain ⟨r5, h4, hr, ho⟩ := qm_b2e ho
    refine qm_Ret.call (X := wX4_allFrom [qm_r 0 2 a1, qm_i (0 : Int32)] h2) (o1 := (some (qm_i r5), h4)) (qm_mp (G := qm_Gi) hr) rfl ?_
    show qm_Ret _ (33, [some (qm_r 0 4 a0), some (qm_r 0 2 a1), some (qm_i r3)], [qm_i r5, qm_r 1 256 (a0 + 3), qm_i r3], h4) _
    obtain ⟨hg, ho⟩ := qm_ifn ho
    refine qm_Ret.gn (f1 := (34, [some (qm_r 0 4 a0), some (qm_r 0 2 a1), some (qm_i r3)], [qm_i (h4.1 (a0 + 3) (r5).toNatClampNeg), qm_i r3], h4)) hg rfl ?_
    cases ho
    exact qm_Ret.ret 2 rfl
  · rw [if_neg hc] at ho
    cases ho
    exact qm_Ret.ret 3 rfl
theorem cX4_spare_ok : ∀ q ∈ ([(39, 0, 3, wX4_wholeRods), (43, 0, 3, wX4_pack), (48, 2, 2, wX4_allFrom)] : List (Nat × Nat × Nat × qm_C)), qm_CallOK RX4 3 70 q.2.1 q.1 q.2.2.1 q.2.2.2 := List.forall_mem_cons.mpr ⟨Or.inl ⟨yX4_wholeRods, cX4_wholeRods, 4, none, 0, 0, _, sX4_wholeRods, ⟨by decide, by decide⟩, ⟨jX4_wholeRods, kRX4_39, uRX4⟩, ⟨by decide, by decide, rfl⟩, Or.inl ⟨rfl, rfl, iX4_wholeRods, recvX4_wholeRods⟩⟩, List.forall_mem_cons.mpr ⟨Or.inl ⟨yX4_pack, cX4_pack, 6, (some .int), 2, 45, _, sX4_pack, ⟨by decide, by decide⟩, ⟨jX4_pack, kRX4_43, uRX4⟩, ⟨by decide, by decide, rfl⟩, Or.inl ⟨rfl, rfl, iX4_pack, recvX4_pack⟩⟩, List.forall_mem_cons.mpr ⟨Or.inl ⟨yX4_allFrom, cX4_allFrom, 3, (some .int), 1, 21, _, sX4_allFrom, ⟨by decide, by decide⟩, ⟨jX4_allFrom, kRX4_48, uRX4⟩, ⟨by decide, by decide, rfl⟩, Or.inr (Or.inl ⟨rfl, rfl, iX4_allFrom⟩)⟩, fun _ h => absurd h List.not_mem_nil⟩⟩⟩
theorem sX4_spare : qm_Snd yX4_spare cX4_spare 3 (some .int) 3 70 wX4_spare := qm_met (fld := fun k => qm_lk k pfRX4) (con := fun k => qm_lk k pcRX4) (call := fun k => qm_lk k [(39, 0, 3, wX4_wholeRods), (43, 0, 3, wX4_pack), (48, 2, 2, wX4_allFrom)]) (tab := qm_tab aX4_spare) (plainFor_of_name (by decide)) (qm_fld_ok pfRX4_ok) (qm_con_ok pcRX4_ok) (fun idx kd n f hc => cX4_spare_ok (idx, kd, n, f) (qm_lk_mem hc)) (qm_tab_ok aX4_spare_ok) (fun vs h o hw => by
  unfold wX4_spare at hw
  split at hw
  · obtain ⟨r, hr, rfl⟩ := Option.map_eq_some_iff.mp hw
    exact ⟨Nat.le_of_ble_eq_true rfl, rX4_spare_0 (hr)⟩
  · cases hw)
theorem recvX4_spare : ∀ vs h o, wX4_spare vs h = some o → ∃ ci a rest, vs = qm_r 0 ci a :: rest ∧ qm_R ci = yX4_spare.cls := by
  intro vs h o hw
  unfold wX4_spare at hw
  split at hw
  · exact ⟨_, _, _, rfl, rfl⟩
  · cases hw
-- RJ6 bitCount(I)I
theorem jJ6_bitCount_0f7a4 : Jvm.Cond.code yJ6_bitCount_0f7a4 cJ6_bitCount_0f7a4 1 (some .int) ∈ qm_all := List.mem_filter.mpr ⟨by decide +kernel, rfl⟩
theorem iJ6_bitCount_0f7a4 : Jvm.Cond.static yJ6_bitCount_0f7a4 ∈ qm_all := List.mem_filter.mpr ⟨by decide +kernel, rfl⟩
def wJ6_bitCount_0f7a4 : qm_C := fun vs h => match vs with
  | [.inl p0] => (qJ6_bitCount_0f7a4 p0 h).map qm_Gi
  | _ => none
def aJ6_bitCount_0f7a4 : List (Option (Instr × Nat)) := [some (.iload_n 0, 1), some (.iload_n 0, 1), some (.iconst 1, 1), some (.iushr, 1), some (.ldc_w 265, 3), none, none, some (.iand, 1), some (.isub, 1), some (.istore_n 0, 1), some (.iload_n 0, 1), some (.ldc_w 266, 3), none, none, some (.iand, 1), some (.iload_n 0, 1), some (.iconst 2, 1), some (.iushr, 1), some (.ldc_w 266, 3), none, none, some (.iand, 1), some (.iadd, 1), some (.istore_n 0, 1), some (.iload_n 0, 1), some (.iload_n 0, 1), some (.iconst 4, 1), some (.iushr, 1), some (.iadd, 1), some (.ldc_w 267, 3), none, none, some (.iand, 1), some (.istore_n 0, 1), some (.iload_n 0, 1), some (.iload_n 0, 1), some (.bipush 8, 2), none, some (.iushr, 1), some (.iadd, 1), some (.istore_n 0, 1), some (.iload_n 0, 1), some (.iload_n 0, 1), some (.bipush 16, 2), none, some (.iushr, 1), some (.iadd, 1), some (.istore_n 0, 1), some (.iload_n 0, 1), some (.bipush 63, 2), none, some (.iand, 1), some (.ireturn, 1)]
theorem aJ6_bitCount_0f7a4_ok : qm_tabok cJ6_bitCount_0f7a4 aJ6_bitCount_0f7a4 = true := by decide +kernel
def mJ6_bitCount_0f7a4 : qm_M := ((some .int), (fun k => qm_lk k pfRJ6), (fun k => qm_lk k pcRJ6), (fun k => qm_lk k []), qm_tab aJ6_bitCount_0f7a4)
set_option maxRecDepth 20000 in
set_option maxHeartbeats 2000000 in
theorem rJ6_bitCount_0f7a4_0   {x0 : Int32} {h : qm_H} {r : Int32 × qm_H} (ho : qJ6_bitCount_0f7a4  x0 h = some r) : qm_Ret mJ6_bitCount_0f7a4 (0, [some (qm_i x0)], [], h) (qm_Gi r) := by
  unfold qJ6_bitCount_0f7a4 at ho
  refine qm_Ret.sts 7 (f' := (9, [some (qm_i x0)], [qm_i (x0 - ((qm_iushr x0 (1 : Int32)) &&& (1431655765 : Int32)))], h)) rfl ?_
  refine qm_Ret.lets (F := fun v1 => (9, [some (qm_i x0)], [qm_i v1], h)) (G := qm_Gi) ho (fun v1 ho => ?_)
  refine qm_Ret.sts 10 (f' := (23, [some (qm_i v1)], [qm_i ((v1 &&& (858993459 : Int32)) + ((qm_iushr v1 (2 : Int32)) &&& (858993459 : Int32)))], h)) rfl ?_
  refine qm_Ret.lets (F := fun v2 => (23, [some (qm_i v1)], [qm_i v2], h)) (G := qm_Gi) ho (fun v2 ho => ?_)
  refine qm_Ret.sts 8 (f' := (33, [some (qm_i v2)], [qm_i ((v2 + (qm_iushr v2 (4 : Int32))) &&& (252645135 : Int32))], h)) rfl ?_
  refine qm_Ret.lets (F := fun v3 => (33, [some (qm_i v2)], [qm_i v3], h)) (G := qm_Gi) ho (fun v3 ho => ?_)
  refine qm_Ret.sts 6 (f' := (40, [some (qm_i v3)], [qm_i (v3 + (qm_iushr v3 (8 : Int32)))], h)) rfl ?_
  refine qm_Ret.lets (F := fun v4 => (40, [some (qm_i v3)], [qm_i v4], h)) (G := qm_Gi) ho (fun v4 ho => ?_)
  refine qm_Ret.sts 6 (f' := (47, [some (qm_i v4)], [qm_i (v4 + (qm_iushr v4 (16 : Int32)))], h)) rfl ?_
  refine qm_Ret.lets (F := fun v5 => (47, [some (qm_i v4)], [qm_i v5], h)) (G := qm_Gi) ho (fun v5 ho => ?_)
  cases ho
  exact qm_Ret.ret 5 rfl
theorem cJ6_bitCount_0f7a4_ok : ∀ q ∈ ([] : List (Nat × Nat × Nat × qm_C)), qm_CallOK RJ6 0 0 q.2.1 q.1 q.2.2.1 q.2.2.2 := fun _ h => absurd h List.not_mem_nil
theorem sJ6_bitCount_0f7a4 : qm_Snd yJ6_bitCount_0f7a4 cJ6_bitCount_0f7a4 1 (some .int) 0 0 wJ6_bitCount_0f7a4 := qm_met (fld := fun k => qm_lk k pfRJ6) (con := fun k => qm_lk k pcRJ6) (call := fun k => qm_lk k []) (tab := qm_tab aJ6_bitCount_0f7a4) (by decide +kernel) (qm_fld_ok pfRJ6_ok) (qm_con_ok pcRJ6_ok) (fun idx kd n f hc => cJ6_bitCount_0f7a4_ok (idx, kd, n, f) (qm_lk_mem hc)) (qm_tab_ok aJ6_bitCount_0f7a4_ok) (fun vs h o hw => by
  unfold wJ6_bitCount_0f7a4 at hw
  split at hw
  · obtain ⟨r, hr, rfl⟩ := Option.map_eq_some_iff.mp hw
    exact ⟨Nat.le_of_ble_eq_true rfl, rJ6_bitCount_0f7a4_0 (hr)⟩
  · cases hw)
-- RX4 longest(LWillowLaw$Parish;)I
theorem jX4_longest : Jvm.Cond.code yX4_longest cX4_longest 4 (some .int) ∈ qm_all := List.mem_filter.mpr ⟨by decide +kernel, rfl⟩
theorem iX4_longest : Jvm.Cond.instanceMethod yX4_longest ∈ qm_all ∧ Jvm.Cond.selects yX4_longest.cls yX4_longest yX4_longest ∈ qm_all := ⟨List.mem_filter.mpr ⟨by decide +kernel, rfl⟩, List.mem_filter.mpr ⟨by decide +kernel, rfl⟩⟩
def wX4_longest : qm_C := fun vs h => match vs with
  | [.inr (.inr (some (0, 4, p0))), .inr (.inr (some (0, 2, p1)))] => (qX4_longest p0 p1 h).map qm_Gi
  | _ => none
def aX4_longest : List (Option (Instr × Nat)) := [some (.aload_n 0, 1), some (.aload_n 1, 1), some (.iconst 0, 1), some (.invokevirtual 39, 3), none, none, some (.aload_n 0, 1), some (.aload_n 1, 1), some (.iconst 0, 1), some (.invokevirtual 43, 3), none, none, some (.pop, 1), some (.iconst 0, 1), some (.istore_n 2, 1), some (.iconst 0, 1), some (.istore_n 3, 1), some (.iload_n 3, 1), some (.aload_n 1, 1), some (.iconst 0, 1), some (.invokestatic 48, 3), none, none, some (.if_icmp .gt 29, 3), none, none, some (.aload_n 0, 1), some (.getfield 23, 3), none, none, some (.iload_n 3, 1), some (.iaload, 1), some (.ldc 47, 2), none, some (.if_icmp .ge 12, 3), none, none, some (.iload_n 2, 1), some (.iload_n 3, 1), some (.invokestatic 51, 3), none, none, some (.invokestatic 57, 3), none, none, some (.istore_n 2, 1), some (.iinc 3 1, 3), none, none, some (.goto (-32), 3), none, none, some (.iload_n 2, 1), some (.ireturn, 1)]
theorem aX4_longest_ok : qm_tabok cX4_longest aX4_longest = true := by decide +kernel
def mX4_longest : qm_M := ((some .int), (fun k => qm_lk k pfRX4), (fun k => qm_lk k pcRX4), (fun k => qm_lk k [(48, 2, 2, wX4_allFrom), (51, 2, 1, wJ6_bitCount_0f7a4), (57, 2, 2, wJ9_max_7cf53), (39, 0, 3, wX4_wholeRods), (43, 0, 3, wX4_pack)]), qm_tab aX4_longest)
set_option maxRecDepth 20000 in
set_option maxHeartbeats 2000000 in
theorem rX4_longest_17   : ∀ {fuel : Nat} {a0 : Nat} {a1 : Nat} {x2 : Int32} {x3 : Int32} {h : qm_H} {r : Int32 × qm_H}, qX4_longest_17  fuel a0 a1 x2 x3 h = some r → qm_Ret mX4_longest (17, [some (qm_r 0 4 a0), some (qm_r 0 2 a1), some (qm_i x2), some (qm_i x3)], [], h) (qm_Gi r) := by
  intro fuel
  induction fuel with
  | zero => intros; rename_i ho; cases ho
  | succ n ih =>
    intro a0 a1 x2 x3 h r ho
    unfold qX4_longest_17 at ho
    refine qm_Ret.sts 3 (f' := (20, [some (qm_r 0 4 a0), some (qm_r 0 2 a1), some (qm_i x2), some (qm_i x3)], [qm_i (0 : Int32), qm_r 0 2 a1, qm_i x3], h)) rfl ?_
    obtain ⟨r2, h1, hr, ho⟩ := qm_b2e ho
    refine qm_Ret.call (X := wX4_allFrom [qm_r 0 2 a1, qm_i (0 : Int32)] h) (o1 := (some (qm_i r2), h1)) (qm_mp (G := qm_Gi) hr) rfl ?_
    show qm_Ret _ (23, [some (qm_r 0 4 a0), some (qm_r 0 2 a1), some (qm_i x2), some (qm_i x3)], [qm_i r2, qm_i x3], h1) _
    refine qm_Ret.gt (t := 52) (e := 26) rfl (fun hc => ?_) (fun hc => ?_)
    · rw [if_pos hc] at ho
      cases ho
      exact qm_Ret.ret 2 rfl
    · rw [if_neg hc] at ho
      refine qm_Ret.sts 3 (f' := (31, [some (qm_r 0 4 a0), some (qm_r 0 2 a1), some (qm_i x2), some (qm_i x3)], [qm_i x3, qm_r 1 256 (a0 + 4)], h1)) rfl ?_
      obtain ⟨hg, ho⟩ := qm_ifn ho
      refine qm_Ret.gn (f1 := (32, [some (qm_r 0 4 a0), some (qm_r 0 2 a1), some (qm_i x2), some (qm_i x3)], [qm_i (h1.1 (a0 + 4) (x3).toNatClampNeg)], h1)) hg rfl ?_
      refine qm_Ret.sts 1 (f' := (34, [some (qm_r 0 4 a0), some (qm_r 0 2 a1), some (qm_i x2), some (qm_i x3)], [qm_i (1000000 : Int32), qm_i (h1.1 (a0 + 4) (x3).toNatClampNeg)], h1)) rfl ?_
      refine qm_Ret.ge (t := 46) (e := 37) rfl (fun hc => ?_) (fun hc => ?_)
      · rw [if_pos hc] at ho
        refine qm_Ret.sts 2 (f' := (39, [some (qm_r 0 4 a0), some (qm_r 0 2 a1), some (qm_i x2), some (qm_i x3)], [qm_i x3, qm_i x2], h1)) rfl ?_
        obtain ⟨r4, h3, hr, ho⟩ := qm_b2e ho
        refine qm_Ret.call (X := wJ6_bitCount_0f7a4 [qm_i x3] h1) (o1 := (some (qm_i r4), h3)) (qm_mp (G := qm_Gi) hr) rfl ?_
        show qm_Ret _ (42, [some (qm_r 0 4 a0), some (qm_r 0 2 a1), some (qm_i x2), some (qm_i x3)], [qm_i r4, qm_i x2], h3) _
        obtain ⟨r6, h5, hr, ho⟩ := qm_b2e ho
        refine qm_Ret.call (X := wJ9_max_7cf53 [qm_i x2, qm_i r4] h3) (o1 := (some (qm_i r6), h5)) (qm_mp (G := qm_Gi) hr) rfl ?_
        show qm_Ret _ (45, [some (qm_r 0 4 a0), some (qm_r 0 2 a1), some (qm_i x2), some (qm_i x3)], [qm_i r6], h5) _
        refine qm_Ret.sts 3 (f' := (17, [some (qm_r 0 4 a0), some (qm_r 0 2 a1), some (qm_i r6), some (qm_i (x3 + (1 : Int32)))], [], h5)) rfl ?_
        exact ih ho
      · rw [if_neg hc] at ho
        refine qm_Ret.sts 2 (f' := (17, [some (qm_r 0 4 a0), some (qm_r 0 2 a1), some (qm_i x2), some (qm_i (x3 + (1 : Int32)))], [], h1)) rfl ?_
        exact ih ho
set_option maxRecDepth 20000 in
set_option maxHeartbeats 2000000 in
theorem rX4_longest_0   {a0 : Nat} {a1 : Nat} {h : qm_H} {r : Int32 × qm_H} (ho : qX4_longest  a0 a1 h = some r) : qm_Ret mX4_longest (0, [some (qm_r 0 4 a0), some (qm_r 0 2 a1), none, none], [], h) (qm_Gi r) := by
  unfold qX4_longest at ho
  refine qm_Ret.sts 3 (f' := (3, [some (qm_r 0 4 a0), some (qm_r 0 2 a1), none, none], [qm_i (0 : Int32), qm_r 0 2 a1, qm_r 0 4 a0], h)) rfl ?_
  obtain ⟨h1, hr, ho⟩ := qm_bd ho
  refine qm_Ret.call (X := wX4_wholeRods [qm_r 0 4 a0, qm_r 0 2 a1, qm_i (0 : Int32)] h) (o1 := (none, h1)) (qm_mp (G := qm_Gv) hr) rfl ?_
  show qm_Ret _ (6, [some (qm_r 0 4 a0), some (qm_r 0 2 a1), none, none], [], h1) _
  refine qm_Ret.sts 3 (f' := (9, [some (qm_r 0 4 a0), some (qm_r 0 2 a1), none, none], [qm_i (0 : Int32), qm_r 0 2 a1, qm_r 0 4 a0], h1)) rfl ?_
  obtain ⟨r3, h2, hr, ho⟩ := qm_b2e ho
  refine qm_Ret.call (X := wX4_pack [qm_r 0 4 a0, qm_r 0 2 a1, qm_i (0 : Int32)] h1) (o1 := (some (qm_i r3), h2)) (qm_mp (G := qm_Gi) hr) rfl ?_
  show qm_Ret _ (12, [some (qm_r 0 4 a0), some (qm_r 0 2 a1), none, none], [qm_i r3], h2) _
  refine qm_Ret.sts 5 (f' := (17, [some (qm_r 0 4 a0), some (qm_r 0 2 a1), some (qm_i (0 : Int32)), some (qm_i (0 : Int32))], [], h2)) rfl ?_
  exact rX4_longest_17 ho
theorem cX4_longest_ok : ∀ q ∈ ([(48, 2, 2, wX4_allFrom), (51, 2, 1, wJ6_bitCount_0f7a4), (57, 2, 2, wJ9_max_7cf53), (39, 0, 3, wX4_wholeRods), (43, 0, 3, wX4_pack)] : List (Nat × Nat × Nat × qm_C)), qm_CallOK RX4 3 70 q.2.1 q.1 q.2.2.1 q.2.2.2 := List.forall_mem_cons.mpr ⟨Or.inl ⟨yX4_allFrom, cX4_allFrom, 3, (some .int), 1, 21, _, sX4_allFrom, ⟨by decide, by decide⟩, ⟨jX4_allFrom, kRX4_48, uRX4⟩, ⟨by decide, by decide, rfl⟩, Or.inr (Or.inl ⟨rfl, rfl, iX4_allFrom⟩)⟩, List.forall_mem_cons.mpr ⟨Or.inl ⟨yJ6_bitCount_0f7a4, cJ6_bitCount_0f7a4, 1, (some .int), 0, 0, _, sJ6_bitCount_0f7a4, ⟨by decide, by decide⟩, ⟨jJ6_bitCount_0f7a4, kRX4_51, uRJ6⟩, ⟨by decide, by decide, rfl⟩, Or.inr (Or.inl ⟨rfl, rfl, iJ6_bitCount_0f7a4⟩)⟩, List.forall_mem_cons.mpr ⟨Or.inl ⟨yJ9_max_7cf53, cJ9_max_7cf53, 2, (some .int), 0, 0, _, sJ9_max_7cf53, ⟨by decide, by decide⟩, ⟨jJ9_max_7cf53, kRX4_57, uRJ9⟩, ⟨by decide, by decide, rfl⟩, Or.inr (Or.inl ⟨rfl, rfl, iJ9_max_7cf53⟩)⟩, List.forall_mem_cons.mpr ⟨Or.inl ⟨yX4_wholeRods, cX4_wholeRods, 4, none, 0, 0, _, sX4_wholeRods, ⟨by decide, by decide⟩, ⟨jX4_wholeRods, kRX4_39, uRX4⟩, ⟨by decide, by decide, rfl⟩, Or.inl ⟨rfl, rfl, iX4_wholeRods, recvX4_wholeRods⟩⟩, List.forall_mem_cons.mpr ⟨Or.inl ⟨yX4_pack, cX4_pack, 6, (some .int), 2, 45, _, sX4_pack, ⟨by decide, by decide⟩, ⟨jX4_pack, kRX4_43, uRX4⟩, ⟨by decide, by decide, rfl⟩, Or.inl ⟨rfl, rfl, iX4_pack, recvX4_pack⟩⟩, fun _ h => absurd h List.not_mem_nil⟩⟩⟩⟩⟩
theorem sX4_longest : qm_Snd yX4_longest cX4_longest 4 (some .int) 3 70 wX4_longest := qm_met (fld := fun k => qm_lk k pfRX4) (con := fun k => qm_lk k pcRX4) (call := fun k => qm_lk k [(48, 2, 2, wX4_allFrom), (51, 2, 1, wJ6_bitCount_0f7a4), (57, 2, 2, wJ9_max_7cf53), (39, 0, 3, wX4_wholeRods), (43, 0, 3, wX4_pack)]) (tab := qm_tab aX4_longest) (plainFor_of_name (by decide)) (qm_fld_ok pfRX4_ok) (qm_con_ok pcRX4_ok) (fun idx kd n f hc => cX4_longest_ok (idx, kd, n, f) (qm_lk_mem hc)) (qm_tab_ok aX4_longest_ok) (fun vs h o hw => by
  unfold wX4_longest at hw
  split at hw
  · obtain ⟨r, hr, rfl⟩ := Option.map_eq_some_iff.mp hw
    exact ⟨Nat.le_of_ble_eq_true rfl, rX4_longest_0 (hr)⟩
  · cases hw)
theorem recvX4_longest : ∀ vs h o, wX4_longest vs h = some o → ∃ ci a rest, vs = qm_r 0 ci a :: rest ∧ qm_R ci = yX4_longest.cls := by
  intro vs h o hw
  unfold wX4_longest at hw
  split at hw
  · exact ⟨_, _, _, rfl, rfl⟩
  · cases hw
