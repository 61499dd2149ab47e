-- RX12 takeCell(I)Z
theorem jX12_takeCell : Jvm.Cond.code yX12_takeCell cX12_takeCell 2 (some .boolean) ∈ qm_all := List.mem_filter.mpr ⟨by decide +kernel, rfl⟩
theorem iX12_takeCell : Jvm.Cond.instanceMethod yX12_takeCell ∈ qm_all ∧ Jvm.Cond.selects yX12_takeCell.cls yX12_takeCell yX12_takeCell ∈ qm_all := ⟨List.mem_filter.mpr ⟨by decide +kernel, rfl⟩, List.mem_filter.mpr ⟨by decide +kernel, rfl⟩⟩
def wX12_takeCell : qm_C := fun vs h => match vs with
  | [.inr (.inr (some (0, 12, p0))), .inl p1] => (qX12_takeCell p0 p1 h).map qm_Gi
  | _ => none
def aX12_takeCell : List (Option (Instr × Nat)) := [some (.aload_n 0, 1), some (.iload_n 1, 1), some (.iconst 0, 1), some (.bipush 7, 2), none, some (.invokevirtual 155, 3), none, none, some (.ifCond .eq 16, 3), none, none, some (.aload_n 0, 1), some (.iload_n 1, 1), some (.iconst 1, 1), some (.iadd, 1), some (.iconst 0, 1), some (.bipush 7, 2), none, some (.invokevirtual 155, 3), none, none, some (.ifCond .ne 5, 3), none, none, some (.iconst 0, 1), some (.ireturn, 1), some (.aload_n 0, 1), some (.aload_n 0, 1), some (.getfield 158, 3), none, none, some (.aload_n 0, 1), some (.getfield 41, 3), none, none, some (.iload_n 1, 1), some (.iaload, 1), some (.invokestatic 161, 3), none, none, some (.putfield 158, 3), none, none, some (.aload_n 0, 1), some (.aload_n 0, 1), some (.getfield 165, 3), none, none, some (.aload_n 0, 1), some (.getfield 41, 3), none, none, some (.iload_n 1, 1), some (.iconst 1, 1), some (.iadd, 1), some (.iaload, 1), some (.invokestatic 161, 3), none, none, some (.putfield 165, 3), none, none, some (.iconst 1, 1), some (.ireturn, 1)]
theorem aX12_takeCell_ok : qm_tabok cX12_takeCell aX12_takeCell = true := by decide +kernel
def mX12_takeCell : qm_M := ((some .boolean), (fun k => qm_lk k pfRX12), (fun k => qm_lk k pcRX12), (fun k => qm_lk k [(155, 0, 4, wX12_take), (161, 2, 2, wX12_greater)]), qm_tab aX12_takeCell)
set_option maxRecDepth 20000 in
set_option maxHeartbeats 2000000 in
theorem rX12_takeCell_0   {a0 : Nat} {x1 : Int32} {h : qm_H} {r : Int32 × qm_H} (ho : qX12_takeCell  a0 x1 h = some r) : qm_Ret mX12_takeCell (0, [some (qm_r 0 12 a0), some (qm_i x1)], [], h) (qm_Gi r) := by
  unfold qX12_takeCell at ho
  refine qm_Ret.sts 4 (f' := (5, [some (qm_r 0 12 a0), some (qm_i x1)], [qm_i (7 : Int32), qm_i (0 : Int32), qm_i x1, qm_r 0 12 a0], h)) rfl ?_
  obtain ⟨r2, h1, hr, ho⟩ := qm_b2e ho
  refine qm_Ret.call (X := wX12_take [qm_r 0 12 a0, qm_i x1, qm_i (0 : Int32), qm_i (7 : Int32)] h) (o1 := (some (qm_i r2), h1)) (qm_mp (G := qm_Gi) hr) rfl ?_
  show qm_Ret _ (8, [some (qm_r 0 12 a0), some (qm_i x1)], [qm_i r2], h1) _
  refine qm_Ret.eq (t := 24) (e := 11) rfl (fun hc => ?_) (fun hc => ?_)
  · rw [if_pos hc] at ho
    cases ho
    exact qm_Ret.ret 2 rfl
  · rw [if_neg hc] at ho
    refine qm_Ret.sts 6 (f' := (18, [some (qm_r 0 12 a0), some (qm_i x1)], [qm_i (7 : Int32), qm_i (0 : Int32), qm_i (x1 + (1 : Int32)), qm_r 0 12 a0], h1)) rfl ?_
    obtain ⟨r4, h3, hr, ho⟩ := qm_b2e ho
    refine qm_Ret.call (X := wX12_take [qm_r 0 12 a0, qm_i (x1 + (1 : Int32)), qm_i (0 : Int32), qm_i (7 : Int32)] h1) (o1 := (some (qm_i r4), h3)) (qm_mp (G := qm_Gi) hr) rfl ?_
    show qm_Ret _ (21, [some (qm_r 0 12 a0), some (qm_i x1)], [qm_i r4], h3) _
    refine qm_Ret.ne (t := 26) (e := 24) rfl (fun hc => ?_) (fun hc => ?_)
    · rw [if_pos hc] at ho
      cases ho
      exact qm_Ret.ret 2 rfl
    · rw [if_neg hc] at ho
      refine qm_Ret.sts 6 (f' := (36, [some (qm_r 0 12 a0), some (qm_i x1)], [qm_i x1, qm_r 1 4 (a0 + 11), qm_i (h3.1 a0 21), qm_r 0 12 a0], h3)) rfl ?_
      obtain ⟨hg, ho⟩ := qm_ifn ho
      refine qm_Ret.gn (f1 := (37, [some (qm_r 0 12 a0), some (qm_i x1)], [qm_i (h3.1 (a0 + 11) (x1).toNatClampNeg), qm_i (h3.1 a0 21), qm_r 0 12 a0], h3)) hg rfl ?_
      obtain ⟨r6, h5, hr, ho⟩ := qm_b2e ho
      refine qm_Ret.call (X := wX12_greater [qm_i (h3.1 a0 21), qm_i (h3.1 (a0 + 11) (x1).toNatClampNeg)] h3) (o1 := (some (qm_i r6), h5)) (qm_mp (G := qm_Gi) hr) rfl ?_
      show qm_Ret _ (40, [some (qm_r 0 12 a0), some (qm_i x1)], [qm_i r6, qm_r 0 12 a0], h5) _
      refine qm_Ret.sts 9 (f' := (55, [some (qm_r 0 12 a0), some (qm_i x1)], [qm_i (x1 + (1 : Int32)), qm_r 1 4 (a0 + 11), qm_i ((qm_seti h5 a0 21 r6).1 a0 22), qm_r 0 12 a0], (qm_seti h5 a0 21 r6))) rfl ?_
      obtain ⟨hg, ho⟩ := qm_ifn ho
      refine qm_Ret.gn (f1 := (56, [some (qm_r 0 12 a0), some (qm_i x1)], [qm_i ((qm_seti h5 a0 21 r6).1 (a0 + 11) (x1 + (1 : Int32)).toNatClampNeg), qm_i ((qm_seti h5 a0 21 r6).1 a0 22), qm_r 0 12 a0], (qm_seti h5 a0 21 r6))) hg rfl ?_
      obtain ⟨r8, h7, hr, ho⟩ := qm_b2e ho
      refine qm_Ret.call (X := wX12_greater [qm_i ((qm_seti h5 a0 21 r6).1 a0 22), qm_i ((qm_seti h5 a0 21 r6).1 (a0 + 11) (x1 + (1 : Int32)).toNatClampNeg)] (qm_seti h5 a0 21 r6)) (o1 := (some (qm_i r8), h7)) (qm_mp (G := qm_Gi) hr) rfl ?_
      show qm_Ret _ (59, [some (qm_r 0 12 a0), some (qm_i x1)], [qm_i r8, qm_r 0 12 a0], h7) _
      cases ho
      exact qm_Ret.ret 3 rfl
theorem cX12_takeCell_ok : ∀ q ∈ ([(155, 0, 4, wX12_take), (161, 2, 2, wX12_greater)] : List (Nat × Nat × Nat × qm_C)), qm_CallOK RX12 3 67 q.2.1 q.1 q.2.2.1 q.2.2.2 := List.forall_mem_cons.mpr ⟨Or.inl ⟨yX12_take, cX12_take, 4, (some .boolean), 2, 44, _, sX12_take, ⟨by decide, by decide⟩, ⟨jX12_take, kRX12_155, uRX12⟩, ⟨by decide, by decide, rfl⟩, Or.inl ⟨rfl, rfl, iX12_take, recvX12_take⟩⟩, List.forall_mem_cons.mpr ⟨Or.inl ⟨yX12_greater, cX12_greater, 2, (some .int), 0, 0, _, sX12_greater, ⟨by decide, by decide⟩, ⟨jX12_greater, kRX12_161, uRX12⟩, ⟨by decide, by decide, rfl⟩, Or.inr (Or.inl ⟨rfl, rfl, iX12_greater⟩)⟩, fun _ h => absurd h List.not_mem_nil⟩⟩
theorem sX12_takeCell : qm_Snd yX12_takeCell cX12_takeCell 2 (some .boolean) 3 67 wX12_takeCell := qm_met (fld := fun k => qm_lk k pfRX12) (con := fun k => qm_lk k pcRX12) (call := fun k => qm_lk k [(155, 0, 4, wX12_take), (161, 2, 2, wX12_greater)]) (tab := qm_tab aX12_takeCell) (plainFor_of_name (by decide)) (qm_fld_ok pfRX12_ok) (qm_con_ok pcRX12_ok) (fun idx kd n f hc => cX12_takeCell_ok (idx, kd, n, f) (qm_lk_mem hc)) (qm_tab_ok aX12_takeCell_ok) (fun vs h o hw => by
  unfold wX12_takeCell at hw
  split at hw
  · obtain ⟨r, hr, rfl⟩ := Option.map_eq_some_iff.mp hw
    exact ⟨Nat.le_of_ble_eq_true rfl, rX12_takeCell_0 (hr)⟩
  · cases hw)
theorem recvX12_takeCell : ∀ vs h o, wX12_takeCell vs h = some o → ∃ ci a rest, vs = qm_r 0 ci a :: rest ∧ qm_R ci = yX12_takeCell.cls := by
  intro vs h o hw
  unfold wX12_takeCell at hw
  split at hw
  · exact ⟨_, _, _, rfl, rfl⟩
  · cases hw
-- RX12 full(III)V
theorem jX12_full : Jvm.Cond.code yX12_full cX12_full 4 none ∈ qm_all := List.mem_filter.mpr ⟨by decide +kernel, rfl⟩
theorem iX12_full : Jvm.Cond.instanceMethod yX12_full ∈ qm_all ∧ Jvm.Cond.selects yX12_full.cls yX12_full yX12_full ∈ qm_all := ⟨List.mem_filter.mpr ⟨by decide +kernel, rfl⟩, List.mem_filter.mpr ⟨by decide +kernel, rfl⟩⟩
def wX12_full : qm_C := fun vs h => match vs with
  | [.inr (.inr (some (0, 12, p0))), .inl p1, .inl p2, .inl p3] => (qX12_full p0 p1 p2 p3 h).map qm_Gv
  | _ => none
def aX12_full : List (Option (Instr × Nat)) := [some (.aload_n 0, 1), some (.getfield 38, 3), none, none, some (.iload_n 1, 1), some (.iaload, 1), some (.iload_n 2, 1), some (.if_icmp .ne 9, 3), none, none, some (.aload_n 0, 1), some (.iconst 3, 1), some (.iload_n 3, 1), some (.invokevirtual 144, 3), none, none, some (.return_, 1)]
theorem aX12_full_ok : qm_tabok cX12_full aX12_full = true := by decide +kernel
def mX12_full : qm_M := (none, (fun k => qm_lk k pfRX12), (fun k => qm_lk k pcRX12), (fun k => qm_lk k [(144, 0, 3, wX12_later)]), qm_tab aX12_full)
set_option maxRecDepth 20000 in
set_option maxHeartbeats 2000000 in
theorem rX12_full_0   {a0 : Nat} {x1 : Int32} {x2 : Int32} {x3 : Int32} {h : qm_H} {r : qm_H} (ho : qX12_full  a0 x1 x2 x3 h = some r) : qm_Ret mX12_full (0, [some (qm_r 0 12 a0), some (qm_i x1), some (qm_i x2), some (qm_i x3)], [], h) (qm_Gv r) := by
  unfold qX12_full at ho
  refine qm_Ret.sts 3 (f' := (5, [some (qm_r 0 12 a0), some (qm_i x1), some (qm_i x2), some (qm_i x3)], [qm_i x1, qm_r 1 161 (a0 + 10)], h)) rfl ?_
  obtain ⟨hg, ho⟩ := qm_ifn ho
  refine qm_Ret.gn (f1 := (6, [some (qm_r 0 12 a0), some (qm_i x1), some (qm_i x2), some (qm_i x3)], [qm_i (h.1 (a0 + 10) (x1).toNatClampNeg)], h)) hg rfl ?_
  refine qm_Ret.sts 1 (f' := (7, [some (qm_r 0 12 a0), some (qm_i x1), some (qm_i x2), some (qm_i x3)], [qm_i x2, qm_i (h.1 (a0 + 10) (x1).toNatClampNeg)], h)) rfl ?_
  refine qm_Ret.ne (t := 16) (e := 10) rfl (fun hc => ?_) (fun hc => ?_)
  · rw [if_pos hc] at ho
    refine qm_Ret.sts 3 (f' := (13, [some (qm_r 0 12 a0), some (qm_i x1), some (qm_i x2), some (qm_i x3)], [qm_i x3, qm_i (3 : Int32), qm_r 0 12 a0], h)) rfl ?_
    obtain ⟨h1, hr, ho⟩ := qm_bd ho
    refine qm_Ret.call (X := wX12_later [qm_r 0 12 a0, qm_i (3 : Int32), qm_i x3] h) (o1 := (none, h1)) (qm_mp (G := qm_Gv) hr) rfl ?_
    show qm_Ret _ (16, [some (qm_r 0 12 a0), some (qm_i x1), some (qm_i x2), some (qm_i x3)], [], h1) _
    cases ho
    exact qm_Ret.ret 1 rfl
  · rw [if_neg hc] at ho
    cases ho
    exact qm_Ret.ret 1 rfl
theorem cX12_full_ok : ∀ q ∈ ([(144, 0, 3, wX12_later)] : List (Nat × Nat × Nat × qm_C)), qm_CallOK RX12 1 22 q.2.1 q.1 q.2.2.1 q.2.2.2 := List.forall_mem_cons.mpr ⟨Or.inl ⟨yX12_later, cX12_later, 3, none, 0, 0, _, sX12_later, ⟨by decide, by decide⟩, ⟨jX12_later, kRX12_144, uRX12⟩, ⟨by decide, by decide, rfl⟩, Or.inl ⟨rfl, rfl, iX12_later, recvX12_later⟩⟩, fun _ h => absurd h List.not_mem_nil⟩
theorem sX12_full : qm_Snd yX12_full cX12_full 4 none 1 22 wX12_full := qm_met (fld := fun k => qm_lk k pfRX12) (con := fun k => qm_lk k pcRX12) (call := fun k => qm_lk k [(144, 0, 3, wX12_later)]) (tab := qm_tab aX12_full) (plainFor_of_name (by decide)) (qm_fld_ok pfRX12_ok) (qm_con_ok pcRX12_ok) (fun idx kd n f hc => cX12_full_ok (idx, kd, n, f) (qm_lk_mem hc)) (qm_tab_ok aX12_full_ok) (fun vs h o hw => by
  unfold wX12_full at hw
  split at hw
  · obtain ⟨r, hr, rfl⟩ := Option.map_eq_some_iff.mp hw
    exact ⟨Nat.le_of_ble_eq_true rfl, rX12_full_0 (hr)⟩
  · cases hw)
theorem recvX12_full : ∀ vs h o, wX12_full vs h = some o → ∃ ci a rest, vs = qm_r 0 ci a :: rest ∧ qm_R ci = yX12_full.cls := by
  intro vs h o hw
  unfold wX12_full at hw
  split at hw
  · exact ⟨_, _, _, rfl, rfl⟩
  · cases hw
-- RX12 sizeLine()Z
theorem jX12_sizeLine : Jvm.Cond.code yX12_sizeLine cX12_sizeLine 1 (some .boolean) ∈ qm_all := List.mem_filter.mpr ⟨by decide +kernel, rfl⟩
theorem iX12_sizeLine : Jvm.Cond.instanceMethod yX12_sizeLine ∈ qm_all ∧ Jvm.Cond.selects yX12_sizeLine.cls yX12_sizeLine yX12_sizeLine ∈ qm_all := ⟨List.mem_filter.mpr ⟨by decide +kernel, rfl⟩, List.mem_filter.mpr ⟨by decide +kernel, rfl⟩⟩
def wX12_sizeLine : qm_C := fun vs h => match vs with
  | [.inr (.inr (some (0, 12, p0)))] => (qX12_sizeLine p0 h).map qm_Gi
  | _ => none
def aX12_sizeLine : List (Option (Instr × Nat)) := [some (.aload_n 0, 1), some (.iconst 0, 1), some (.iconst 2, 1), some (.bipush 8, 2), none, some (.invokevirtual 155, 3), none, none, some (.ifCond .eq 14, 3), none, none, some (.aload_n 0, 1), some (.iconst 1, 1), some (.iconst 2, 1), some (.bipush 8, 2), none, some (.invokevirtual 155, 3), none, none, some (.ifCond .ne 5, 3), none, none, some (.iconst 0, 1), some (.ireturn, 1), some (.aload_n 0, 1), some (.getfield 38, 3), none, none, some (.iconst 0, 1), some (.aload_n 0, 1), some (.getfield 41, 3), none, none, some (.iconst 0, 1), some (.iaload, 1), some (.iastore, 1), some (.aload_n 0, 1), some (.getfield 38, 3), none, none, some (.iconst 1, 1), some (.aload_n 0, 1), some (.getfield 41, 3), none, none, some (.iconst 1, 1), some (.iaload, 1), some (.iastore, 1), some (.iconst 1, 1), some (.ireturn, 1)]
theorem aX12_sizeLine_ok : qm_tabok cX12_sizeLine aX12_sizeLine = true := by decide +kernel
def mX12_sizeLine : qm_M := ((some .boolean), (fun k => qm_lk k pfRX12), (fun k => qm_lk k pcRX12), (fun k => qm_lk k [(155, 0, 4, wX12_take)]), qm_tab aX12_sizeLine)
set_option maxRecDepth 20000 in
set_option maxHeartbeats 2000000 in
theorem rX12_sizeLine_0   {a0 : Nat} {h : qm_H} {r : Int32 × qm_H} (ho : qX12_sizeLine  a0 h = some r) : qm_Ret mX12_sizeLine (0, [some (qm_r 0 12 a0)], [], h) (qm_Gi r) := by
  unfold qX12_sizeLine at ho
  refine qm_Ret.sts 4 (f' := (5, [some (qm_r 0 12 a0)], [qm_i (8 : Int32), qm_i (2 : Int32), qm_i (0 : Int32), qm_r 0 12 a0], h)) rfl ?_
  obtain ⟨r2, h1, hr, ho⟩ := qm_b2e ho
  refine qm_Ret.call (X := wX12_take [qm_r 0 12 a0, qm_i (0 : Int32), qm_i (2 : Int32), qm_i (8 : Int32)] h) (o1 := (some (qm_i r2), h1)) (qm_mp (G := qm_Gi) hr) rfl ?_
  show qm_Ret _ (8, [some (qm_r 0 12 a0)], [qm_i r2], h1) _
  refine qm_Ret.eq (t := 22) (e := 11) rfl (fun hc => ?_) (fun hc => ?_)
  · rw [if_pos hc] at ho
    cases ho
    exact qm_Ret.ret 2 rfl
  · rw [if_neg hc] at ho
    refine qm_Ret.sts 4 (f' := (16, [some (qm_r 0 12 a0)], [qm_i (8 : Int32), qm_i (2 : Int32), qm_i (1 : Int32), qm_r 0 12 a0], h1)) rfl ?_
    obtain ⟨r4, h3, hr, ho⟩ := qm_b2e ho
    refine qm_Ret.call (X := wX12_take [qm_r 0 12 a0, qm_i (1 : Int32), qm_i (2 : Int32), qm_i (8 : Int32)] h1) (o1 := (some (qm_i r4), h3)) (qm_mp (G := qm_Gi) hr) rfl ?_
    show qm_Ret _ (19, [some (qm_r 0 12 a0)], [qm_i r4], h3) _
    refine qm_Ret.ne (t := 24) (e := 22) rfl (fun hc => ?_) (fun hc => ?_)
    · rw [if_pos hc] at ho
      cases ho
      exact qm_Ret.ret 2 rfl
    · rw [if_neg hc] at ho
      refine qm_Ret.sts 8 (f' := (36, [some (qm_r 0 12 a0)], [], (qm_seti h3 (a0 + 10) (0 : Int32).toNatClampNeg (h3.1 (a0 + 11) (0 : Int32).toNatClampNeg)))) rfl ?_
      refine qm_Ret.lets (F := fun h5 => (36, [some (qm_r 0 12 a0)], [], h5)) (G := qm_Gi) ho (fun h5 ho => ?_)
      refine qm_Ret.sts 8 (f' := (48, [some (qm_r 0 12 a0)], [], (qm_seti h5 (a0 + 10) (1 : Int32).toNatClampNeg (h5.1 (a0 + 11) (1 : Int32).toNatClampNeg)))) rfl ?_
      refine qm_Ret.lets (F := fun h6 => (48, [some (qm_r 0 12 a0)], [], h6)) (G := qm_Gi) ho (fun h6 ho => ?_)
      cases ho
      exact qm_Ret.ret 2 rfl
theorem cX12_sizeLine_ok : ∀ q ∈ ([(155, 0, 4, wX12_take)] : List (Nat × Nat × Nat × qm_C)), qm_CallOK RX12 3 67 q.2.1 q.1 q.2.2.1 q.2.2.2 := List.forall_mem_cons.mpr ⟨Or.inl ⟨yX12_take, cX12_take, 4, (some .boolean), 2, 44, _, sX12_take, ⟨by decide, by decide⟩, ⟨jX12_take, kRX12_155, uRX12⟩, ⟨by decide, by decide, rfl⟩, Or.inl ⟨rfl, rfl, iX12_take, recvX12_take⟩⟩, fun _ h => absurd h List.not_mem_nil⟩
theorem sX12_sizeLine : qm_Snd yX12_sizeLine cX12_sizeLine 1 (some .boolean) 3 67 wX12_sizeLine := qm_met (fld := fun k => qm_lk k pfRX12) (con := fun k => qm_lk k pcRX12) (call := fun k => qm_lk k [(155, 0, 4, wX12_take)]) (tab := qm_tab aX12_sizeLine) (plainFor_of_name (by decide)) (qm_fld_ok pfRX12_ok) (qm_con_ok pcRX12_ok) (fun idx kd n f hc => cX12_sizeLine_ok (idx, kd, n, f) (qm_lk_mem hc)) (qm_tab_ok aX12_sizeLine_ok) (fun vs h o hw => by
  unfold wX12_sizeLine at hw
  split at hw
  · obtain ⟨r, hr, rfl⟩ := Option.map_eq_some_iff.mp hw
    exact ⟨Nat.le_of_ble_eq_true rfl, rX12_sizeLine_0 (hr)⟩
  · cases hw)
theorem recvX12_sizeLine : ∀ vs h o, wX12_sizeLine vs h = some o → ∃ ci a rest, vs = qm_r 0 ci a :: rest ∧ qm_R ci = yX12_sizeLine.cls := by
  intro vs h o hw
  unfold wX12_sizeLine at hw
  split at hw
  · exact ⟨_, _, _, rfl, rfl⟩
  · cases hw
-- RX12 rodLine(Z)Z
theorem jX12_rodLine : Jvm.Cond.code yX12_rodLine cX12_rodLine 2 (some .boolean) ∈ qm_all := List.mem_filter.mpr ⟨by decide +kernel, rfl⟩
theorem iX12_rodLine : Jvm.Cond.instanceMethod yX12_rodLine ∈ qm_all ∧ Jvm.Cond.selects yX12_rodLine.cls yX12_rodLine yX12_rodLine ∈ qm_all := ⟨List.mem_filter.mpr ⟨by decide +kernel, rfl⟩, List.mem_filter.mpr ⟨by decide +kernel, rfl⟩⟩
def wX12_rodLine : qm_C := fun vs h => match vs with
  | [.inr (.inr (some (0, 12, p0))), .inl p1] => (qX12_rodLine p0 p1 h).map qm_Gi
  | _ => none
def aX12_rodLine : List (Option (Instr × Nat)) := [some (.aload_n 0, 1), some (.iconst 0, 1), some (.iconst 0, 1), some (.bipush 7, 2), none, some (.invokevirtual 155, 3), none, none, some (.ifCond .eq 25, 3), none, none, some (.aload_n 0, 1), some (.iconst 1, 1), some (.iconst 0, 1), some (.bipush 9, 2), none, some (.invokevirtual 155, 3), none, none, some (.ifCond .eq 14, 3), none, none, some (.aload_n 0, 1), some (.iconst 2, 1), some (.iconst 0, 1), some (.bipush 9, 2), none, some (.invokevirtual 155, 3), none, none, some (.ifCond .ne 5, 3), none, none, some (.iconst 0, 1), some (.ireturn, 1), some (.aload_n 0, 1), some (.iload_n 1, 1), some (.ifCond .eq 19, 3), none, none, some (.aload_n 0, 1), some (.getfield 158, 3), none, none, some (.aload_n 0, 1), some (.getfield 41, 3), none, none, some (.iconst 0, 1), some (.iaload, 1), some (.invokestatic 161, 3), none, none, some (.goto 7, 3), none, none, some (.aload_n 0, 1), some (.getfield 158, 3), none, none, some (.putfield 158, 3), none, none, some (.aload_n 0, 1), some (.iload_n 1, 1), some (.ifCond .eq 10, 3), none, none, some (.aload_n 0, 1), some (.getfield 165, 3), none, none, some (.goto 16, 3), none, none, some (.aload_n 0, 1), some (.getfield 165, 3), none, none, some (.aload_n 0, 1), some (.getfield 41, 3), none, none, some (.iconst 0, 1), some (.iaload, 1), some (.invokestatic 161, 3), none, none, some (.putfield 165, 3), none, none, some (.aload_n 0, 1), some (.getfield 148, 3), none, none, some (.ifCond .eq 64, 3), none, none, some (.aload_n 0, 1), some (.getfield 38, 3), none, none, some (.iconst 3, 1), some (.iload_n 1, 1), some (.ifCond .eq 8, 3), none, none, some (.bipush 16, 2), none, some (.goto 4, 3), none, none, some (.iconst 0, 1), some (.iadd, 1), some (.aload_n 0, 1), some (.getfield 41, 3), none, none, some (.iconst 0, 1), some (.iaload, 1), some (.iadd, 1), some (.aload_n 0, 1), some (.getfield 41, 3), none, none, some (.iconst 1, 1), some (.iaload, 1), some (.iastore, 1), some (.aload_n 0, 1), some (.getfield 38, 3), none, none, some (.bipush 11, 2), none, some (.iload_n 1, 1), some (.ifCond .eq 8, 3), none, none, some (.bipush 16, 2), none, some (.goto 4, 3), none, none, some (.iconst 0, 1), some (.iadd, 1), some (.aload_n 0, 1), some (.getfield 41, 3), none, none, some (.iconst 0, 1), some (.iaload, 1), some (.iadd, 1), some (.aload_n 0, 1), some (.getfield 41, 3), none, none, some (.iconst 2, 1), some (.iaload, 1), some (.iastore, 1), some (.iconst 1, 1), some (.ireturn, 1)]
theorem aX12_rodLine_ok : qm_tabok cX12_rodLine aX12_rodLine = true := by decide +kernel
def mX12_rodLine : qm_M := ((some .boolean), (fun k => qm_lk k pfRX12), (fun k => qm_lk k pcRX12), (fun k => qm_lk k [(161, 2, 2, wX12_greater), (155, 0, 4, wX12_take)]), qm_tab aX12_rodLine)
set_option maxRecDepth 20000 in
set_option maxHeartbeats 2000000 in
theorem rX12_rodLine_113   {a0 : Nat} {x1 : Int32} {xs0 : Int32} {xs1 : Int32} {as2 : Nat} {h : qm_H} {r : Int32 × qm_H} (ho : qX12_rodLine_113  a0 x1 xs0 xs1 as2 h = some r) : qm_Ret mX12_rodLine (113, [some (qm_r 0 12 a0), some (qm_i x1)], [qm_i xs0, qm_i xs1, qm_r 1 161 as2], h) (qm_Gi r) := by
  unfold qX12_rodLine_113 at ho
  refine qm_Ret.sts 10 (f' := (127, [some (qm_r 0 12 a0), some (qm_i x1)], [qm_i (h.1 (a0 + 11) (1 : Int32).toNatClampNeg), qm_i ((xs1 + xs0) + (h.1 (a0 + 11) (0 : Int32).toNatClampNeg)), qm_r 1 161 as2], h)) rfl ?_
  obtain ⟨hg, ho⟩ := qm_ifn ho
  refine qm_Ret.gn (f1 := (128, [some (qm_r 0 12 a0), some (qm_i x1)], [], (qm_seti h as2 ((xs1 + xs0) + (h.1 (a0 + 11) (0 : Int32).toNatClampNeg)).toNatClampNeg (h.1 (a0 + 11) (1 : Int32).toNatClampNeg)))) hg rfl ?_
  refine qm_Ret.lets (F := fun h1 => (128, [some (qm_r 0 12 a0), some (qm_i x1)], [], h1)) (G := qm_Gi) ho (fun h1 ho => ?_)
  refine qm_Ret.sts 4 (f' := (135, [some (qm_r 0 12 a0), some (qm_i x1)], [qm_i x1, qm_i (11 : Int32), qm_r 1 161 (a0 + 10)], h1)) rfl ?_
  refine qm_Ret.eq (t := 143) (e := 138) rfl (fun hc => ?_) (fun hc => ?_)
  · rw [if_pos hc] at ho
    refine qm_Ret.sts 11 (f' := (158, [some (qm_r 0 12 a0), some (qm_i x1)], [qm_i (h1.1 (a0 + 11) (2 : Int32).toNatClampNeg), qm_i (((11 : Int32) + (0 : Int32)) + (h1.1 (a0 + 11) (0 : Int32).toNatClampNeg)), qm_r 1 161 (a0 + 10)], h1)) rfl ?_
    obtain ⟨hg, ho⟩ := qm_ifn ho
    refine qm_Ret.gn (f1 := (159, [some (qm_r 0 12 a0), some (qm_i x1)], [], (qm_seti h1 (a0 + 10) (((11 : Int32) + (0 : Int32)) + (h1.1 (a0 + 11) (0 : Int32).toNatClampNeg)).toNatClampNeg (h1.1 (a0 + 11) (2 : Int32).toNatClampNeg)))) hg rfl ?_
    refine qm_Ret.lets (F := fun h2 => (159, [some (qm_r 0 12 a0), some (qm_i x1)], [], h2)) (G := qm_Gi) ho (fun h2 ho => ?_)
    cases ho
    exact qm_Ret.ret 2 rfl
  · rw [if_neg hc] at ho
    refine qm_Ret.sts 12 (f' := (158, [some (qm_r 0 12 a0), some (qm_i x1)], [qm_i (h1.1 (a0 + 11) (2 : Int32).toNatClampNeg), qm_i (((11 : Int32) + (16 : Int32)) + (h1.1 (a0 + 11) (0 : Int32).toNatClampNeg)), qm_r 1 161 (a0 + 10)], h1)) rfl ?_
    obtain ⟨hg, ho⟩ := qm_ifn ho
    refine qm_Ret.gn (f1 := (159, [some (qm_r 0 12 a0), some (qm_i x1)], [], (qm_seti h1 (a0 + 10) (((11 : Int32) + (16 : Int32)) + (h1.1 (a0 + 11) (0 : Int32).toNatClampNeg)).toNatClampNeg (h1.1 (a0 + 11) (2 : Int32).toNatClampNeg)))) hg rfl ?_
    refine qm_Ret.lets (F := fun h3 => (159, [some (qm_r 0 12 a0), some (qm_i x1)], [], h3)) (G := qm_Gi) ho (fun h3 ho => ?_)
    cases ho
    exact qm_Ret.ret 2 rfl
set_option maxRecDepth 20000 in
set_option maxHeartbeats 2000000 in
theorem rX12_rodLine_60   {a0 : Nat} {x1 : Int32} {xs0 : Int32} {as1 : Nat} {h : qm_H} {r : Int32 × qm_H} (ho : qX12_rodLine_60  a0 x1 xs0 as1 h = some r) : qm_Ret mX12_rodLine (60, [some (qm_r 0 12 a0), some (qm_i x1)], [qm_i xs0, qm_r 0 12 as1], h) (qm_Gi r) := by
  unfold qX12_rodLine_60 at ho
  refine qm_Ret.sts 3 (f' := (65, [some (qm_r 0 12 a0), some (qm_i x1)], [qm_i x1, qm_r 0 12 a0], (qm_seti h as1 21 xs0))) rfl ?_
  refine qm_Ret.eq (t := 75) (e := 68) rfl (fun hc => ?_) (fun hc => ?_)
  · rw [if_pos hc] at ho
    refine qm_Ret.sts 6 (f' := (85, [some (qm_r 0 12 a0), some (qm_i x1)], [qm_i ((qm_seti h as1 21 xs0).1 (a0 + 11) (0 : Int32).toNatClampNeg), qm_i ((qm_seti h as1 21 xs0).1 a0 22), qm_r 0 12 a0], (qm_seti h as1 21 xs0))) rfl ?_
    obtain ⟨r2, h1, hr, ho⟩ := qm_b2e ho
    refine qm_Ret.call (X := wX12_greater [qm_i ((qm_seti h as1 21 xs0).1 a0 22), qm_i ((qm_seti h as1 21 xs0).1 (a0 + 11) (0 : Int32).toNatClampNeg)] (qm_seti h as1 21 xs0)) (o1 := (some (qm_i r2), h1)) (qm_mp (G := qm_Gi) hr) rfl ?_
    show qm_Ret _ (88, [some (qm_r 0 12 a0), some (qm_i x1)], [qm_i r2, qm_r 0 12 a0], h1) _
    refine qm_Ret.sts 3 (f' := (95, [some (qm_r 0 12 a0), some (qm_i x1)], [qm_i ((qm_seti h1 a0 22 r2).1 a0 23)], (qm_seti h1 a0 22 r2))) rfl ?_
    refine qm_Ret.eq (t := 159) (e := 98) rfl (fun hc => ?_) (fun hc => ?_)
    · rw [if_pos hc] at ho
      cases ho
      exact qm_Ret.ret 2 rfl
    · rw [if_neg hc] at ho
      refine qm_Ret.sts 4 (f' := (104, [some (qm_r 0 12 a0), some (qm_i x1)], [qm_i x1, qm_i (3 : Int32), qm_r 1 161 (a0 + 10)], (qm_seti h1 a0 22 r2))) rfl ?_
      refine qm_Ret.eq (t := 112) (e := 107) rfl (fun hc => ?_) (fun hc => ?_)
      · rw [if_pos hc] at ho
        refine qm_Ret.sts 1 (f' := (113, [some (qm_r 0 12 a0), some (qm_i x1)], [qm_i (0 : Int32), qm_i (3 : Int32), qm_r 1 161 (a0 + 10)], (qm_seti h1 a0 22 r2))) rfl ?_
        exact rX12_rodLine_113 ho
      · rw [if_neg hc] at ho
        refine qm_Ret.sts 2 (f' := (113, [some (qm_r 0 12 a0), some (qm_i x1)], [qm_i (16 : Int32), qm_i (3 : Int32), qm_r 1 161 (a0 + 10)], (qm_seti h1 a0 22 r2))) rfl ?_
        exact rX12_rodLine_113 ho
  · rw [if_neg hc] at ho
    refine qm_Ret.sts 4 (f' := (91, [some (qm_r 0 12 a0), some (qm_i x1)], [], (qm_seti (qm_seti h as1 21 xs0) a0 22 ((qm_seti h as1 21 xs0).1 a0 22)))) rfl ?_
    refine qm_Ret.lets (F := fun h3 => (91, [some (qm_r 0 12 a0), some (qm_i x1)], [], h3)) (G := qm_Gi) ho (fun h3 ho => ?_)
    refine qm_Ret.sts 2 (f' := (95, [some (qm_r 0 12 a0), some (qm_i x1)], [qm_i (h3.1 a0 23)], h3)) rfl ?_
    refine qm_Ret.eq (t := 159) (e := 98) rfl (fun hc => ?_) (fun hc => ?_)
    · rw [if_pos hc] at ho
      cases ho
      exact qm_Ret.ret 2 rfl
    · rw [if_neg hc] at ho
      refine qm_Ret.sts 4 (f' := (104, [some (qm_r 0 12 a0), some (qm_i x1)], [qm_i x1, qm_i (3 : Int32), qm_r 1 161 (a0 + 10)], h3)) rfl ?_
      refine qm_Ret.eq (t := 112) (e := 107) rfl (fun hc => ?_) (fun hc => ?_)
      · rw [if_pos hc] at ho
        refine qm_Ret.sts 1 (f' := (113, [some (qm_r 0 12 a0), some (qm_i x1)], [qm_i (0 : Int32), qm_i (3 : Int32), qm_r 1 161 (a0 + 10)], h3)) rfl ?_
        exact rX12_rodLine_113 ho
      · rw [if_neg hc] at ho
        refine qm_Ret.sts 2 (f' := (113, [some (qm_r 0 12 a0), some (qm_i x1)], [qm_i (16 : Int32), qm_i (3 : Int32), qm_r 1 161 (a0 + 10)], h3)) rfl ?_
        exact rX12_rodLine_113 ho
set_option maxRecDepth 20000 in
set_option maxHeartbeats 2000000 in
theorem rX12_rodLine_0   {a0 : Nat} {x1 : Int32} {h : qm_H} {r : Int32 × qm_H} (ho : qX12_rodLine  a0 x1 h = some r) : qm_Ret mX12_rodLine (0, [some (qm_r 0 12 a0), some (qm_i x1)], [], h) (qm_Gi r) := by
  unfold qX12_rodLine at ho
  refine qm_Ret.sts 4 (f' := (5, [some (qm_r 0 12 a0), some (qm_i x1)], [qm_i (7 : Int32), qm_i (0 : Int32), qm_i (0 : Int32), qm_r 0 12 a0], h)) rfl ?_
  obtain ⟨r2, h1, hr, ho⟩ := qm_b2e ho
  refine qm_Ret.call (X := wX12_take [qm_r 0 12 a0, qm_i (0 : Int32), qm_i (0 : Int32), qm_i (7 : Int32)] h) (o1 := (some (qm_i r2), h1)) (qm_mp (G := qm_Gi) hr) rfl ?_
  show qm_Ret _ (8, [some (qm_r 0 12 a0), some (qm_i x1)], [qm_i r2], h1) _
  refine qm_Ret.eq (t := 33) (e := 11) rfl (fun hc => ?_) (fun hc => ?_)
  · rw [if_pos hc] at ho
    cases ho
    exact qm_Ret.ret 2 rfl
  · rw [if_neg hc] at ho
    refine qm_Ret.sts 4 (f' := (16, [some (qm_r 0 12 a0), some (qm_i x1)], [qm_i (9 : Int32), qm_i (0 : Int32), qm_i (1 : Int32), qm_r 0 12 a0], h1)) rfl ?_
    obtain ⟨r4, h3, hr, ho⟩ := qm_b2e ho
    refine qm_Ret.call (X := wX12_take [qm_r 0 12 a0, qm_i (1 : Int32), qm_i (0 : Int32), qm_i (9 : Int32)] h1) (o1 := (some (qm_i r4), h3)) (qm_mp (G := qm_Gi) hr) rfl ?_
    show qm_Ret _ (19, [some (qm_r 0 12 a0), some (qm_i x1)], [qm_i r4], h3) _
    refine qm_Ret.eq (t := 33) (e := 22) rfl (fun hc => ?_) (fun hc => ?_)
    · rw [if_pos hc] at ho
      cases ho
      exact qm_Ret.ret 2 rfl
    · rw [if_neg hc] at ho
      refine qm_Ret.sts 4 (f' := (27, [some (qm_r 0 12 a0), some (qm_i x1)], [qm_i (9 : Int32), qm_i (0 : Int32), qm_i (2 : Int32), qm_r 0 12 a0], h3)) rfl ?_
      obtain ⟨r6, h5, hr, ho⟩ := qm_b2e ho
      refine qm_Ret.call (X := wX12_take [qm_r 0 12 a0, qm_i (2 : Int32), qm_i (0 : Int32), qm_i (9 : Int32)] h3) (o1 := (some (qm_i r6), h5)) (qm_mp (G := qm_Gi) hr) rfl ?_
      show qm_Ret _ (30, [some (qm_r 0 12 a0), some (qm_i x1)], [qm_i r6], h5) _
      refine qm_Ret.ne (t := 35) (e := 33) rfl (fun hc => ?_) (fun hc => ?_)
      · rw [if_pos hc] at ho
        cases ho
        exact qm_Ret.ret 2 rfl
      · rw [if_neg hc] at ho
        refine qm_Ret.sts 2 (f' := (37, [some (qm_r 0 12 a0), some (qm_i x1)], [qm_i x1, qm_r 0 12 a0], h5)) rfl ?_
        refine qm_Ret.eq (t := 56) (e := 40) rfl (fun hc => ?_) (fun hc => ?_)
        · rw [if_pos hc] at ho
          refine qm_Ret.sts 2 (f' := (60, [some (qm_r 0 12 a0), some (qm_i x1)], [qm_i (h5.1 a0 21), qm_r 0 12 a0], h5)) rfl ?_
          exact rX12_rodLine_60 ho
        · rw [if_neg hc] at ho
          refine qm_Ret.sts 6 (f' := (50, [some (qm_r 0 12 a0), some (qm_i x1)], [qm_i (h5.1 (a0 + 11) (0 : Int32).toNatClampNeg), qm_i (h5.1 a0 21), qm_r 0 12 a0], h5)) rfl ?_
          obtain ⟨r8, h7, hr, ho⟩ := qm_b2e ho
          refine qm_Ret.call (X := wX12_greater [qm_i (h5.1 a0 21), qm_i (h5.1 (a0 + 11) (0 : Int32).toNatClampNeg)] h5) (o1 := (some (qm_i r8), h7)) (qm_mp (G := qm_Gi) hr) rfl ?_
          show qm_Ret _ (53, [some (qm_r 0 12 a0), some (qm_i x1)], [qm_i r8, qm_r 0 12 a0], h7) _
          refine qm_Ret.sts 1 (f' := (60, [some (qm_r 0 12 a0), some (qm_i x1)], [qm_i r8, qm_r 0 12 a0], h7)) rfl ?_
          exact rX12_rodLine_60 ho
theorem cX12_rodLine_ok : ∀ q ∈ ([(161, 2, 2, wX12_greater), (155, 0, 4, wX12_take)] : List (Nat × Nat × Nat × qm_C)), qm_CallOK RX12 3 67 q.2.1 q.1 q.2.2.1 q.2.2.2 := List.forall_mem_cons.mpr ⟨Or.inl ⟨yX12_greater, cX12_greater, 2, (some .int), 0, 0, _, sX12_greater, ⟨by decide, by decide⟩, ⟨jX12_greater, kRX12_161, uRX12⟩, ⟨by decide, by decide, rfl⟩, Or.inr (Or.inl ⟨rfl, rfl, iX12_greater⟩)⟩, List.forall_mem_cons.mpr ⟨Or.inl ⟨yX12_take, cX12_take, 4, (some .boolean), 2, 44, _, sX12_take, ⟨by decide, by decide⟩, ⟨jX12_take, kRX12_155, uRX12⟩, ⟨by decide, by decide, rfl⟩, Or.inl ⟨rfl, rfl, iX12_take, recvX12_take⟩⟩, fun _ h => absurd h List.not_mem_nil⟩⟩
theorem sX12_rodLine : qm_Snd yX12_rodLine cX12_rodLine 2 (some .boolean) 3 67 wX12_rodLine := qm_met (fld := fun k => qm_lk k pfRX12) (con := fun k => qm_lk k pcRX12) (call := fun k => qm_lk k [(161, 2, 2, wX12_greater), (155, 0, 4, wX12_take)]) (tab := qm_tab aX12_rodLine) (plainFor_of_name (by decide)) (qm_fld_ok pfRX12_ok) (qm_con_ok pcRX12_ok) (fun idx kd n f hc => cX12_rodLine_ok (idx, kd, n, f) (qm_lk_mem hc)) (qm_tab_ok aX12_rodLine_ok) (fun vs h o hw => by
  unfold wX12_rodLine at hw
  split at hw
  · obtain ⟨r, hr, rfl⟩ := Option.map_eq_some_iff.mp hw
    exact ⟨Nat.le_of_ble_eq_true rfl, rX12_rodLine_0 (hr)⟩
  · cases hw)
theorem recvX12_rodLine : ∀ vs h o, wX12_rodLine vs h = some o → ∃ ci a rest, vs = qm_r 0 ci a :: rest ∧ qm_R ci = yX12_rodLine.cls := by
  intro vs h o hw
  unfold wX12_rodLine at hw
  split at hw
  · exact ⟨_, _, _, rfl, rfl⟩
  · cases hw
-- RX12 openLine()Z
theorem jX12_openLine : Jvm.Cond.code yX12_openLine cX12_openLine 1 (some .boolean) ∈ qm_all := List.mem_filter.mpr ⟨by decide +kernel, rfl⟩
theorem iX12_openLine : Jvm.Cond.instanceMethod yX12_openLine ∈ qm_all ∧ Jvm.Cond.selects yX12_openLine.cls yX12_openLine yX12_openLine ∈ qm_all := ⟨List.mem_filter.mpr ⟨by decide +kernel, rfl⟩, List.mem_filter.mpr ⟨by decide +kernel, rfl⟩⟩
def wX12_openLine : qm_C := fun vs h => match vs with
  | [.inr (.inr (some (0, 12, p0)))] => (qX12_openLine p0 h).map qm_Gi
  | _ => none
def aX12_openLine : List (Option (Instr × Nat)) := [some (.aload_n 0, 1), some (.iconst 0, 1), some (.invokevirtual 168, 3), none, none, some (.ifCond .ne 5, 3), none, none, some (.iconst 0, 1), some (.ireturn, 1), some (.aload_n 0, 1), some (.getfield 148, 3), none, none, some (.ifCond .eq 28, 3), none, none, some (.aload_n 0, 1), some (.getfield 38, 3), none, none, some (.bipush 35, 2), none, some (.aload_n 0, 1), some (.getfield 41, 3), none, none, some (.iconst 1, 1), some (.iaload, 1), some (.iadd, 1), some (.dup2, 1), some (.iaload, 1), some (.iconst 1, 1), some (.aload_n 0, 1), some (.getfield 41, 3), none, none, some (.iconst 0, 1), some (.iaload, 1), some (.ishl, 1), some (.ior, 1), some (.iastore, 1), some (.iconst 1, 1), some (.ireturn, 1)]
theorem aX12_openLine_ok : qm_tabok cX12_openLine aX12_openLine = true := by decide +kernel
def mX12_openLine : qm_M := ((some .boolean), (fun k => qm_lk k pfRX12), (fun k => qm_lk k pcRX12), (fun k => qm_lk k [(168, 0, 2, wX12_takeCell)]), qm_tab aX12_openLine)
set_option maxRecDepth 20000 in
set_option maxHeartbeats 2000000 in
theorem rX12_openLine_0   {a0 : Nat} {h : qm_H} {r : Int32 × qm_H} (ho : qX12_openLine  a0 h = some r) : qm_Ret mX12_openLine (0, [some (qm_r 0 12 a0)], [], h) (qm_Gi r) := by
  unfold qX12_openLine at ho
  refine qm_Ret.sts 2 (f' := (2, [some (qm_r 0 12 a0)], [qm_i (0 : Int32), qm_r 0 12 a0], h)) rfl ?_
  obtain ⟨r2, h1, hr, ho⟩ := qm_b2e ho
  refine qm_Ret.call (X := wX12_takeCell [qm_r 0 12 a0, qm_i (0 : Int32)] h) (o1 := (some (qm_i r2), h1)) (qm_mp (G := qm_Gi) hr) rfl ?_
  show qm_Ret _ (5, [some (qm_r 0 12 a0)], [qm_i r2], h1) _
  refine qm_Ret.ne (t := 10) (e := 8) rfl (fun hc => ?_) (fun hc => ?_)
  · rw [if_pos hc] at ho
    cases ho
    exact qm_Ret.ret 2 rfl
  · rw [if_neg hc] at ho
    refine qm_Ret.sts 2 (f' := (14, [some (qm_r 0 12 a0)], [qm_i (h1.1 a0 23)], h1)) rfl ?_
    refine qm_Ret.eq (t := 42) (e := 17) rfl (fun hc => ?_) (fun hc => ?_)
    · rw [if_pos hc] at ho
      cases ho
      exact qm_Ret.ret 2 rfl
    · rw [if_neg hc] at ho
      refine qm_Ret.sts 9 (f' := (31, [some (qm_r 0 12 a0)], [qm_i ((35 : Int32) + (h1.1 (a0 + 11) (1 : Int32).toNatClampNeg)), qm_r 1 161 (a0 + 10), qm_i ((35 : Int32) + (h1.1 (a0 + 11) (1 : Int32).toNatClampNeg)), qm_r 1 161 (a0 + 10)], h1)) rfl ?_
      obtain ⟨hg, ho⟩ := qm_ifn ho
      refine qm_Ret.gn (f1 := (32, [some (qm_r 0 12 a0)], [qm_i (h1.1 (a0 + 10) ((35 : Int32) + (h1.1 (a0 + 11) (1 : Int32).toNatClampNeg)).toNatClampNeg), qm_i ((35 : Int32) + (h1.1 (a0 + 11) (1 : Int32).toNatClampNeg)), qm_r 1 161 (a0 + 10)], h1)) hg rfl ?_
      refine qm_Ret.sts 7 (f' := (41, [some (qm_r 0 12 a0)], [qm_i ((h1.1 (a0 + 10) ((35 : Int32) + (h1.1 (a0 + 11) (1 : Int32).toNatClampNeg)).toNatClampNeg) ||| (qm_ishl (1 : Int32) (h1.1 (a0 + 11) (0 : Int32).toNatClampNeg))), qm_i ((35 : Int32) + (h1.1 (a0 + 11) (1 : Int32).toNatClampNeg)), qm_r 1 161 (a0 + 10)], h1)) rfl ?_
      obtain ⟨hg, ho⟩ := qm_ifn ho
      refine qm_Ret.gn (f1 := (42, [some (qm_r 0 12 a0)], [], (qm_seti h1 (a0 + 10) ((35 : Int32) + (h1.1 (a0 + 11) (1 : Int32).toNatClampNeg)).toNatClampNeg ((h1.1 (a0 + 10) ((35 : Int32) + (h1.1 (a0 + 11) (1 : Int32).toNatClampNeg)).toNatClampNeg) ||| (qm_ishl (1 : Int32) (h1.1 (a0 + 11) (0 : Int32).toNatClampNeg)))))) hg rfl ?_
      refine qm_Ret.lets (F := fun h3 => (42, [some (qm_r 0 12 a0)], [], h3)) (G := qm_Gi) ho (fun h3 ho => ?_)
      cases ho
      exact qm_Ret.ret 2 rfl
theorem cX12_openLine_ok : ∀ q ∈ ([(168, 0, 2, wX12_takeCell)] : List (Nat × Nat × Nat × qm_C)), qm_CallOK RX12 4 88 q.2.1 q.1 q.2.2.1 q.2.2.2 := List.forall_mem_cons.mpr ⟨Or.inl ⟨yX12_takeCell, cX12_takeCell, 2, (some .boolean), 3, 67, _, sX12_takeCell, ⟨by decide, by decide⟩, ⟨jX12_takeCell, kRX12_168, uRX12⟩, ⟨by decide, by decide, rfl⟩, Or.inl ⟨rfl, rfl, iX12_takeCell, recvX12_takeCell⟩⟩, fun _ h => absurd h List.not_mem_nil⟩
theorem sX12_openLine : qm_Snd yX12_openLine cX12_openLine 1 (some .boolean) 4 88 wX12_openLine := qm_met (fld := fun k => qm_lk k pfRX12) (con := fun k => qm_lk k pcRX12) (call := fun k => qm_lk k [(168, 0, 2, wX12_takeCell)]) (tab := qm_tab aX12_openLine) (plainFor_of_name (by decide)) (qm_fld_ok pfRX12_ok) (qm_con_ok pcRX12_ok) (fun idx kd n f hc => cX12_openLine_ok (idx, kd, n, f) (qm_lk_mem hc)) (qm_tab_ok aX12_openLine_ok) (fun vs h o hw => by
  unfold wX12_openLine at hw
  split at hw
  · obtain ⟨r, hr, rfl⟩ := Option.map_eq_some_iff.mp hw
    exact ⟨Nat.le_of_ble_eq_true rfl, rX12_openLine_0 (hr)⟩
  · cases hw)
theorem recvX12_openLine : ∀ vs h o, wX12_openLine vs h = some o → ∃ ci a rest, vs = qm_r 0 ci a :: rest ∧ qm_R ci = yX12_openLine.cls := by
  intro vs h o hw
  unfold wX12_openLine at hw
  split at hw
  · exact ⟨_, _, _, rfl, rfl⟩
  · cases hw
-- RX12 basketLine(J)Z
theorem jX12_basketLine : Jvm.Cond.code yX12_basketLine cX12_basketLine 3 (some .boolean) ∈ qm_all := List.mem_filter.mpr ⟨by decide +kernel, rfl⟩
theorem iX12_basketLine : Jvm.Cond.instanceMethod yX12_basketLine ∈ qm_all ∧ Jvm.Cond.selects yX12_basketLine.cls yX12_basketLine yX12_basketLine ∈ qm_all := ⟨List.mem_filter.mpr ⟨by decide +kernel, rfl⟩, List.mem_filter.mpr ⟨by decide +kernel, rfl⟩⟩
def wX12_basketLine : qm_C := fun vs h => match vs with
  | [.inr (.inr (some (0, 12, p0))), .inr (.inl p1)] => (qX12_basketLine p0 p1 h).map qm_Gi
  | _ => none
def aX12_basketLine : List (Option (Instr × Nat)) := [some (.lload_n 1, 1), some (.ldc2_w 172, 3), none, none, some (.lcmp, 1), some (.ifCond .eq 40, 3), none, none, some (.lload_n 1, 1), some (.ldc2_w 174, 3), none, none, some (.lcmp, 1), some (.ifCond .eq 32, 3), none, none, some (.lload_n 1, 1), some (.ldc2_w 176, 3), none, none, some (.lcmp, 1), some (.ifCond .eq 24, 3), none, none, some (.lload_n 1, 1), some (.ldc2_w 178, 3), none, none, some (.lcmp, 1), some (.ifCond .eq 16, 3), none, none, some (.lload_n 1, 1), some (.ldc2_w 180, 3), none, none, some (.lcmp, 1), some (.ifCond .eq 8, 3), none, none, some (.aload_n 0, 1), some (.invokevirtual 140, 3), none, none, some (.ireturn, 1), some (.aload_n 0, 1), some (.invokevirtual 152, 3), none, none, some (.lload_n 1, 1), some (.ldc2_w 180, 3), none, none, some (.lcmp, 1), some (.ifCond .ne 12, 3), none, none, some (.aload_n 0, 1), some (.getfield 38, 3), none, none, some (.iconst 2, 1), some (.iconst 1, 1), some (.iastore, 1), some (.iconst 1, 1), some (.ireturn, 1), some (.lload_n 1, 1), some (.ldc2_w 172, 3), none, none, some (.lcmp, 1), some (.ifCond .ne 10, 3), none, none, some (.aload_n 0, 1), some (.invokevirtual 182, 3), none, none, some (.goto 35, 3), none, none, some (.lload_n 1, 1), some (.ldc2_w 174, 3), none, none, some (.lcmp, 1), some (.ifCond .ne 10, 3), none, none, some (.aload_n 0, 1), some (.invokevirtual 185, 3), none, none, some (.goto 20, 3), none, none, some (.aload_n 0, 1), some (.lload_n 1, 1), some (.ldc2_w 178, 3), none, none, some (.lcmp, 1), some (.ifCond .ne 7, 3), none, none, some (.iconst 1, 1), some (.goto 4, 3), none, none, some (.iconst 0, 1), some (.invokevirtual 188, 3), none, none, some (.ireturn, 1)]
theorem aX12_basketLine_ok : qm_tabok cX12_basketLine aX12_basketLine = true := by decide +kernel
def mX12_basketLine : qm_M := ((some .boolean), (fun k => qm_lk k pfRX12), (fun k => qm_lk k pcRX12), (fun k => qm_lk k [(188, 0, 2, wX12_rodLine), (152, 0, 1, wX12_token), (185, 0, 1, wX12_openLine), (182, 0, 1, wX12_sizeLine), (140, 0, 1, wX12_fails)]), qm_tab aX12_basketLine)
set_option maxRecDepth 20000 in
set_option maxHeartbeats 2000000 in
theorem rX12_basketLine_110   {xs0 : Int32} {as1 : Nat} {ad0 : Nat} {ld1 : Int64} {h : qm_H} {r : Int32 × qm_H} (ho : qX12_basketLine_110  xs0 as1 h = some r) : qm_Ret mX12_basketLine (110, [some (qm_r 0 12 ad0), some (qm_l ld1), none], [qm_i xs0, qm_r 0 12 as1], h) (qm_Gi r) := by
  unfold qX12_basketLine_110 at ho
  obtain ⟨r2, h1, hr, ho⟩ := qm_b2e ho
  refine qm_Ret.call (X := wX12_rodLine [qm_r 0 12 as1, qm_i xs0] h) (o1 := (some (qm_i r2), h1)) (qm_mp (G := qm_Gi) hr) rfl ?_
  show qm_Ret _ (113, [some (qm_r 0 12 ad0), some (qm_l ld1), none], [qm_i r2], h1) _
  obtain ⟨hz, ho⟩ := qm_if ho
  cases ho
  exact qm_Ret.gr hz rfl
set_option maxRecDepth 20000 in
set_option maxHeartbeats 2000000 in
theorem rX12_basketLine_45   {a0 : Nat} {l1 : Int64} {h : qm_H} {r : Int32 × qm_H} (ho : qX12_basketLine_45  a0 l1 h = some r) : qm_Ret mX12_basketLine (45, [some (qm_r 0 12 a0), some (qm_l l1), none], [], h) (qm_Gi r) := by
  unfold qX12_basketLine_45 at ho
  refine qm_Ret.sts 1 (f' := (46, [some (qm_r 0 12 a0), some (qm_l l1), none], [qm_r 0 12 a0], h)) rfl ?_
  obtain ⟨h1, hr, ho⟩ := qm_bd ho
  refine qm_Ret.call (X := wX12_token [qm_r 0 12 a0] h) (o1 := (none, h1)) (qm_mp (G := qm_Gv) hr) rfl ?_
  show qm_Ret _ (49, [some (qm_r 0 12 a0), some (qm_l l1), none], [], h1) _
  refine qm_Ret.sts 3 (f' := (54, [some (qm_r 0 12 a0), some (qm_l l1), none], [qm_i (lg_cmp l1 (7824756 : Int64))], h1)) rfl ?_
  refine qm_Ret.ne (t := 66) (e := 57) rfl (fun hc => ?_) (fun hc => ?_)
  · rw [if_pos hc] at ho
    refine qm_Ret.sts 5 (f' := (64, [some (qm_r 0 12 a0), some (qm_l l1), none], [], (qm_seti h1 (a0 + 10) (2 : Int32).toNatClampNeg (1 : Int32)))) rfl ?_
    refine qm_Ret.lets (F := fun h6 => (64, [some (qm_r 0 12 a0), some (qm_l l1), none], [], h6)) (G := qm_Gi) ho (fun h6 ho => ?_)
    cases ho
    exact qm_Ret.ret 2 rfl
  · rw [if_neg hc] at ho
    refine qm_Ret.sts 3 (f' := (71, [some (qm_r 0 12 a0), some (qm_l l1), none], [qm_i (lg_cmp l1 (1936292453 : Int64))], h1)) rfl ?_
    refine qm_Ret.ne (t := 81) (e := 74) rfl (fun hc => ?_) (fun hc => ?_)
    · rw [if_pos hc] at ho
      refine qm_Ret.sts 1 (f' := (75, [some (qm_r 0 12 a0), some (qm_l l1), none], [qm_r 0 12 a0], h1)) rfl ?_
      obtain ⟨r5, h4, hr, ho⟩ := qm_b2e ho
      refine qm_Ret.call (X := wX12_sizeLine [qm_r 0 12 a0] h1) (o1 := (some (qm_i r5), h4)) (qm_mp (G := qm_Gi) hr) rfl ?_
      show qm_Ret _ (78, [some (qm_r 0 12 a0), some (qm_l l1), none], [qm_i r5], h4) _
      refine qm_Ret.sts 1 (f' := (113, [some (qm_r 0 12 a0), some (qm_l l1), none], [qm_i r5], h4)) rfl ?_
      obtain ⟨hz, ho⟩ := qm_if ho
      cases ho
      exact qm_Ret.gr hz rfl
    · rw [if_neg hc] at ho
      refine qm_Ret.sts 3 (f' := (86, [some (qm_r 0 12 a0), some (qm_l l1), none], [qm_i (lg_cmp l1 (1869636974 : Int64))], h1)) rfl ?_
      refine qm_Ret.ne (t := 96) (e := 89) rfl (fun hc => ?_) (fun hc => ?_)
      · rw [if_pos hc] at ho
        refine qm_Ret.sts 1 (f' := (90, [some (qm_r 0 12 a0), some (qm_l l1), none], [qm_r 0 12 a0], h1)) rfl ?_
        obtain ⟨r3, h2, hr, ho⟩ := qm_b2e ho
        refine qm_Ret.call (X := wX12_openLine [qm_r 0 12 a0] h1) (o1 := (some (qm_i r3), h2)) (qm_mp (G := qm_Gi) hr) rfl ?_
        show qm_Ret _ (93, [some (qm_r 0 12 a0), some (qm_l l1), none], [qm_i r3], h2) _
        refine qm_Ret.sts 1 (f' := (113, [some (qm_r 0 12 a0), some (qm_l l1), none], [qm_i r3], h2)) rfl ?_
        obtain ⟨hz, ho⟩ := qm_if ho
        cases ho
        exact qm_Ret.gr hz rfl
      · rw [if_neg hc] at ho
        refine qm_Ret.sts 4 (f' := (102, [some (qm_r 0 12 a0), some (qm_l l1), none], [qm_i (lg_cmp l1 (495873780581 : Int64)), qm_r 0 12 a0], h1)) rfl ?_
        refine qm_Ret.ne (t := 109) (e := 105) rfl (fun hc => ?_) (fun hc => ?_)
        · rw [if_pos hc] at ho
          refine qm_Ret.sts 2 (f' := (110, [some (qm_r 0 12 a0), some (qm_l l1), none], [qm_i (1 : Int32), qm_r 0 12 a0], h1)) rfl ?_
          exact rX12_basketLine_110 ho
        · rw [if_neg hc] at ho
          refine qm_Ret.sts 1 (f' := (110, [some (qm_r 0 12 a0), some (qm_l l1), none], [qm_i (0 : Int32), qm_r 0 12 a0], h1)) rfl ?_
          exact rX12_basketLine_110 ho
set_option maxRecDepth 20000 in
set_option maxHeartbeats 2000000 in
theorem rX12_basketLine_0   {a0 : Nat} {l1 : Int64} {h : qm_H} {r : Int32 × qm_H} (ho : qX12_basketLine  a0 l1 h = some r) : qm_Ret mX12_basketLine (0, [some (qm_r 0 12 a0), some (qm_l l1), none], [], h) (qm_Gi r) := by
  unfold qX12_basketLine at ho
  refine qm_Ret.sts 3 (f' := (5, [some (qm_r 0 12 a0), some (qm_l l1), none], [qm_i (lg_cmp l1 (1936292453 : Int64))], h)) rfl ?_
  refine qm_Ret.eq (t := 45) (e := 8) rfl (fun hc => ?_) (fun hc => ?_)
  · rw [if_pos hc] at ho
    exact rX12_basketLine_45 ho
  · rw [if_neg hc] at ho
    refine qm_Ret.sts 3 (f' := (13, [some (qm_r 0 12 a0), some (qm_l l1), none], [qm_i (lg_cmp l1 (1869636974 : Int64))], h)) rfl ?_
    refine qm_Ret.eq (t := 45) (e := 16) rfl (fun hc => ?_) (fun hc => ?_)
    · rw [if_pos hc] at ho
      exact rX12_basketLine_45 ho
    · rw [if_neg hc] at ho
      refine qm_Ret.sts 3 (f' := (21, [some (qm_r 0 12 a0), some (qm_l l1), none], [qm_i (lg_cmp l1 (7499620 : Int64))], h)) rfl ?_
      refine qm_Ret.eq (t := 45) (e := 24) rfl (fun hc => ?_) (fun hc => ?_)
      · rw [if_pos hc] at ho
        exact rX12_basketLine_45 ho
      · rw [if_neg hc] at ho
        refine qm_Ret.sts 3 (f' := (29, [some (qm_r 0 12 a0), some (qm_l l1), none], [qm_i (lg_cmp l1 (495873780581 : Int64))], h)) rfl ?_
        refine qm_Ret.eq (t := 45) (e := 32) rfl (fun hc => ?_) (fun hc => ?_)
        · rw [if_pos hc] at ho
          exact rX12_basketLine_45 ho
        · rw [if_neg hc] at ho
          refine qm_Ret.sts 3 (f' := (37, [some (qm_r 0 12 a0), some (qm_l l1), none], [qm_i (lg_cmp l1 (7824756 : Int64))], h)) rfl ?_
          refine qm_Ret.eq (t := 45) (e := 40) rfl (fun hc => ?_) (fun hc => ?_)
          · rw [if_pos hc] at ho
            exact rX12_basketLine_45 ho
          · rw [if_neg hc] at ho
            refine qm_Ret.sts 1 (f' := (41, [some (qm_r 0 12 a0), some (qm_l l1), none], [qm_r 0 12 a0], h)) rfl ?_
            obtain ⟨r2, h1, hr, ho⟩ := qm_b2e ho
            refine qm_Ret.call (X := wX12_fails [qm_r 0 12 a0] h) (o1 := (some (qm_i r2), h1)) (qm_mp (G := qm_Gi) hr) rfl ?_
            show qm_Ret _ (44, [some (qm_r 0 12 a0), some (qm_l l1), none], [qm_i r2], h1) _
            obtain ⟨hz, ho⟩ := qm_if ho
            cases ho
            exact qm_Ret.gr hz rfl
theorem cX12_basketLine_ok : ∀ q ∈ ([(188, 0, 2, wX12_rodLine), (152, 0, 1, wX12_token), (185, 0, 1, wX12_openLine), (182, 0, 1, wX12_sizeLine), (140, 0, 1, wX12_fails)] : List (Nat × Nat × Nat × qm_C)), qm_CallOK RX12 5 108 q.2.1 q.1 q.2.2.1 q.2.2.2 := List.forall_mem_cons.mpr ⟨Or.inl ⟨yX12_rodLine, cX12_rodLine, 2, (some .boolean), 3, 67, _, sX12_rodLine, ⟨by decide, by decide⟩, ⟨jX12_rodLine, kRX12_188, uRX12⟩, ⟨by decide, by decide, rfl⟩, Or.inl ⟨rfl, rfl, iX12_rodLine, recvX12_rodLine⟩⟩, List.forall_mem_cons.mpr ⟨Or.inl ⟨yX12_token, cX12_token, 3, none, 1, 22, _, sX12_token, ⟨by decide, by decide⟩, ⟨jX12_token, kRX12_152, uRX12⟩, ⟨by decide, by decide, rfl⟩, Or.inl ⟨rfl, rfl, iX12_token, recvX12_token⟩⟩, List.forall_mem_cons.mpr ⟨Or.inl ⟨yX12_openLine, cX12_openLine, 1, (some .boolean), 4, 88, _, sX12_openLine, ⟨by decide, by decide⟩, ⟨jX12_openLine, kRX12_185, uRX12⟩, ⟨by decide, by decide, rfl⟩, Or.inl ⟨rfl, rfl, iX12_openLine, recvX12_openLine⟩⟩, List.forall_mem_cons.mpr ⟨Or.inl ⟨yX12_sizeLine, cX12_sizeLine, 1, (some .boolean), 3, 67, _, sX12_sizeLine, ⟨by decide, by decide⟩, ⟨jX12_sizeLine, kRX12_182, uRX12⟩, ⟨by decide, by decide, rfl⟩, Or.inl ⟨rfl, rfl, iX12_sizeLine, recvX12_sizeLine⟩⟩, List.forall_mem_cons.mpr ⟨Or.inl ⟨yX12_fails, cX12_fails, 1, (some .boolean), 0, 0, _, sX12_fails, ⟨by decide, by decide⟩, ⟨jX12_fails, kRX12_140, uRX12⟩, ⟨by decide, by decide, rfl⟩, Or.inl ⟨rfl, rfl, iX12_fails, recvX12_fails⟩⟩, fun _ h => absurd h List.not_mem_nil⟩⟩⟩⟩⟩
theorem sX12_basketLine : qm_Snd yX12_basketLine cX12_basketLine 3 (some .boolean) 5 108 wX12_basketLine := qm_met (fld := fun k => qm_lk k pfRX12) (con := fun k => qm_lk k pcRX12) (call := fun k => qm_lk k [(188, 0, 2, wX12_rodLine), (152, 0, 1, wX12_token), (185, 0, 1, wX12_openLine), (182, 0, 1, wX12_sizeLine), (140, 0, 1, wX12_fails)]) (tab := qm_tab aX12_basketLine) (plainFor_of_name (by decide)) (qm_fld_ok pfRX12_ok) (qm_con_ok pcRX12_ok) (fun idx kd n f hc => cX12_basketLine_ok (idx, kd, n, f) (qm_lk_mem hc)) (qm_tab_ok aX12_basketLine_ok) (fun vs h o hw => by
  unfold wX12_basketLine at hw
  split at hw
  · obtain ⟨r, hr, rfl⟩ := Option.map_eq_some_iff.mp hw
    exact ⟨Nat.le_of_ble_eq_true rfl, rX12_basketLine_0 (hr)⟩
  · cases hw)
theorem recvX12_basketLine : ∀ vs h o, wX12_basketLine vs h = some o → ∃ ci a rest, vs = qm_r 0 ci a :: rest ∧ qm_R ci = yX12_basketLine.cls := by
  intro vs h o hw
  unfold wX12_basketLine at hw
  split at hw
  · exact ⟨_, _, _, rfl, rfl⟩
  · cases hw
-- RX12 deedBy(J)I
theorem jX12_deedBy : Jvm.Cond.code yX12_deedBy cX12_deedBy 2 (some .int) ∈ qm_all := List.mem_filter.mpr ⟨by decide +kernel, rfl⟩
theorem iX12_deedBy : Jvm.Cond.static yX12_deedBy ∈ qm_all := List.mem_filter.mpr ⟨by decide +kernel, rfl⟩
def wX12_deedBy : qm_C := fun vs h => match vs with
  | [.inr (.inl p0)] => (qX12_deedBy p0 h).map qm_Gi
  | _ => none
def aX12_deedBy : List (Option (Instr × Nat)) := [some (.lload_n 0, 1), some (.ldc2_w 192, 3), none, none, some (.lcmp, 1), some (.ifCond .ne 7, 3), none, none, some (.iconst 0, 1), some (.goto 77, 3), none, none, some (.lload_n 0, 1), some (.ldc2_w 194, 3), none, none, some (.lcmp, 1), some (.ifCond .ne 7, 3), none, none, some (.iconst 1, 1), some (.goto 65, 3), none, none, some (.lload_n 0, 1), some (.ldc2_w 196, 3), none, none, some (.lcmp, 1), some (.ifCond .ne 7, 3), none, none, some (.iconst 2, 1), some (.goto 53, 3), none, none, some (.lload_n 0, 1), some (.ldc2_w 198, 3), none, none, some (.lcmp, 1), some (.ifCond .ne 7, 3), none, none, some (.iconst 3, 1), some (.goto 41, 3), none, none, some (.lload_n 0, 1), some (.ldc2_w 200, 3), none, none, some (.lcmp, 1), some (.ifCond .ne 7, 3), none, none, some (.iconst 4, 1), some (.goto 29, 3), none, none, some (.lload_n 0, 1), some (.ldc2_w 180, 3), none, none, some (.lcmp, 1), some (.ifCond .ne 7, 3), none, none, some (.iconst 5, 1), some (.goto 17, 3), none, none, some (.lload_n 0, 1), some (.ldc2_w 202, 3), none, none, some (.lcmp, 1), some (.ifCond .ne 8, 3), none, none, some (.bipush 6, 2), none, some (.goto 4, 3), none, none, some (.iconst (-1), 1), some (.ireturn, 1)]
theorem aX12_deedBy_ok : qm_tabok cX12_deedBy aX12_deedBy = true := by decide +kernel
def mX12_deedBy : qm_M := ((some .int), (fun k => qm_lk k pfRX12), (fun k => qm_lk k pcRX12), (fun k => qm_lk k []), qm_tab aX12_deedBy)
set_option maxRecDepth 20000 in
set_option maxHeartbeats 2000000 in
theorem rX12_deedBy_0   {l0 : Int64} {h : qm_H} {r : Int32 × qm_H} (ho : qX12_deedBy  l0 h = some r) : qm_Ret mX12_deedBy (0, [some (qm_l l0), none], [], h) (qm_Gi r) := by
  unfold qX12_deedBy at ho
  refine qm_Ret.sts 3 (f' := (5, [some (qm_l l0), none], [qm_i (lg_cmp l0 (1684366692 : Int64))], h)) rfl ?_
  refine qm_Ret.ne (t := 12) (e := 8) rfl (fun hc => ?_) (fun hc => ?_)
  · rw [if_pos hc] at ho
    cases ho
    exact qm_Ret.ret 3 rfl
  · rw [if_neg hc] at ho
    refine qm_Ret.sts 3 (f' := (17, [some (qm_l l0), none], [qm_i (lg_cmp l0 (1835363940 : Int64))], h)) rfl ?_
    refine qm_Ret.ne (t := 24) (e := 20) rfl (fun hc => ?_) (fun hc => ?_)
    · rw [if_pos hc] at ho
      cases ho
      exact qm_Ret.ret 3 rfl
    · rw [if_neg hc] at ho
      refine qm_Ret.sts 3 (f' := (29, [some (qm_l l0), none], [qm_i (lg_cmp l0 (1735552887 : Int64))], h)) rfl ?_
      refine qm_Ret.ne (t := 36) (e := 32) rfl (fun hc => ?_) (fun hc => ?_)
      · rw [if_pos hc] at ho
        cases ho
        exact qm_Ret.ret 3 rfl
      · rw [if_neg hc] at ho
        refine qm_Ret.sts 3 (f' := (41, [some (qm_l l0), none], [qm_i (lg_cmp l0 (512801994341 : Int64))], h)) rfl ?_
        refine qm_Ret.ne (t := 48) (e := 44) rfl (fun hc => ?_) (fun hc => ?_)
        · rw [if_pos hc] at ho
          cases ho
          exact qm_Ret.ret 3 rfl
        · rw [if_neg hc] at ho
          refine qm_Ret.sts 3 (f' := (53, [some (qm_l l0), none], [qm_i (lg_cmp l0 (131294708393330 : Int64))], h)) rfl ?_
          refine qm_Ret.ne (t := 60) (e := 56) rfl (fun hc => ?_) (fun hc => ?_)
          · rw [if_pos hc] at ho
            cases ho
            exact qm_Ret.ret 3 rfl
          · rw [if_neg hc] at ho
            refine qm_Ret.sts 3 (f' := (65, [some (qm_l l0), none], [qm_i (lg_cmp l0 (7824756 : Int64))], h)) rfl ?_
            refine qm_Ret.ne (t := 72) (e := 68) rfl (fun hc => ?_) (fun hc => ?_)
            · rw [if_pos hc] at ho
              cases ho
              exact qm_Ret.ret 3 rfl
            · rw [if_neg hc] at ho
              refine qm_Ret.sts 3 (f' := (77, [some (qm_l l0), none], [qm_i (lg_cmp l0 (6582905 : Int64))], h)) rfl ?_
              refine qm_Ret.ne (t := 85) (e := 80) rfl (fun hc => ?_) (fun hc => ?_)
              · rw [if_pos hc] at ho
                cases ho
                exact qm_Ret.ret 3 rfl
              · rw [if_neg hc] at ho
                cases ho
                exact qm_Ret.ret 2 rfl
theorem cX12_deedBy_ok : ∀ q ∈ ([] : List (Nat × Nat × Nat × qm_C)), qm_CallOK RX12 0 0 q.2.1 q.1 q.2.2.1 q.2.2.2 := fun _ h => absurd h List.not_mem_nil
theorem sX12_deedBy : qm_Snd yX12_deedBy cX12_deedBy 2 (some .int) 0 0 wX12_deedBy := qm_met (fld := fun k => qm_lk k pfRX12) (con := fun k => qm_lk k pcRX12) (call := fun k => qm_lk k []) (tab := qm_tab aX12_deedBy) (plainFor_of_name (by decide)) (qm_fld_ok pfRX12_ok) (qm_con_ok pcRX12_ok) (fun idx kd n f hc => cX12_deedBy_ok (idx, kd, n, f) (qm_lk_mem hc)) (qm_tab_ok aX12_deedBy_ok) (fun vs h o hw => by
  unfold wX12_deedBy at hw
  split at hw
  · obtain ⟨r, hr, rfl⟩ := Option.map_eq_some_iff.mp hw
    exact ⟨Nat.le_of_ble_eq_true rfl, rX12_deedBy_0 (hr)⟩
  · cases hw)
-- RX12 takeSide()Z
theorem jX12_takeSide : Jvm.Cond.code yX12_takeSide cX12_takeSide 1 (some .boolean) ∈ qm_all := List.mem_filter.mpr ⟨by decide +kernel, rfl⟩
theorem iX12_takeSide : Jvm.Cond.instanceMethod yX12_takeSide ∈ qm_all ∧ Jvm.Cond.selects yX12_takeSide.cls yX12_takeSide yX12_takeSide ∈ qm_all := ⟨List.mem_filter.mpr ⟨by decide +kernel, rfl⟩, List.mem_filter.mpr ⟨by decide +kernel, rfl⟩⟩
def wX12_takeSide : qm_C := fun vs h => match vs with
  | [.inr (.inr (some (0, 12, p0)))] => (qX12_takeSide p0 h).map qm_Gi
  | _ => none
def aX12_takeSide : List (Option (Instr × Nat)) := [some (.aload_n 0, 1), some (.getfield 125, 3), none, none, some (.iconst 2, 1), some (.if_icmp .ne 25, 3), none, none, some (.aload_n 0, 1), some (.getfield 121, 3), none, none, some (.ldc2_w 176, 3), none, none, some (.lcmp, 1), some (.ifCond .eq 19, 3), none, none, some (.aload_n 0, 1), some (.getfield 121, 3), none, none, some (.ldc2_w 178, 3), none, none, some (.lcmp, 1), some (.ifCond .eq 8, 3), none, none, some (.aload_n 0, 1), some (.invokevirtual 140, 3), none, none, some (.ireturn, 1), some (.aload_n 0, 1), some (.getfield 41, 3), none, none, some (.iconst 1, 1), some (.aload_n 0, 1), some (.getfield 121, 3), none, none, some (.ldc2_w 178, 3), none, none, some (.lcmp, 1), some (.ifCond .ne 7, 3), none, none, some (.iconst 1, 1), some (.goto 4, 3), none, none, some (.iconst 0, 1), some (.iastore, 1), some (.aload_n 0, 1), some (.invokevirtual 152, 3), none, none, some (.aload_n 0, 1), some (.iconst 2, 1), some (.iconst 0, 1), some (.bipush 7, 2), none, some (.invokevirtual 155, 3), none, none, some (.ireturn, 1)]
theorem aX12_takeSide_ok : qm_tabok cX12_takeSide aX12_takeSide = true := by decide +kernel
def mX12_takeSide : qm_M := ((some .boolean), (fun k => qm_lk k pfRX12), (fun k => qm_lk k pcRX12), (fun k => qm_lk k [(140, 0, 1, wX12_fails), (152, 0, 1, wX12_token), (155, 0, 4, wX12_take)]), qm_tab aX12_takeSide)
set_option maxRecDepth 20000 in
set_option maxHeartbeats 2000000 in
theorem rX12_takeSide_30   {a0 : Nat} {h : qm_H} {r : Int32 × qm_H} (ho : qX12_takeSide_30  a0 h = some r) : qm_Ret mX12_takeSide (30, [some (qm_r 0 12 a0)], [], h) (qm_Gi r) := by
  unfold qX12_takeSide_30 at ho
  refine qm_Ret.sts 1 (f' := (31, [some (qm_r 0 12 a0)], [qm_r 0 12 a0], h)) rfl ?_
  obtain ⟨r2, h1, hr, ho⟩ := qm_b2e ho
  refine qm_Ret.call (X := wX12_fails [qm_r 0 12 a0] h) (o1 := (some (qm_i r2), h1)) (qm_mp (G := qm_Gi) hr) rfl ?_
  show qm_Ret _ (34, [some (qm_r 0 12 a0)], [qm_i r2], h1) _
  obtain ⟨hz, ho⟩ := qm_if ho
  cases ho
  exact qm_Ret.gr hz rfl
set_option maxRecDepth 20000 in
set_option maxHeartbeats 2000000 in
theorem rX12_takeSide_56   {a0 : Nat} {xs0 : Int32} {xs1 : Int32} {as2 : Nat} {h : qm_H} {r : Int32 × qm_H} (ho : qX12_takeSide_56  a0 xs0 xs1 as2 h = some r) : qm_Ret mX12_takeSide (56, [some (qm_r 0 12 a0)], [qm_i xs0, qm_i xs1, qm_r 1 4 as2], h) (qm_Gi r) := by
  unfold qX12_takeSide_56 at ho
  obtain ⟨hg, ho⟩ := qm_ifn ho
  refine qm_Ret.gn (f1 := (57, [some (qm_r 0 12 a0)], [], (qm_seti h as2 (xs1).toNatClampNeg xs0))) hg rfl ?_
  refine qm_Ret.lets (F := fun h1 => (57, [some (qm_r 0 12 a0)], [], h1)) (G := qm_Gi) ho (fun h1 ho => ?_)
  refine qm_Ret.sts 1 (f' := (58, [some (qm_r 0 12 a0)], [qm_r 0 12 a0], h1)) rfl ?_
  obtain ⟨h2, hr, ho⟩ := qm_bd ho
  refine qm_Ret.call (X := wX12_token [qm_r 0 12 a0] h1) (o1 := (none, h2)) (qm_mp (G := qm_Gv) hr) rfl ?_
  show qm_Ret _ (61, [some (qm_r 0 12 a0)], [], h2) _
  refine qm_Ret.sts 4 (f' := (66, [some (qm_r 0 12 a0)], [qm_i (7 : Int32), qm_i (0 : Int32), qm_i (2 : Int32), qm_r 0 12 a0], h2)) rfl ?_
  obtain ⟨r4, h3, hr, ho⟩ := qm_b2e ho
  refine qm_Ret.call (X := wX12_take [qm_r 0 12 a0, qm_i (2 : Int32), qm_i (0 : Int32), qm_i (7 : Int32)] h2) (o1 := (some (qm_i r4), h3)) (qm_mp (G := qm_Gi) hr) rfl ?_
  show qm_Ret _ (69, [some (qm_r 0 12 a0)], [qm_i r4], h3) _
  obtain ⟨hz, ho⟩ := qm_if ho
  cases ho
  exact qm_Ret.gr hz rfl
set_option maxRecDepth 20000 in
set_option maxHeartbeats 2000000 in
theorem rX12_takeSide_0   {a0 : Nat} {h : qm_H} {r : Int32 × qm_H} (ho : qX12_takeSide  a0 h = some r) : qm_Ret mX12_takeSide (0, [some (qm_r 0 12 a0)], [], h) (qm_Gi r) := by
  unfold qX12_takeSide at ho
  refine qm_Ret.sts 3 (f' := (5, [some (qm_r 0 12 a0)], [qm_i (2 : Int32), qm_i (h.1 a0 13)], h)) rfl ?_
  refine qm_Ret.ne (t := 30) (e := 8) rfl (fun hc => ?_) (fun hc => ?_)
  · rw [if_pos hc] at ho
    refine qm_Ret.sts 4 (f' := (16, [some (qm_r 0 12 a0)], [qm_i (lg_cmp (h.2 a0 15) (7499620 : Int64))], h)) rfl ?_
    refine qm_Ret.eq (t := 35) (e := 19) rfl (fun hc => ?_) (fun hc => ?_)
    · rw [if_pos hc] at ho
      refine qm_Ret.sts 7 (f' := (48, [some (qm_r 0 12 a0)], [qm_i (lg_cmp (h.2 a0 15) (495873780581 : Int64)), qm_i (1 : Int32), qm_r 1 4 (a0 + 11)], h)) rfl ?_
      refine qm_Ret.ne (t := 55) (e := 51) rfl (fun hc => ?_) (fun hc => ?_)
      · rw [if_pos hc] at ho
        refine qm_Ret.sts 2 (f' := (56, [some (qm_r 0 12 a0)], [qm_i (1 : Int32), qm_i (1 : Int32), qm_r 1 4 (a0 + 11)], h)) rfl ?_
        exact rX12_takeSide_56 ho
      · rw [if_neg hc] at ho
        refine qm_Ret.sts 1 (f' := (56, [some (qm_r 0 12 a0)], [qm_i (0 : Int32), qm_i (1 : Int32), qm_r 1 4 (a0 + 11)], h)) rfl ?_
        exact rX12_takeSide_56 ho
    · rw [if_neg hc] at ho
      refine qm_Ret.sts 4 (f' := (27, [some (qm_r 0 12 a0)], [qm_i (lg_cmp (h.2 a0 15) (495873780581 : Int64))], h)) rfl ?_
      refine qm_Ret.eq (t := 35) (e := 30) rfl (fun hc => ?_) (fun hc => ?_)
      · rw [if_pos hc] at ho
        refine qm_Ret.sts 7 (f' := (48, [some (qm_r 0 12 a0)], [qm_i (lg_cmp (h.2 a0 15) (495873780581 : Int64)), qm_i (1 : Int32), qm_r 1 4 (a0 + 11)], h)) rfl ?_
        refine qm_Ret.ne (t := 55) (e := 51) rfl (fun hc => ?_) (fun hc => ?_)
        · rw [if_pos hc] at ho
          refine qm_Ret.sts 2 (f' := (56, [some (qm_r 0 12 a0)], [qm_i (1 : Int32), qm_i (1 : Int32), qm_r 1 4 (a0 + 11)], h)) rfl ?_
          exact rX12_takeSide_56 ho
        · rw [if_neg hc] at ho
          refine qm_Ret.sts 1 (f' := (56, [some (qm_r 0 12 a0)], [qm_i (0 : Int32), qm_i (1 : Int32), qm_r 1 4 (a0 + 11)], h)) rfl ?_
          exact rX12_takeSide_56 ho
      · rw [if_neg hc] at ho
        exact rX12_takeSide_30 ho
  · rw [if_neg hc] at ho
    exact rX12_takeSide_30 ho
theorem cX12_takeSide_ok : ∀ q ∈ ([(140, 0, 1, wX12_fails), (152, 0, 1, wX12_token), (155, 0, 4, wX12_take)] : List (Nat × Nat × Nat × qm_C)), qm_CallOK RX12 3 67 q.2.1 q.1 q.2.2.1 q.2.2.2 := List.forall_mem_cons.mpr ⟨Or.inl ⟨yX12_fails, cX12_fails, 1, (some .boolean), 0, 0, _, sX12_fails, ⟨by decide, by decide⟩, ⟨jX12_fails, kRX12_140, uRX12⟩, ⟨by decide, by decide, rfl⟩, Or.inl ⟨rfl, rfl, iX12_fails, recvX12_fails⟩⟩, List.forall_mem_cons.mpr ⟨Or.inl ⟨yX12_token, cX12_token, 3, none, 1, 22, _, sX12_token, ⟨by decide, by decide⟩, ⟨jX12_token, kRX12_152, uRX12⟩, ⟨by decide, by decide, rfl⟩, Or.inl ⟨rfl, rfl, iX12_token, recvX12_token⟩⟩, List.forall_mem_cons.mpr ⟨Or.inl ⟨yX12_take, cX12_take, 4, (some .boolean), 2, 44, _, sX12_take, ⟨by decide, by decide⟩, ⟨jX12_take, kRX12_155, uRX12⟩, ⟨by decide, by decide, rfl⟩, Or.inl ⟨rfl, rfl, iX12_take, recvX12_take⟩⟩, fun _ h => absurd h List.not_mem_nil⟩⟩⟩
theorem sX12_takeSide : qm_Snd yX12_takeSide cX12_takeSide 1 (some .boolean) 3 67 wX12_takeSide := qm_met (fld := fun k => qm_lk k pfRX12) (con := fun k => qm_lk k pcRX12) (call := fun k => qm_lk k [(140, 0, 1, wX12_fails), (152, 0, 1, wX12_token), (155, 0, 4, wX12_take)]) (tab := qm_tab aX12_takeSide) (plainFor_of_name (by decide)) (qm_fld_ok pfRX12_ok) (qm_con_ok pcRX12_ok) (fun idx kd n f hc => cX12_takeSide_ok (idx, kd, n, f) (qm_lk_mem hc)) (qm_tab_ok aX12_takeSide_ok) (fun vs h o hw => by
  unfold wX12_takeSide at hw
  split at hw
  · obtain ⟨r, hr, rfl⟩ := Option.map_eq_some_iff.mp hw
    exact ⟨Nat.le_of_ble_eq_true rfl, rX12_takeSide_0 (hr)⟩
  · cases hw)
theorem recvX12_takeSide : ∀ vs h o, wX12_takeSide vs h = some o → ∃ ci a rest, vs = qm_r 0 ci a :: rest ∧ qm_R ci = yX12_takeSide.cls := by
  intro vs h o hw
  unfold wX12_takeSide at hw
  split at hw
  · exact ⟨_, _, _, rfl, rfl⟩
  · cases hw
-- RX12 keep(IIII)V
theorem jX12_keep : Jvm.Cond.code yX12_keep cX12_keep 7 none ∈ qm_all := List.mem_filter.mpr ⟨by decide +kernel, rfl⟩
theorem iX12_keep : Jvm.Cond.instanceMethod yX12_keep ∈ qm_all ∧ Jvm.Cond.selects yX12_keep.cls yX12_keep yX12_keep ∈ qm_all := ⟨List.mem_filter.mpr ⟨by decide +kernel, rfl⟩, List.mem_filter.mpr ⟨by decide +kernel, rfl⟩⟩
def wX12_keep : qm_C := fun vs h => match vs with
  | [.inr (.inr (some (0, 12, p0))), .inl p1, .inl p2, .inl p3, .inl p4] => (qX12_keep p0 p1 p2 p3 p4 h).map qm_Gv
  | _ => none
def aX12_keep : List (Option (Instr × Nat)) := [some (.aload_n 0, 1), some (.getfield 38, 3), none, none, some (.iload_n 1, 1), some (.iaload, 1), some (.istore 5, 2), none, some (.iload 5, 2), none, some (.iload 4, 2), none, some (.if_icmp .ne 4, 3), none, none, some (.return_, 1), some (.iconst 0, 1), some (.istore 6, 2), none, some (.iload 6, 2), none, some (.iload_n 3, 1), some (.if_icmp .ge 30, 3), none, none, some (.aload_n 0, 1), some (.getfield 38, 3), none, none, some (.iload_n 2, 1), some (.iload_n 3, 1), some (.iload 5, 2), none, some (.imul, 1), some (.iadd, 1), some (.iload 6, 2), none, some (.iadd, 1), some (.aload_n 0, 1), some (.getfield 41, 3), none, none, some (.iload 6, 2), none, some (.iaload, 1), some (.iastore, 1), some (.iinc 6 1, 3), none, none, some (.goto (-30), 3), none, none, some (.aload_n 0, 1), some (.getfield 38, 3), none, none, some (.iload_n 1, 1), some (.dup2, 1), some (.iaload, 1), some (.iconst 1, 1), some (.iadd, 1), some (.iastore, 1), some (.return_, 1)]
theorem aX12_keep_ok : qm_tabok cX12_keep aX12_keep = true := by decide +kernel
def mX12_keep : qm_M := (none, (fun k => qm_lk k pfRX12), (fun k => qm_lk k pcRX12), (fun k => qm_lk k []), qm_tab aX12_keep)
set_option maxRecDepth 20000 in
set_option maxHeartbeats 2000000 in
theorem rX12_keep_19   : ∀ {fuel : Nat} {a0 : Nat} {x1 : Int32} {x2 : Int32} {x3 : Int32} {x5 : Int32} {x6 : Int32} {xd4 : Int32} {h : qm_H} {r : qm_H}, qX12_keep_19  fuel a0 x1 x2 x3 x5 x6 h = some r → qm_Ret mX12_keep (19, [some (qm_r 0 12 a0), some (qm_i x1), some (qm_i x2), some (qm_i x3), some (qm_i xd4), some (qm_i x5), some (qm_i x6)], [], h) (qm_Gv r) := by
  intro fuel
  induction fuel with
  | zero => intros; rename_i ho; cases ho
  | succ n ih =>
    intro a0 x1 x2 x3 x5 x6 xd4 h r ho
    unfold qX12_keep_19 at ho
    refine qm_Ret.sts 2 (f' := (22, [some (qm_r 0 12 a0), some (qm_i x1), some (qm_i x2), some (qm_i x3), some (qm_i xd4), some (qm_i x5), some (qm_i x6)], [qm_i x3, qm_i x6], h)) rfl ?_
    refine qm_Ret.ge (t := 52) (e := 25) rfl (fun hc => ?_) (fun hc => ?_)
    · rw [if_pos hc] at ho
      refine qm_Ret.sts 12 (f' := (44, [some (qm_r 0 12 a0), some (qm_i x1), some (qm_i x2), some (qm_i x3), some (qm_i xd4), some (qm_i x5), some (qm_i x6)], [qm_i x6, qm_r 1 4 (a0 + 11), qm_i ((x2 + (x3 * x5)) + x6), qm_r 1 161 (a0 + 10)], h)) rfl ?_
      obtain ⟨hg, ho⟩ := qm_ifn ho
      refine qm_Ret.gn (f1 := (45, [some (qm_r 0 12 a0), some (qm_i x1), some (qm_i x2), some (qm_i x3), some (qm_i xd4), some (qm_i x5), some (qm_i x6)], [qm_i (h.1 (a0 + 11) (x6).toNatClampNeg), qm_i ((x2 + (x3 * x5)) + x6), qm_r 1 161 (a0 + 10)], h)) hg rfl ?_
      obtain ⟨hg, ho⟩ := qm_ifn ho
      refine qm_Ret.gn (f1 := (46, [some (qm_r 0 12 a0), some (qm_i x1), some (qm_i x2), some (qm_i x3), some (qm_i xd4), some (qm_i x5), some (qm_i x6)], [], (qm_seti h (a0 + 10) ((x2 + (x3 * x5)) + x6).toNatClampNeg (h.1 (a0 + 11) (x6).toNatClampNeg)))) hg rfl ?_
      refine qm_Ret.lets (F := fun h2 => (46, [some (qm_r 0 12 a0), some (qm_i x1), some (qm_i x2), some (qm_i x3), some (qm_i xd4), some (qm_i x5), some (qm_i x6)], [], h2)) (G := qm_Gv) ho (fun h2 ho => ?_)
      refine qm_Ret.sts 2 (f' := (19, [some (qm_r 0 12 a0), some (qm_i x1), some (qm_i x2), some (qm_i x3), some (qm_i xd4), some (qm_i x5), some (qm_i (x6 + (1 : Int32)))], [], h2)) rfl ?_
      exact ih ho
    · rw [if_neg hc] at ho
      refine qm_Ret.sts 4 (f' := (58, [some (qm_r 0 12 a0), some (qm_i x1), some (qm_i x2), some (qm_i x3), some (qm_i xd4), some (qm_i x5), some (qm_i x6)], [qm_i x1, qm_r 1 161 (a0 + 10), qm_i x1, qm_r 1 161 (a0 + 10)], h)) rfl ?_
      obtain ⟨hg, ho⟩ := qm_ifn ho
      refine qm_Ret.gn (f1 := (59, [some (qm_r 0 12 a0), some (qm_i x1), some (qm_i x2), some (qm_i x3), some (qm_i xd4), some (qm_i x5), some (qm_i x6)], [qm_i (h.1 (a0 + 10) (x1).toNatClampNeg), qm_i x1, qm_r 1 161 (a0 + 10)], h)) hg rfl ?_
      refine qm_Ret.sts 2 (f' := (61, [some (qm_r 0 12 a0), some (qm_i x1), some (qm_i x2), some (qm_i x3), some (qm_i xd4), some (qm_i x5), some (qm_i x6)], [qm_i ((h.1 (a0 + 10) (x1).toNatClampNeg) + (1 : Int32)), qm_i x1, qm_r 1 161 (a0 + 10)], h)) rfl ?_
      obtain ⟨hg, ho⟩ := qm_ifn ho
      refine qm_Ret.gn (f1 := (62, [some (qm_r 0 12 a0), some (qm_i x1), some (qm_i x2), some (qm_i x3), some (qm_i xd4), some (qm_i x5), some (qm_i x6)], [], (qm_seti h (a0 + 10) (x1).toNatClampNeg ((h.1 (a0 + 10) (x1).toNatClampNeg) + (1 : Int32))))) hg rfl ?_
      refine qm_Ret.lets (F := fun h1 => (62, [some (qm_r 0 12 a0), some (qm_i x1), some (qm_i x2), some (qm_i x3), some (qm_i xd4), some (qm_i x5), some (qm_i x6)], [], h1)) (G := qm_Gv) ho (fun h1 ho => ?_)
      cases ho
      exact qm_Ret.ret 1 rfl
set_option maxRecDepth 20000 in
set_option maxHeartbeats 2000000 in
theorem rX12_keep_0   {a0 : Nat} {x1 : Int32} {x2 : Int32} {x3 : Int32} {x4 : Int32} {h : qm_H} {r : qm_H} (ho : qX12_keep  a0 x1 x2 x3 x4 h = some r) : qm_Ret mX12_keep (0, [some (qm_r 0 12 a0), some (qm_i x1), some (qm_i x2), some (qm_i x3), some (qm_i x4), none, none], [], h) (qm_Gv r) := by
  unfold qX12_keep at ho
  refine qm_Ret.sts 3 (f' := (5, [some (qm_r 0 12 a0), some (qm_i x1), some (qm_i x2), some (qm_i x3), some (qm_i x4), none, none], [qm_i x1, qm_r 1 161 (a0 + 10)], h)) rfl ?_
  obtain ⟨hg, ho⟩ := qm_ifn ho
  refine qm_Ret.gn (f1 := (6, [some (qm_r 0 12 a0), some (qm_i x1), some (qm_i x2), some (qm_i x3), some (qm_i x4), none, none], [qm_i (h.1 (a0 + 10) (x1).toNatClampNeg)], h)) hg rfl ?_
  refine qm_Ret.lets (F := fun v1 => (6, [some (qm_r 0 12 a0), some (qm_i x1), some (qm_i x2), some (qm_i x3), some (qm_i x4), none, none], [qm_i v1], h)) (G := qm_Gv) ho (fun v1 ho => ?_)
  refine qm_Ret.sts 3 (f' := (12, [some (qm_r 0 12 a0), some (qm_i x1), some (qm_i x2), some (qm_i x3), some (qm_i x4), some (qm_i v1), none], [qm_i x4, qm_i v1], h)) rfl ?_
  refine qm_Ret.ne (t := 16) (e := 15) rfl (fun hc => ?_) (fun hc => ?_)
  · rw [if_pos hc] at ho
    cases ho
    exact qm_Ret.ret 1 rfl
  · rw [if_neg hc] at ho
    refine qm_Ret.sts 2 (f' := (19, [some (qm_r 0 12 a0), some (qm_i x1), some (qm_i x2), some (qm_i x3), some (qm_i x4), some (qm_i v1), some (qm_i (0 : Int32))], [], h)) rfl ?_
    exact rX12_keep_19 ho
theorem cX12_keep_ok : ∀ q ∈ ([] : List (Nat × Nat × Nat × qm_C)), qm_CallOK RX12 0 0 q.2.1 q.1 q.2.2.1 q.2.2.2 := fun _ h => absurd h List.not_mem_nil
theorem sX12_keep : qm_Snd yX12_keep cX12_keep 7 none 0 0 wX12_keep := qm_met (fld := fun k => qm_lk k pfRX12) (con := fun k => qm_lk k pcRX12) (call := fun k => qm_lk k []) (tab := qm_tab aX12_keep) (plainFor_of_name (by decide)) (qm_fld_ok pfRX12_ok) (qm_con_ok pcRX12_ok) (fun idx kd n f hc => cX12_keep_ok (idx, kd, n, f) (qm_lk_mem hc)) (qm_tab_ok aX12_keep_ok) (fun vs h o hw => by
  unfold wX12_keep at hw
  split at hw
  · obtain ⟨r, hr, rfl⟩ := Option.map_eq_some_iff.mp hw
    exact ⟨Nat.le_of_ble_eq_true rfl, rX12_keep_0 (hr)⟩
  · cases hw)
theorem recvX12_keep : ∀ vs h o, wX12_keep vs h = some o → ∃ ci a rest, vs = qm_r 0 ci a :: rest ∧ qm_R ci = yX12_keep.cls := by
  intro vs h o hw
  unfold wX12_keep at hw
  split at hw
  · exact ⟨_, _, _, rfl, rfl⟩
  · cases hw
