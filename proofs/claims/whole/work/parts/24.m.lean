-- RX12 copyRow([IIII)V
theorem jX12_copyRow : Jvm.Cond.code yX12_copyRow cX12_copyRow 5 none ∈ qm_all := List.mem_filter.mpr ⟨by decide +kernel, rfl⟩
theorem iX12_copyRow : Jvm.Cond.static yX12_copyRow ∈ qm_all := List.mem_filter.mpr ⟨by decide +kernel, rfl⟩
def wX12_copyRow : qm_C := fun vs h => match vs with
  | [.inr (.inr (some (1, p0n, p0))), .inl p1, .inl p2, .inl p3] => (qX12_copyRow p0n p0 p1 p2 p3 h).map qm_Gv
  | _ => none
def aX12_copyRow : List (Option (Instr × Nat)) := [some (.iconst 0, 1), some (.istore 4, 2), none, some (.iload 4, 2), none, some (.iload_n 1, 1), some (.if_icmp .ge 25, 3), none, none, some (.aload_n 0, 1), some (.iload_n 1, 1), some (.iload_n 3, 1), some (.imul, 1), some (.iload 4, 2), none, some (.iadd, 1), some (.aload_n 0, 1), some (.iload_n 1, 1), some (.iload_n 2, 1), some (.imul, 1), some (.iload 4, 2), none, some (.iadd, 1), some (.iaload, 1), some (.iastore, 1), some (.iinc 4 1, 3), none, none, some (.goto (-25), 3), none, none, some (.return_, 1)]
theorem aX12_copyRow_ok : qm_tabok cX12_copyRow aX12_copyRow = true := by decide +kernel
def mX12_copyRow : qm_M := (none, (fun k => qm_lk k pfRX12), (fun k => qm_lk k pcRX12), (fun k => qm_lk k []), qm_tab aX12_copyRow)
set_option maxRecDepth 20000 in
set_option maxHeartbeats 2000000 in
theorem rX12_copyRow_3   : ∀ {fuel : Nat} {n0 : Nat} {a0 : Nat} {x1 : Int32} {x2 : Int32} {x3 : Int32} {x4 : Int32} {h : qm_H} {r : qm_H}, qX12_copyRow_3  fuel n0 a0 x1 x2 x3 x4 h = some r → qm_Ret mX12_copyRow (3, [some (qm_r 1 n0 a0), some (qm_i x1), some (qm_i x2), some (qm_i x3), some (qm_i x4)], [], h) (qm_Gv r) := by
  intro fuel
  induction fuel with
  | zero => intros; rename_i ho; cases ho
  | succ n ih =>
    intro n0 a0 x1 x2 x3 x4 h r ho
    unfold qX12_copyRow_3 at ho
    refine qm_Ret.sts 2 (f' := (6, [some (qm_r 1 n0 a0), some (qm_i x1), some (qm_i x2), some (qm_i x3), some (qm_i x4)], [qm_i x1, qm_i x4], h)) rfl ?_
    refine qm_Ret.ge (t := 31) (e := 9) rfl (fun hc => ?_) (fun hc => ?_)
    · rw [if_pos hc] at ho
      refine qm_Ret.sts 12 (f' := (23, [some (qm_r 1 n0 a0), some (qm_i x1), some (qm_i x2), some (qm_i x3), some (qm_i x4)], [qm_i ((x1 * x2) + x4), qm_r 1 n0 a0, qm_i ((x1 * x3) + x4), qm_r 1 n0 a0], h)) rfl ?_
      obtain ⟨hg, ho⟩ := qm_ifn ho
      refine qm_Ret.gn (f1 := (24, [some (qm_r 1 n0 a0), some (qm_i x1), some (qm_i x2), some (qm_i x3), some (qm_i x4)], [qm_i (h.1 a0 ((x1 * x2) + x4).toNatClampNeg), qm_i ((x1 * x3) + x4), qm_r 1 n0 a0], h)) hg rfl ?_
      obtain ⟨hg, ho⟩ := qm_ifn ho
      refine qm_Ret.gn (f1 := (25, [some (qm_r 1 n0 a0), some (qm_i x1), some (qm_i x2), some (qm_i x3), some (qm_i x4)], [], (qm_seti h a0 ((x1 * x3) + x4).toNatClampNeg (h.1 a0 ((x1 * x2) + x4).toNatClampNeg)))) hg rfl ?_
      refine qm_Ret.lets (F := fun h1 => (25, [some (qm_r 1 n0 a0), some (qm_i x1), some (qm_i x2), some (qm_i x3), some (qm_i x4)], [], h1)) (G := qm_Gv) ho (fun h1 ho => ?_)
      refine qm_Ret.sts 2 (f' := (3, [some (qm_r 1 n0 a0), some (qm_i x1), some (qm_i x2), some (qm_i x3), some (qm_i (x4 + (1 : Int32)))], [], h1)) rfl ?_
      exact ih ho
    · rw [if_neg hc] at ho
      cases ho
      exact qm_Ret.ret 1 rfl
set_option maxRecDepth 20000 in
set_option maxHeartbeats 2000000 in
theorem rX12_copyRow_0   {n0 : Nat} {a0 : Nat} {x1 : Int32} {x2 : Int32} {x3 : Int32} {h : qm_H} {r : qm_H} (ho : qX12_copyRow  n0 a0 x1 x2 x3 h = some r) : qm_Ret mX12_copyRow (0, [some (qm_r 1 n0 a0), some (qm_i x1), some (qm_i x2), some (qm_i x3), none], [], h) (qm_Gv r) := by
  unfold qX12_copyRow at ho
  refine qm_Ret.sts 2 (f' := (3, [some (qm_r 1 n0 a0), some (qm_i x1), some (qm_i x2), some (qm_i x3), some (qm_i (0 : Int32))], [], h)) rfl ?_
  exact rX12_copyRow_3 ho
theorem cX12_copyRow_ok : ∀ q ∈ ([] : List (Nat × Nat × Nat × qm_C)), qm_CallOK RX12 0 0 q.2.1 q.1 q.2.2.1 q.2.2.2 := fun _ h => absurd h List.not_mem_nil
theorem sX12_copyRow : qm_Snd yX12_copyRow cX12_copyRow 5 none 0 0 wX12_copyRow := qm_met (fld := fun k => qm_lk k pfRX12) (con := fun k => qm_lk k pcRX12) (call := fun k => qm_lk k []) (tab := qm_tab aX12_copyRow) (plainFor_of_name (by decide)) (qm_fld_ok pfRX12_ok) (qm_con_ok pcRX12_ok) (fun idx kd n f hc => cX12_copyRow_ok (idx, kd, n, f) (qm_lk_mem hc)) (qm_tab_ok aX12_copyRow_ok) (fun vs h o hw => by
  unfold wX12_copyRow at hw
  split at hw
  · obtain ⟨r, hr, rfl⟩ := Option.map_eq_some_iff.mp hw
    exact ⟨Nat.le_of_ble_eq_true rfl, rX12_copyRow_0 (hr)⟩
  · cases hw)
-- RX12 copyAll(II)V
theorem jX12_copyAll : Jvm.Cond.code yX12_copyAll cX12_copyAll 4 none ∈ qm_all := List.mem_filter.mpr ⟨by decide +kernel, rfl⟩
theorem iX12_copyAll : Jvm.Cond.instanceMethod yX12_copyAll ∈ qm_all ∧ Jvm.Cond.selects yX12_copyAll.cls yX12_copyAll yX12_copyAll ∈ qm_all := ⟨List.mem_filter.mpr ⟨by decide +kernel, rfl⟩, List.mem_filter.mpr ⟨by decide +kernel, rfl⟩⟩
def wX12_copyAll : qm_C := fun vs h => match vs with
  | [.inr (.inr (some (0, 12, p0))), .inl p1, .inl p2] => (qX12_copyAll p0 p1 p2 h).map qm_Gv
  | _ => none
def aX12_copyAll : List (Option (Instr × Nat)) := [some (.iconst 0, 1), some (.istore_n 3, 1), some (.iload_n 3, 1), some (.sipush 600, 3), none, none, some (.if_icmp .ge 33, 3), none, none, some (.aload_n 0, 1), some (.getfield 7, 3), none, none, some (.sipush 600, 3), none, none, some (.iload_n 2, 1), some (.imul, 1), some (.iload_n 3, 1), some (.iadd, 1), some (.aload_n 0, 1), some (.getfield 7, 3), none, none, some (.sipush 600, 3), none, none, some (.iload_n 1, 1), some (.imul, 1), some (.iload_n 3, 1), some (.iadd, 1), some (.baload, 1), some (.bastore, 1), some (.iinc 3 1, 3), none, none, some (.goto (-34), 3), none, none, some (.aload_n 0, 1), some (.getfield 13, 3), none, none, some (.iconst 1, 1), some (.iload_n 1, 1), some (.iload_n 2, 1), some (.invokestatic 96, 3), none, none, some (.aload_n 0, 1), some (.getfield 17, 3), none, none, some (.iconst 1, 1), some (.iload_n 1, 1), some (.iload_n 2, 1), some (.invokestatic 96, 3), none, none, some (.aload_n 0, 1), some (.getfield 20, 3), none, none, some (.iconst 1, 1), some (.iload_n 1, 1), some (.iload_n 2, 1), some (.invokestatic 96, 3), none, none, some (.aload_n 0, 1), some (.getfield 23, 3), none, none, some (.iconst 4, 1), some (.iload_n 1, 1), some (.iload_n 2, 1), some (.invokestatic 96, 3), none, none, some (.aload_n 0, 1), some (.getfield 26, 3), none, none, some (.bipush 86, 2), none, some (.iload_n 1, 1), some (.iload_n 2, 1), some (.invokestatic 96, 3), none, none, some (.aload_n 0, 1), some (.getfield 29, 3), none, none, some (.sipush 322, 3), none, none, some (.iload_n 1, 1), some (.iload_n 2, 1), some (.invokestatic 96, 3), none, none, some (.aload_n 0, 1), some (.getfield 32, 3), none, none, some (.bipush 34, 2), none, some (.iload_n 1, 1), some (.iload_n 2, 1), some (.invokestatic 96, 3), none, none, some (.aload_n 0, 1), some (.getfield 35, 3), none, none, some (.bipush 66, 2), none, some (.iload_n 1, 1), some (.iload_n 2, 1), some (.invokestatic 96, 3), none, none, some (.return_, 1)]
theorem aX12_copyAll_ok : qm_tabok cX12_copyAll aX12_copyAll = true := by decide +kernel
def mX12_copyAll : qm_M := (none, (fun k => qm_lk k pfRX12), (fun k => qm_lk k pcRX12), (fun k => qm_lk k [(96, 2, 4, wX12_copyRow)]), qm_tab aX12_copyAll)
set_option maxRecDepth 20000 in
set_option maxHeartbeats 2000000 in
theorem rX12_copyAll_2   : ∀ {fuel : Nat} {a0 : Nat} {x1 : Int32} {x2 : Int32} {x3 : Int32} {h : qm_H} {r : qm_H}, qX12_copyAll_2  fuel a0 x1 x2 x3 h = some r → qm_Ret mX12_copyAll (2, [some (qm_r 0 12 a0), some (qm_i x1), some (qm_i x2), some (qm_i x3)], [], h) (qm_Gv r) := by
  intro fuel
  induction fuel with
  | zero => intros; rename_i ho; cases ho
  | succ n ih =>
    intro a0 x1 x2 x3 h r ho
    unfold qX12_copyAll_2 at ho
    refine qm_Ret.sts 2 (f' := (6, [some (qm_r 0 12 a0), some (qm_i x1), some (qm_i x2), some (qm_i x3)], [qm_i (600 : Int32), qm_i x3], h)) rfl ?_
    refine qm_Ret.ge (t := 39) (e := 9) rfl (fun hc => ?_) (fun hc => ?_)
    · rw [if_pos hc] at ho
      refine qm_Ret.sts 14 (f' := (31, [some (qm_r 0 12 a0), some (qm_i x1), some (qm_i x2), some (qm_i x3)], [qm_i (((600 : Int32) * x1) + x3), qm_r 2 2400 (a0 + 1), qm_i (((600 : Int32) * x2) + x3), qm_r 2 2400 (a0 + 1)], h)) rfl ?_
      obtain ⟨hg, ho⟩ := qm_ifn ho
      refine qm_Ret.gn (f1 := (32, [some (qm_r 0 12 a0), some (qm_i x1), some (qm_i x2), some (qm_i x3)], [qm_i (h.1 (a0 + 1) (((600 : Int32) * x1) + x3).toNatClampNeg), qm_i (((600 : Int32) * x2) + x3), qm_r 2 2400 (a0 + 1)], h)) hg rfl ?_
      obtain ⟨hg, ho⟩ := qm_ifn ho
      refine qm_Ret.gn (f1 := (33, [some (qm_r 0 12 a0), some (qm_i x1), some (qm_i x2), some (qm_i x3)], [], (qm_seti h (a0 + 1) (((600 : Int32) * x2) + x3).toNatClampNeg (vp_nar .byte (h.1 (a0 + 1) (((600 : Int32) * x1) + x3).toNatClampNeg))))) hg rfl ?_
      refine qm_Ret.lets (F := fun h9 => (33, [some (qm_r 0 12 a0), some (qm_i x1), some (qm_i x2), some (qm_i x3)], [], h9)) (G := qm_Gv) ho (fun h9 ho => ?_)
      refine qm_Ret.sts 2 (f' := (2, [some (qm_r 0 12 a0), some (qm_i x1), some (qm_i x2), some (qm_i (x3 + (1 : Int32)))], [], h9)) rfl ?_
      exact ih ho
    · rw [if_neg hc] at ho
      refine qm_Ret.sts 5 (f' := (46, [some (qm_r 0 12 a0), some (qm_i x1), some (qm_i x2), some (qm_i x3)], [qm_i x2, qm_i x1, qm_i (1 : Int32), qm_r 1 4 (a0 + 2)], h)) rfl ?_
      obtain ⟨h1, hr, ho⟩ := qm_bd ho
      refine qm_Ret.call (X := wX12_copyRow [qm_r 1 4 (a0 + 2), qm_i (1 : Int32), qm_i x1, qm_i x2] h) (o1 := (none, h1)) (qm_mp (G := qm_Gv) hr) rfl ?_
      show qm_Ret _ (49, [some (qm_r 0 12 a0), some (qm_i x1), some (qm_i x2), some (qm_i x3)], [], h1) _
      refine qm_Ret.sts 5 (f' := (56, [some (qm_r 0 12 a0), some (qm_i x1), some (qm_i x2), some (qm_i x3)], [qm_i x2, qm_i x1, qm_i (1 : Int32), qm_r 1 4 (a0 + 3)], h1)) rfl ?_
      obtain ⟨h2, hr, ho⟩ := qm_bd ho
      refine qm_Ret.call (X := wX12_copyRow [qm_r 1 4 (a0 + 3), qm_i (1 : Int32), qm_i x1, qm_i x2] h1) (o1 := (none, h2)) (qm_mp (G := qm_Gv) hr) rfl ?_
      show qm_Ret _ (59, [some (qm_r 0 12 a0), some (qm_i x1), some (qm_i x2), some (qm_i x3)], [], h2) _
      refine qm_Ret.sts 5 (f' := (66, [some (qm_r 0 12 a0), some (qm_i x1), some (qm_i x2), some (qm_i x3)], [qm_i x2, qm_i x1, qm_i (1 : Int32), qm_r 1 4 (a0 + 4)], h2)) rfl ?_
      obtain ⟨h3, hr, ho⟩ := qm_bd ho
      refine qm_Ret.call (X := wX12_copyRow [qm_r 1 4 (a0 + 4), qm_i (1 : Int32), qm_i x1, qm_i x2] h2) (o1 := (none, h3)) (qm_mp (G := qm_Gv) hr) rfl ?_
      show qm_Ret _ (69, [some (qm_r 0 12 a0), some (qm_i x1), some (qm_i x2), some (qm_i x3)], [], h3) _
      refine qm_Ret.sts 5 (f' := (76, [some (qm_r 0 12 a0), some (qm_i x1), some (qm_i x2), some (qm_i x3)], [qm_i x2, qm_i x1, qm_i (4 : Int32), qm_r 1 16 (a0 + 5)], h3)) rfl ?_
      obtain ⟨h4, hr, ho⟩ := qm_bd ho
      refine qm_Ret.call (X := wX12_copyRow [qm_r 1 16 (a0 + 5), qm_i (4 : Int32), qm_i x1, qm_i x2] h3) (o1 := (none, h4)) (qm_mp (G := qm_Gv) hr) rfl ?_
      show qm_Ret _ (79, [some (qm_r 0 12 a0), some (qm_i x1), some (qm_i x2), some (qm_i x3)], [], h4) _
      refine qm_Ret.sts 5 (f' := (87, [some (qm_r 0 12 a0), some (qm_i x1), some (qm_i x2), some (qm_i x3)], [qm_i x2, qm_i x1, qm_i (86 : Int32), qm_r 1 344 (a0 + 6)], h4)) rfl ?_
      obtain ⟨h5, hr, ho⟩ := qm_bd ho
      refine qm_Ret.call (X := wX12_copyRow [qm_r 1 344 (a0 + 6), qm_i (86 : Int32), qm_i x1, qm_i x2] h4) (o1 := (none, h5)) (qm_mp (G := qm_Gv) hr) rfl ?_
      show qm_Ret _ (90, [some (qm_r 0 12 a0), some (qm_i x1), some (qm_i x2), some (qm_i x3)], [], h5) _
      refine qm_Ret.sts 5 (f' := (99, [some (qm_r 0 12 a0), some (qm_i x1), some (qm_i x2), some (qm_i x3)], [qm_i x2, qm_i x1, qm_i (322 : Int32), qm_r 1 1288 (a0 + 7)], h5)) rfl ?_
      obtain ⟨h6, hr, ho⟩ := qm_bd ho
      refine qm_Ret.call (X := wX12_copyRow [qm_r 1 1288 (a0 + 7), qm_i (322 : Int32), qm_i x1, qm_i x2] h5) (o1 := (none, h6)) (qm_mp (G := qm_Gv) hr) rfl ?_
      show qm_Ret _ (102, [some (qm_r 0 12 a0), some (qm_i x1), some (qm_i x2), some (qm_i x3)], [], h6) _
      refine qm_Ret.sts 5 (f' := (110, [some (qm_r 0 12 a0), some (qm_i x1), some (qm_i x2), some (qm_i x3)], [qm_i x2, qm_i x1, qm_i (34 : Int32), qm_r 1 136 (a0 + 8)], h6)) rfl ?_
      obtain ⟨h7, hr, ho⟩ := qm_bd ho
      refine qm_Ret.call (X := wX12_copyRow [qm_r 1 136 (a0 + 8), qm_i (34 : Int32), qm_i x1, qm_i x2] h6) (o1 := (none, h7)) (qm_mp (G := qm_Gv) hr) rfl ?_
      show qm_Ret _ (113, [some (qm_r 0 12 a0), some (qm_i x1), some (qm_i x2), some (qm_i x3)], [], h7) _
      refine qm_Ret.sts 5 (f' := (121, [some (qm_r 0 12 a0), some (qm_i x1), some (qm_i x2), some (qm_i x3)], [qm_i x2, qm_i x1, qm_i (66 : Int32), qm_r 1 264 (a0 + 9)], h7)) rfl ?_
      obtain ⟨h8, hr, ho⟩ := qm_bd ho
      refine qm_Ret.call (X := wX12_copyRow [qm_r 1 264 (a0 + 9), qm_i (66 : Int32), qm_i x1, qm_i x2] h7) (o1 := (none, h8)) (qm_mp (G := qm_Gv) hr) rfl ?_
      show qm_Ret _ (124, [some (qm_r 0 12 a0), some (qm_i x1), some (qm_i x2), some (qm_i x3)], [], h8) _
      cases ho
      exact qm_Ret.ret 1 rfl
set_option maxRecDepth 20000 in
set_option maxHeartbeats 2000000 in
theorem rX12_copyAll_0   {a0 : Nat} {x1 : Int32} {x2 : Int32} {h : qm_H} {r : qm_H} (ho : qX12_copyAll  a0 x1 x2 h = some r) : qm_Ret mX12_copyAll (0, [some (qm_r 0 12 a0), some (qm_i x1), some (qm_i x2), none], [], h) (qm_Gv r) := by
  unfold qX12_copyAll at ho
  refine qm_Ret.sts 2 (f' := (2, [some (qm_r 0 12 a0), some (qm_i x1), some (qm_i x2), some (qm_i (0 : Int32))], [], h)) rfl ?_
  exact rX12_copyAll_2 ho
theorem cX12_copyAll_ok : ∀ q ∈ ([(96, 2, 4, wX12_copyRow)] : List (Nat × Nat × Nat × qm_C)), qm_CallOK RX12 1 24 q.2.1 q.1 q.2.2.1 q.2.2.2 := List.forall_mem_cons.mpr ⟨Or.inl ⟨yX12_copyRow, cX12_copyRow, 5, none, 0, 0, _, sX12_copyRow, ⟨by decide, by decide⟩, ⟨jX12_copyRow, kRX12_96, uRX12⟩, ⟨by decide, by decide, rfl⟩, Or.inr (Or.inl ⟨rfl, rfl, iX12_copyRow⟩)⟩, fun _ h => absurd h List.not_mem_nil⟩
theorem sX12_copyAll : qm_Snd yX12_copyAll cX12_copyAll 4 none 1 24 wX12_copyAll := qm_met (fld := fun k => qm_lk k pfRX12) (con := fun k => qm_lk k pcRX12) (call := fun k => qm_lk k [(96, 2, 4, wX12_copyRow)]) (tab := qm_tab aX12_copyAll) (plainFor_of_name (by decide)) (qm_fld_ok pfRX12_ok) (qm_con_ok pcRX12_ok) (fun idx kd n f hc => cX12_copyAll_ok (idx, kd, n, f) (qm_lk_mem hc)) (qm_tab_ok aX12_copyAll_ok) (fun vs h o hw => by
  unfold wX12_copyAll at hw
  split at hw
  · obtain ⟨r, hr, rfl⟩ := Option.map_eq_some_iff.mp hw
    exact ⟨Nat.le_of_ble_eq_true rfl, rX12_copyAll_0 (hr)⟩
  · cases hw)
theorem recvX12_copyAll : ∀ vs h o, wX12_copyAll vs h = some o → ∃ ci a rest, vs = qm_r 0 ci a :: rest ∧ qm_R ci = yX12_copyAll.cls := by
  intro vs h o hw
  unfold wX12_copyAll at hw
  split at hw
  · exact ⟨_, _, _, rfl, rfl⟩
  · cases hw
-- RX12 is(II)Z
theorem jX12_is : Jvm.Cond.code yX12_is cX12_is 3 (some .boolean) ∈ qm_all := List.mem_filter.mpr ⟨by decide +kernel, rfl⟩
theorem iX12_is : Jvm.Cond.instanceMethod yX12_is ∈ qm_all ∧ Jvm.Cond.selects yX12_is.cls yX12_is yX12_is ∈ qm_all := ⟨List.mem_filter.mpr ⟨by decide +kernel, rfl⟩, List.mem_filter.mpr ⟨by decide +kernel, rfl⟩⟩
def wX12_is : qm_C := fun vs h => match vs with
  | [.inr (.inr (some (0, 12, p0))), .inl p1, .inl p2] => (qX12_is p0 p1 p2 h).map qm_Gi
  | _ => none
def aX12_is : List (Option (Instr × Nat)) := [some (.iload_n 2, 1), some (.iconst 0, 1), some (.aload_n 0, 1), some (.getfield 23, 3), none, none, some (.iload_n 1, 1), some (.iaload, 1), some (.iconst 1, 1), some (.isub, 1), some (.invokestatic 100, 3), none, none, some (.ireturn, 1)]
theorem aX12_is_ok : qm_tabok cX12_is aX12_is = true := by decide +kernel
def mX12_is : qm_M := ((some .boolean), (fun k => qm_lk k pfRX12), (fun k => qm_lk k pcRX12), (fun k => qm_lk k [(100, 2, 3, wX12_in)]), qm_tab aX12_is)
set_option maxRecDepth 20000 in
set_option maxHeartbeats 2000000 in
theorem rX12_is_0   {a0 : Nat} {x1 : Int32} {x2 : Int32} {h : qm_H} {r : Int32 × qm_H} (ho : qX12_is  a0 x1 x2 h = some r) : qm_Ret mX12_is (0, [some (qm_r 0 12 a0), some (qm_i x1), some (qm_i x2)], [], h) (qm_Gi r) := by
  unfold qX12_is at ho
  refine qm_Ret.sts 5 (f' := (7, [some (qm_r 0 12 a0), some (qm_i x1), some (qm_i x2)], [qm_i x1, qm_r 1 16 (a0 + 5), qm_i (0 : Int32), qm_i x2], h)) rfl ?_
  obtain ⟨hg, ho⟩ := qm_ifn ho
  refine qm_Ret.gn (f1 := (8, [some (qm_r 0 12 a0), some (qm_i x1), some (qm_i x2)], [qm_i (h.1 (a0 + 5) (x1).toNatClampNeg), qm_i (0 : Int32), qm_i x2], h)) hg rfl ?_
  refine qm_Ret.sts 2 (f' := (10, [some (qm_r 0 12 a0), some (qm_i x1), some (qm_i x2)], [qm_i ((h.1 (a0 + 5) (x1).toNatClampNeg) - (1 : Int32)), qm_i (0 : Int32), qm_i x2], h)) rfl ?_
  obtain ⟨r2, h1, hr, ho⟩ := qm_b2e ho
  refine qm_Ret.call (X := wX12_in [qm_i x2, qm_i (0 : Int32), qm_i ((h.1 (a0 + 5) (x1).toNatClampNeg) - (1 : Int32))] h) (o1 := (some (qm_i r2), h1)) (qm_mp (G := qm_Gi) hr) rfl ?_
  show qm_Ret _ (13, [some (qm_r 0 12 a0), some (qm_i x1), some (qm_i x2)], [qm_i r2], h1) _
  obtain ⟨hz, ho⟩ := qm_if ho
  cases ho
  exact qm_Ret.gr hz rfl
theorem cX12_is_ok : ∀ q ∈ ([(100, 2, 3, wX12_in)] : List (Nat × Nat × Nat × qm_C)), qm_CallOK RX12 1 22 q.2.1 q.1 q.2.2.1 q.2.2.2 := List.forall_mem_cons.mpr ⟨Or.inl ⟨yX12_in, cX12_in, 3, (some .boolean), 0, 0, _, sX12_in, ⟨by decide, by decide⟩, ⟨jX12_in, kRX12_100, uRX12⟩, ⟨by decide, by decide, rfl⟩, Or.inr (Or.inl ⟨rfl, rfl, iX12_in⟩)⟩, fun _ h => absurd h List.not_mem_nil⟩
theorem sX12_is : qm_Snd yX12_is cX12_is 3 (some .boolean) 1 22 wX12_is := qm_met (fld := fun k => qm_lk k pfRX12) (con := fun k => qm_lk k pcRX12) (call := fun k => qm_lk k [(100, 2, 3, wX12_in)]) (tab := qm_tab aX12_is) (plainFor_of_name (by decide)) (qm_fld_ok pfRX12_ok) (qm_con_ok pcRX12_ok) (fun idx kd n f hc => cX12_is_ok (idx, kd, n, f) (qm_lk_mem hc)) (qm_tab_ok aX12_is_ok) (fun vs h o hw => by
  unfold wX12_is at hw
  split at hw
  · obtain ⟨r, hr, rfl⟩ := Option.map_eq_some_iff.mp hw
    exact ⟨Nat.le_of_ble_eq_true rfl, rX12_is_0 (hr)⟩
  · cases hw)
theorem recvX12_is : ∀ vs h o, wX12_is vs h = some o → ∃ ci a rest, vs = qm_r 0 ci a :: rest ∧ qm_R ci = yX12_is.cls := by
  intro vs h o hw
  unfold wX12_is at hw
  split at hw
  · exact ⟨_, _, _, rfl, rfl⟩
  · cases hw
-- RX12 four(I)V
theorem jX12_four : Jvm.Cond.code yX12_four cX12_four 3 none ∈ qm_all := List.mem_filter.mpr ⟨by decide +kernel, rfl⟩
theorem iX12_four : Jvm.Cond.instanceMethod yX12_four ∈ qm_all ∧ Jvm.Cond.selects yX12_four.cls yX12_four yX12_four ∈ qm_all := ⟨List.mem_filter.mpr ⟨by decide +kernel, rfl⟩, List.mem_filter.mpr ⟨by decide +kernel, rfl⟩⟩
def wX12_four : qm_C := fun vs h => match vs with
  | [.inr (.inr (some (0, 12, p0))), .inl p1] => (qX12_four p0 p1 h).map qm_Gv
  | _ => none
def aX12_four : List (Option (Instr × Nat)) := [some (.bipush 24, 2), none, some (.istore_n 2, 1), some (.iload_n 2, 1), some (.ifCond .lt 34, 3), none, none, some (.aload_n 0, 1), some (.getfield 7, 3), none, none, some (.aload_n 0, 1), some (.getfield 13, 3), none, none, some (.iconst 0, 1), some (.iaload, 1), some (.iload_n 1, 1), some (.iload_n 2, 1), some (.ishr, 1), some (.i2b, 1), some (.bastore, 1), some (.aload_n 0, 1), some (.getfield 13, 3), none, none, some (.iconst 0, 1), some (.dup2, 1), some (.iaload, 1), some (.iconst 1, 1), some (.iadd, 1), some (.iastore, 1), some (.iinc 2 (-8), 3), none, none, some (.goto (-32), 3), none, none, some (.return_, 1)]
theorem aX12_four_ok : qm_tabok cX12_four aX12_four = true := by decide +kernel
def mX12_four : qm_M := (none, (fun k => qm_lk k pfRX12), (fun k => qm_lk k pcRX12), (fun k => qm_lk k []), qm_tab aX12_four)
set_option maxRecDepth 20000 in
set_option maxHeartbeats 2000000 in
theorem rX12_four_3   : ∀ {fuel : Nat} {a0 : Nat} {x1 : Int32} {x2 : Int32} {h : qm_H} {r : qm_H}, qX12_four_3  fuel a0 x1 x2 h = some r → qm_Ret mX12_four (3, [some (qm_r 0 12 a0), some (qm_i x1), some (qm_i x2)], [], h) (qm_Gv r) := by
  intro fuel
  induction fuel with
  | zero => intros; rename_i ho; cases ho
  | succ n ih =>
    intro a0 x1 x2 h r ho
    unfold qX12_four_3 at ho
    refine qm_Ret.sts 1 (f' := (4, [some (qm_r 0 12 a0), some (qm_i x1), some (qm_i x2)], [qm_i x2], h)) rfl ?_
    refine qm_Ret.lt (t := 38) (e := 7) rfl (fun hc => ?_) (fun hc => ?_)
    · rw [if_pos hc] at ho
      cases ho
      exact qm_Ret.ret 1 rfl
    · rw [if_neg hc] at ho
      refine qm_Ret.sts 10 (f' := (21, [some (qm_r 0 12 a0), some (qm_i x1), some (qm_i x2)], [qm_i ((qm_ishr x1 x2)).toInt8.toInt32, qm_i (h.1 (a0 + 2) (0 : Int32).toNatClampNeg), qm_r 2 2400 (a0 + 1)], h)) rfl ?_
      obtain ⟨hg, ho⟩ := qm_ifn ho
      refine qm_Ret.gn (f1 := (22, [some (qm_r 0 12 a0), some (qm_i x1), some (qm_i x2)], [], (qm_seti h (a0 + 1) (h.1 (a0 + 2) (0 : Int32).toNatClampNeg).toNatClampNeg (vp_nar .byte ((qm_ishr x1 x2)).toInt8.toInt32)))) hg rfl ?_
      refine qm_Ret.lets (F := fun h1 => (22, [some (qm_r 0 12 a0), some (qm_i x1), some (qm_i x2)], [], h1)) (G := qm_Gv) ho (fun h1 ho => ?_)
      refine qm_Ret.sts 8 (f' := (32, [some (qm_r 0 12 a0), some (qm_i x1), some (qm_i x2)], [], (qm_seti h1 (a0 + 2) (0 : Int32).toNatClampNeg ((h1.1 (a0 + 2) (0 : Int32).toNatClampNeg) + (1 : Int32))))) rfl ?_
      refine qm_Ret.lets (F := fun h2 => (32, [some (qm_r 0 12 a0), some (qm_i x1), some (qm_i x2)], [], h2)) (G := qm_Gv) ho (fun h2 ho => ?_)
      refine qm_Ret.sts 2 (f' := (3, [some (qm_r 0 12 a0), some (qm_i x1), some (qm_i (x2 + (-8 : Int32)))], [], h2)) rfl ?_
      exact ih ho
set_option maxRecDepth 20000 in
set_option maxHeartbeats 2000000 in
theorem rX12_four_0   {a0 : Nat} {x1 : Int32} {h : qm_H} {r : qm_H} (ho : qX12_four  a0 x1 h = some r) : qm_Ret mX12_four (0, [some (qm_r 0 12 a0), some (qm_i x1), none], [], h) (qm_Gv r) := by
  unfold qX12_four at ho
  refine qm_Ret.sts 2 (f' := (3, [some (qm_r 0 12 a0), some (qm_i x1), some (qm_i (24 : Int32))], [], h)) rfl ?_
  exact rX12_four_3 ho
theorem cX12_four_ok : ∀ q ∈ ([] : List (Nat × Nat × Nat × qm_C)), qm_CallOK RX12 0 0 q.2.1 q.1 q.2.2.1 q.2.2.2 := fun _ h => absurd h List.not_mem_nil
theorem sX12_four : qm_Snd yX12_four cX12_four 3 none 0 0 wX12_four := qm_met (fld := fun k => qm_lk k pfRX12) (con := fun k => qm_lk k pcRX12) (call := fun k => qm_lk k []) (tab := qm_tab aX12_four) (plainFor_of_name (by decide)) (qm_fld_ok pfRX12_ok) (qm_con_ok pcRX12_ok) (fun idx kd n f hc => cX12_four_ok (idx, kd, n, f) (qm_lk_mem hc)) (qm_tab_ok aX12_four_ok) (fun vs h o hw => by
  unfold wX12_four at hw
  split at hw
  · obtain ⟨r, hr, rfl⟩ := Option.map_eq_some_iff.mp hw
    exact ⟨Nat.le_of_ble_eq_true rfl, rX12_four_0 (hr)⟩
  · cases hw)
theorem recvX12_four : ∀ vs h o, wX12_four vs h = some o → ∃ ci a rest, vs = qm_r 0 ci a :: rest ∧ qm_R ci = yX12_four.cls := by
  intro vs h o hw
  unfold wX12_four at hw
  split at hw
  · exact ⟨_, _, _, rfl, rfl⟩
  · cases hw
-- RX12 feed(IIIII)I
theorem jX12_feed : Jvm.Cond.code yX12_feed cX12_feed 6 (some .int) ∈ qm_all := List.mem_filter.mpr ⟨by decide +kernel, rfl⟩
theorem iX12_feed : Jvm.Cond.instanceMethod yX12_feed ∈ qm_all ∧ Jvm.Cond.selects yX12_feed.cls yX12_feed yX12_feed ∈ qm_all := ⟨List.mem_filter.mpr ⟨by decide +kernel, rfl⟩, List.mem_filter.mpr ⟨by decide +kernel, rfl⟩⟩
def wX12_feed : qm_C := fun vs h => match vs with
  | [.inr (.inr (some (0, 12, p0))), .inl p1, .inl p2, .inl p3, .inl p4, .inl p5] => (qX12_feed p0 p1 p2 p3 p4 p5 h).map qm_Gi
  | _ => none
def aX12_feed : List (Option (Instr × Nat)) := [some (.aload_n 0, 1), some (.iconst 0, 1), some (.putfield 88, 3), none, none, some (.aload_n 0, 1), some (.getfield 13, 3), none, none, some (.iconst 0, 1), some (.iaload, 1), some (.bipush 20, 2), none, some (.iadd, 1), some (.sipush 600, 3), none, none, some (.if_icmp .le 5, 3), none, none, some (.iconst (-1), 1), some (.ireturn, 1), some (.aload_n 0, 1), some (.iload_n 1, 1), some (.invokevirtual 104, 3), none, none, some (.aload_n 0, 1), some (.iload_n 2, 1), some (.invokevirtual 104, 3), none, none, some (.aload_n 0, 1), some (.iload_n 3, 1), some (.invokevirtual 104, 3), none, none, some (.aload_n 0, 1), some (.iload 4, 2), none, some (.invokevirtual 104, 3), none, none, some (.aload_n 0, 1), some (.iload 5, 2), none, some (.invokevirtual 104, 3), none, none, some (.aload_n 0, 1), some (.getfield 13, 3), none, none, some (.iconst 0, 1), some (.iaload, 1), some (.ireturn, 1)]
theorem aX12_feed_ok : qm_tabok cX12_feed aX12_feed = true := by decide +kernel
def mX12_feed : qm_M := ((some .int), (fun k => qm_lk k pfRX12), (fun k => qm_lk k pcRX12), (fun k => qm_lk k [(104, 0, 2, wX12_four)]), qm_tab aX12_feed)
set_option maxRecDepth 20000 in
set_option maxHeartbeats 2000000 in
theorem rX12_feed_0   {a0 : Nat} {x1 : Int32} {x2 : Int32} {x3 : Int32} {x4 : Int32} {x5 : Int32} {h : qm_H} {r : Int32 × qm_H} (ho : qX12_feed  a0 x1 x2 x3 x4 x5 h = some r) : qm_Ret mX12_feed (0, [some (qm_r 0 12 a0), some (qm_i x1), some (qm_i x2), some (qm_i x3), some (qm_i x4), some (qm_i x5)], [], h) (qm_Gi r) := by
  unfold qX12_feed at ho
  refine qm_Ret.sts 3 (f' := (5, [some (qm_r 0 12 a0), some (qm_i x1), some (qm_i x2), some (qm_i x3), some (qm_i x4), some (qm_i x5)], [], (qm_seti h a0 0 (0 : Int32)))) rfl ?_
  refine qm_Ret.lets (F := fun h1 => (5, [some (qm_r 0 12 a0), some (qm_i x1), some (qm_i x2), some (qm_i x3), some (qm_i x4), some (qm_i x5)], [], h1)) (G := qm_Gi) ho (fun h1 ho => ?_)
  refine qm_Ret.sts 7 (f' := (17, [some (qm_r 0 12 a0), some (qm_i x1), some (qm_i x2), some (qm_i x3), some (qm_i x4), some (qm_i x5)], [qm_i (600 : Int32), qm_i ((h1.1 (a0 + 2) (0 : Int32).toNatClampNeg) + (20 : Int32))], h1)) rfl ?_
  refine qm_Ret.le (t := 22) (e := 20) rfl (fun hc => ?_) (fun hc => ?_)
  · rw [if_pos hc] at ho
    cases ho
    exact qm_Ret.ret 2 rfl
  · rw [if_neg hc] at ho
    refine qm_Ret.sts 2 (f' := (24, [some (qm_r 0 12 a0), some (qm_i x1), some (qm_i x2), some (qm_i x3), some (qm_i x4), some (qm_i x5)], [qm_i x1, qm_r 0 12 a0], h1)) rfl ?_
    obtain ⟨h2, hr, ho⟩ := qm_bd ho
    refine qm_Ret.call (X := wX12_four [qm_r 0 12 a0, qm_i x1] h1) (o1 := (none, h2)) (qm_mp (G := qm_Gv) hr) rfl ?_
    show qm_Ret _ (27, [some (qm_r 0 12 a0), some (qm_i x1), some (qm_i x2), some (qm_i x3), some (qm_i x4), some (qm_i x5)], [], h2) _
    refine qm_Ret.sts 2 (f' := (29, [some (qm_r 0 12 a0), some (qm_i x1), some (qm_i x2), some (qm_i x3), some (qm_i x4), some (qm_i x5)], [qm_i x2, qm_r 0 12 a0], h2)) rfl ?_
    obtain ⟨h3, hr, ho⟩ := qm_bd ho
    refine qm_Ret.call (X := wX12_four [qm_r 0 12 a0, qm_i x2] h2) (o1 := (none, h3)) (qm_mp (G := qm_Gv) hr) rfl ?_
    show qm_Ret _ (32, [some (qm_r 0 12 a0), some (qm_i x1), some (qm_i x2), some (qm_i x3), some (qm_i x4), some (qm_i x5)], [], h3) _
    refine qm_Ret.sts 2 (f' := (34, [some (qm_r 0 12 a0), some (qm_i x1), some (qm_i x2), some (qm_i x3), some (qm_i x4), some (qm_i x5)], [qm_i x3, qm_r 0 12 a0], h3)) rfl ?_
    obtain ⟨h4, hr, ho⟩ := qm_bd ho
    refine qm_Ret.call (X := wX12_four [qm_r 0 12 a0, qm_i x3] h3) (o1 := (none, h4)) (qm_mp (G := qm_Gv) hr) rfl ?_
    show qm_Ret _ (37, [some (qm_r 0 12 a0), some (qm_i x1), some (qm_i x2), some (qm_i x3), some (qm_i x4), some (qm_i x5)], [], h4) _
    refine qm_Ret.sts 2 (f' := (40, [some (qm_r 0 12 a0), some (qm_i x1), some (qm_i x2), some (qm_i x3), some (qm_i x4), some (qm_i x5)], [qm_i x4, qm_r 0 12 a0], h4)) rfl ?_
    obtain ⟨h5, hr, ho⟩ := qm_bd ho
    refine qm_Ret.call (X := wX12_four [qm_r 0 12 a0, qm_i x4] h4) (o1 := (none, h5)) (qm_mp (G := qm_Gv) hr) rfl ?_
    show qm_Ret _ (43, [some (qm_r 0 12 a0), some (qm_i x1), some (qm_i x2), some (qm_i x3), some (qm_i x4), some (qm_i x5)], [], h5) _
    refine qm_Ret.sts 2 (f' := (46, [some (qm_r 0 12 a0), some (qm_i x1), some (qm_i x2), some (qm_i x3), some (qm_i x4), some (qm_i x5)], [qm_i x5, qm_r 0 12 a0], h5)) rfl ?_
    obtain ⟨h6, hr, ho⟩ := qm_bd ho
    refine qm_Ret.call (X := wX12_four [qm_r 0 12 a0, qm_i x5] h5) (o1 := (none, h6)) (qm_mp (G := qm_Gv) hr) rfl ?_
    show qm_Ret _ (49, [some (qm_r 0 12 a0), some (qm_i x1), some (qm_i x2), some (qm_i x3), some (qm_i x4), some (qm_i x5)], [], h6) _
    cases ho
    exact qm_Ret.ret 5 rfl
theorem cX12_feed_ok : ∀ q ∈ ([(104, 0, 2, wX12_four)] : List (Nat × Nat × Nat × qm_C)), qm_CallOK RX12 1 22 q.2.1 q.1 q.2.2.1 q.2.2.2 := List.forall_mem_cons.mpr ⟨Or.inl ⟨yX12_four, cX12_four, 3, none, 0, 0, _, sX12_four, ⟨by decide, by decide⟩, ⟨jX12_four, kRX12_104, uRX12⟩, ⟨by decide, by decide, rfl⟩, Or.inl ⟨rfl, rfl, iX12_four, recvX12_four⟩⟩, fun _ h => absurd h List.not_mem_nil⟩
theorem sX12_feed : qm_Snd yX12_feed cX12_feed 6 (some .int) 1 22 wX12_feed := qm_met (fld := fun k => qm_lk k pfRX12) (con := fun k => qm_lk k pcRX12) (call := fun k => qm_lk k [(104, 0, 2, wX12_four)]) (tab := qm_tab aX12_feed) (plainFor_of_name (by decide)) (qm_fld_ok pfRX12_ok) (qm_con_ok pcRX12_ok) (fun idx kd n f hc => cX12_feed_ok (idx, kd, n, f) (qm_lk_mem hc)) (qm_tab_ok aX12_feed_ok) (fun vs h o hw => by
  unfold wX12_feed at hw
  split at hw
  · obtain ⟨r, hr, rfl⟩ := Option.map_eq_some_iff.mp hw
    exact ⟨Nat.le_of_ble_eq_true rfl, rX12_feed_0 (hr)⟩
  · cases hw)
theorem recvX12_feed : ∀ vs h o, wX12_feed vs h = some o → ∃ ci a rest, vs = qm_r 0 ci a :: rest ∧ qm_R ci = yX12_feed.cls := by
  intro vs h o hw
  unfold wX12_feed at hw
  split at hw
  · exact ⟨_, _, _, rfl, rfl⟩
  · cases hw
-- RX12 end(I)I
theorem jX12_end : Jvm.Cond.code yX12_end cX12_end 2 (some .int) ∈ qm_all := List.mem_filter.mpr ⟨by decide +kernel, rfl⟩
theorem iX12_end : Jvm.Cond.instanceMethod yX12_end ∈ qm_all ∧ Jvm.Cond.selects yX12_end.cls yX12_end yX12_end ∈ qm_all := ⟨List.mem_filter.mpr ⟨by decide +kernel, rfl⟩, List.mem_filter.mpr ⟨by decide +kernel, rfl⟩⟩
def wX12_end : qm_C := fun vs h => match vs with
  | [.inr (.inr (some (0, 12, p0))), .inl p1] => (qX12_end p0 p1 h).map qm_Gi
  | _ => none
def aX12_end : List (Option (Instr × Nat)) := [some (.aload_n 0, 1), some (.iconst 0, 1), some (.putfield 88, 3), none, none, some (.iload_n 1, 1), some (.iconst 0, 1), some (.aload_n 0, 1), some (.getfield 13, 3), none, none, some (.iconst 0, 1), some (.iaload, 1), some (.invokestatic 100, 3), none, none, some (.ifCond .ne 5, 3), none, none, some (.iconst (-1), 1), some (.ireturn, 1), some (.aload_n 0, 1), some (.getfield 13, 3), none, none, some (.iconst 0, 1), some (.iload_n 1, 1), some (.iastore, 1), some (.iload_n 1, 1), some (.ireturn, 1)]
theorem aX12_end_ok : qm_tabok cX12_end aX12_end = true := by decide +kernel
def mX12_end : qm_M := ((some .int), (fun k => qm_lk k pfRX12), (fun k => qm_lk k pcRX12), (fun k => qm_lk k [(100, 2, 3, wX12_in)]), qm_tab aX12_end)
set_option maxRecDepth 20000 in
set_option maxHeartbeats 2000000 in
theorem rX12_end_0   {a0 : Nat} {x1 : Int32} {h : qm_H} {r : Int32 × qm_H} (ho : qX12_end  a0 x1 h = some r) : qm_Ret mX12_end (0, [some (qm_r 0 12 a0), some (qm_i x1)], [], h) (qm_Gi r) := by
  unfold qX12_end at ho
  refine qm_Ret.sts 3 (f' := (5, [some (qm_r 0 12 a0), some (qm_i x1)], [], (qm_seti h a0 0 (0 : Int32)))) rfl ?_
  refine qm_Ret.lets (F := fun h1 => (5, [some (qm_r 0 12 a0), some (qm_i x1)], [], h1)) (G := qm_Gi) ho (fun h1 ho => ?_)
  refine qm_Ret.sts 6 (f' := (13, [some (qm_r 0 12 a0), some (qm_i x1)], [qm_i (h1.1 (a0 + 2) (0 : Int32).toNatClampNeg), qm_i (0 : Int32), qm_i x1], h1)) rfl ?_
  obtain ⟨r3, h2, hr, ho⟩ := qm_b2e ho
  refine qm_Ret.call (X := wX12_in [qm_i x1, qm_i (0 : Int32), qm_i (h1.1 (a0 + 2) (0 : Int32).toNatClampNeg)] h1) (o1 := (some (qm_i r3), h2)) (qm_mp (G := qm_Gi) hr) rfl ?_
  show qm_Ret _ (16, [some (qm_r 0 12 a0), some (qm_i x1)], [qm_i r3], h2) _
  refine qm_Ret.ne (t := 21) (e := 19) rfl (fun hc => ?_) (fun hc => ?_)
  · rw [if_pos hc] at ho
    cases ho
    exact qm_Ret.ret 2 rfl
  · rw [if_neg hc] at ho
    refine qm_Ret.sts 5 (f' := (28, [some (qm_r 0 12 a0), some (qm_i x1)], [], (qm_seti h2 (a0 + 2) (0 : Int32).toNatClampNeg x1))) rfl ?_
    refine qm_Ret.lets (F := fun h4 => (28, [some (qm_r 0 12 a0), some (qm_i x1)], [], h4)) (G := qm_Gi) ho (fun h4 ho => ?_)
    cases ho
    exact qm_Ret.ret 2 rfl
theorem cX12_end_ok : ∀ q ∈ ([(100, 2, 3, wX12_in)] : List (Nat × Nat × Nat × qm_C)), qm_CallOK RX12 1 22 q.2.1 q.1 q.2.2.1 q.2.2.2 := List.forall_mem_cons.mpr ⟨Or.inl ⟨yX12_in, cX12_in, 3, (some .boolean), 0, 0, _, sX12_in, ⟨by decide, by decide⟩, ⟨jX12_in, kRX12_100, uRX12⟩, ⟨by decide, by decide, rfl⟩, Or.inr (Or.inl ⟨rfl, rfl, iX12_in⟩)⟩, fun _ h => absurd h List.not_mem_nil⟩
theorem sX12_end : qm_Snd yX12_end cX12_end 2 (some .int) 1 22 wX12_end := qm_met (fld := fun k => qm_lk k pfRX12) (con := fun k => qm_lk k pcRX12) (call := fun k => qm_lk k [(100, 2, 3, wX12_in)]) (tab := qm_tab aX12_end) (plainFor_of_name (by decide)) (qm_fld_ok pfRX12_ok) (qm_con_ok pcRX12_ok) (fun idx kd n f hc => cX12_end_ok (idx, kd, n, f) (qm_lk_mem hc)) (qm_tab_ok aX12_end_ok) (fun vs h o hw => by
  unfold wX12_end at hw
  split at hw
  · obtain ⟨r, hr, rfl⟩ := Option.map_eq_some_iff.mp hw
    exact ⟨Nat.le_of_ble_eq_true rfl, rX12_end_0 (hr)⟩
  · cases hw)
theorem recvX12_end : ∀ vs h o, wX12_end vs h = some o → ∃ ci a rest, vs = qm_r 0 ci a :: rest ∧ qm_R ci = yX12_end.cls := by
  intro vs h o hw
  unfold wX12_end at hw
  split at hw
  · exact ⟨_, _, _, rfl, rfl⟩
  · cases hw
-- RX12 see()I
theorem jX12_see : Jvm.Cond.code yX12_see cX12_see 1 (some .int) ∈ qm_all := List.mem_filter.mpr ⟨by decide +kernel, rfl⟩
theorem iX12_see : Jvm.Cond.instanceMethod yX12_see ∈ qm_all ∧ Jvm.Cond.selects yX12_see.cls yX12_see yX12_see ∈ qm_all := ⟨List.mem_filter.mpr ⟨by decide +kernel, rfl⟩, List.mem_filter.mpr ⟨by decide +kernel, rfl⟩⟩
def wX12_see : qm_C := fun vs h => match vs with
  | [.inr (.inr (some (0, 12, p0)))] => (qX12_see p0 h).map qm_Gi
  | _ => none
def aX12_see : List (Option (Instr × Nat)) := [some (.aload_n 0, 1), some (.getfield 108, 3), none, none, some (.aload_n 0, 1), some (.getfield 111, 3), none, none, some (.if_icmp .ge 19, 3), none, none, some (.aload_n 0, 1), some (.getfield 7, 3), none, none, some (.aload_n 0, 1), some (.getfield 108, 3), none, none, some (.baload, 1), some (.sipush 255, 3), none, none, some (.iand, 1), some (.goto 4, 3), none, none, some (.iconst (-1), 1), some (.ireturn, 1)]
theorem aX12_see_ok : qm_tabok cX12_see aX12_see = true := by decide +kernel
def mX12_see : qm_M := ((some .int), (fun k => qm_lk k pfRX12), (fun k => qm_lk k pcRX12), (fun k => qm_lk k []), qm_tab aX12_see)
set_option maxRecDepth 20000 in
set_option maxHeartbeats 2000000 in
theorem rX12_see_0   {a0 : Nat} {h : qm_H} {r : Int32 × qm_H} (ho : qX12_see  a0 h = some r) : qm_Ret mX12_see (0, [some (qm_r 0 12 a0)], [], h) (qm_Gi r) := by
  unfold qX12_see at ho
  refine qm_Ret.sts 4 (f' := (8, [some (qm_r 0 12 a0)], [qm_i (h.1 a0 11), qm_i (h.1 a0 10)], h)) rfl ?_
  refine qm_Ret.ge (t := 27) (e := 11) rfl (fun hc => ?_) (fun hc => ?_)
  · rw [if_pos hc] at ho
    refine qm_Ret.sts 4 (f' := (19, [some (qm_r 0 12 a0)], [qm_i (h.1 a0 10), qm_r 2 2400 (a0 + 1)], h)) rfl ?_
    obtain ⟨hg, ho⟩ := qm_ifn ho
    refine qm_Ret.gn (f1 := (20, [some (qm_r 0 12 a0)], [qm_i (h.1 (a0 + 1) (h.1 a0 10).toNatClampNeg)], h)) hg rfl ?_
    cases ho
    exact qm_Ret.ret 4 rfl
  · rw [if_neg hc] at ho
    cases ho
    exact qm_Ret.ret 2 rfl
theorem cX12_see_ok : ∀ q ∈ ([] : List (Nat × Nat × Nat × qm_C)), qm_CallOK RX12 0 0 q.2.1 q.1 q.2.2.1 q.2.2.2 := fun _ h => absurd h List.not_mem_nil
theorem sX12_see : qm_Snd yX12_see cX12_see 1 (some .int) 0 0 wX12_see := qm_met (fld := fun k => qm_lk k pfRX12) (con := fun k => qm_lk k pcRX12) (call := fun k => qm_lk k []) (tab := qm_tab aX12_see) (plainFor_of_name (by decide)) (qm_fld_ok pfRX12_ok) (qm_con_ok pcRX12_ok) (fun idx kd n f hc => cX12_see_ok (idx, kd, n, f) (qm_lk_mem hc)) (qm_tab_ok aX12_see_ok) (fun vs h o hw => by
  unfold wX12_see at hw
  split at hw
  · obtain ⟨r, hr, rfl⟩ := Option.map_eq_some_iff.mp hw
    exact ⟨Nat.le_of_ble_eq_true rfl, rX12_see_0 (hr)⟩
  · cases hw)
theorem recvX12_see : ∀ vs h o, wX12_see vs h = some o → ∃ ci a rest, vs = qm_r 0 ci a :: rest ∧ qm_R ci = yX12_see.cls := by
  intro vs h o hw
  unfold wX12_see at hw
  split at hw
  · exact ⟨_, _, _, rfl, rfl⟩
  · cases hw
-- RX12 token()V
theorem jX12_token : Jvm.Cond.code yX12_token cX12_token 3 none ∈ qm_all := List.mem_filter.mpr ⟨by decide +kernel, rfl⟩
theorem iX12_token : Jvm.Cond.instanceMethod yX12_token ∈ qm_all ∧ Jvm.Cond.selects yX12_token.cls yX12_token yX12_token ∈ qm_all := ⟨List.mem_filter.mpr ⟨by decide +kernel, rfl⟩, List.mem_filter.mpr ⟨by decide +kernel, rfl⟩⟩
def wX12_token : qm_C := fun vs h => match vs with
  | [.inr (.inr (some (0, 12, p0)))] => (qX12_token p0 h).map qm_Gv
  | _ => none
def aX12_token : List (Option (Instr × Nat)) := [some (.aload_n 0, 1), some (.invokevirtual 114, 3), none, none, some (.bipush 10, 2), none, some (.if_icmp .eq 12, 3), none, none, some (.aload_n 0, 1), some (.invokevirtual 114, 3), none, none, some (.bipush 32, 2), none, some (.if_icmp .ne 16, 3), none, none, some (.aload_n 0, 1), some (.dup, 1), some (.getfield 108, 3), none, none, some (.iconst 1, 1), some (.iadd, 1), some (.putfield 108, 3), none, none, some (.goto (-28), 3), none, none, some (.aload_n 0, 1), some (.aload_n 0, 1), some (.getfield 108, 3), none, none, some (.putfield 118, 3), none, none, some (.aload_n 0, 1), some (.invokevirtual 114, 3), none, none, some (.istore_n 1, 1), some (.aload_n 0, 1), some (.lconst 0, 1), some (.putfield 121, 3), none, none, some (.iconst 0, 1), some (.istore_n 2, 1), some (.iload_n 1, 1), some (.ifCond .ge 11, 3), none, none, some (.aload_n 0, 1), some (.iconst 0, 1), some (.putfield 125, 3), none, none, some (.goto 206, 3), none, none, some (.iload_n 1, 1), some (.bipush 97, 2), none, some (.bipush 122, 2), none, some (.invokestatic 100, 3), none, none, some (.ifCond .eq 76, 3), none, none, some (.aload_n 0, 1), some (.invokevirtual 114, 3), none, none, some (.bipush 97, 2), none, some (.bipush 122, 2), none, some (.invokestatic 100, 3), none, none, some (.ifCond .eq 36, 3), none, none, some (.aload_n 0, 1), some (.aload_n 0, 1), some (.getfield 121, 3), none, none, some (.bipush 8, 2), none, some (.lshl, 1), some (.aload_n 0, 1), some (.invokevirtual 114, 3), none, none, some (.i2l, 1), some (.lor, 1), some (.putfield 121, 3), none, none, some (.aload_n 0, 1), some (.dup, 1), some (.getfield 108, 3), none, none, some (.iconst 1, 1), some (.iadd, 1), some (.putfield 108, 3), none, none, some (.iinc 2 1, 3), none, none, some (.goto (-44), 3), none, none, some (.aload_n 0, 1), some (.iload_n 2, 1), some (.bipush 8, 2), none, some (.if_icmp .le 7, 3), none, none, some (.lconst 0, 1), some (.goto 7, 3), none, none, some (.aload_n 0, 1), some (.getfield 121, 3), none, none, some (.putfield 121, 3), none, none, some (.aload_n 0, 1), some (.iconst 2, 1), some (.putfield 125, 3), none, none, some (.goto 122, 3), none, none, some (.iload_n 1, 1), some (.bipush 48, 2), none, some (.bipush 57, 2), none, some (.invokestatic 100, 3), none, none, some (.ifCond .eq 86, 3), none, none, some (.aload_n 0, 1), some (.iconst 0, 1), some (.putfield 128, 3), none, none, some (.aload_n 0, 1), some (.invokevirtual 114, 3), none, none, some (.bipush 48, 2), none, some (.bipush 57, 2), none, some (.invokestatic 100, 3), none, none, some (.ifCond .eq 50, 3), none, none, some (.aload_n 0, 1), some (.iload_n 2, 1), some (.iconst 2, 1), some (.if_icmp .ge 21, 3), none, none, some (.bipush 10, 2), none, some (.aload_n 0, 1), some (.getfield 128, 3), none, none, some (.imul, 1), some (.aload_n 0, 1), some (.invokevirtual 114, 3), none, none, some (.iadd, 1), some (.bipush 48, 2), none, some (.isub, 1), some (.goto 7, 3), none, none, some (.aload_n 0, 1), some (.getfield 128, 3), none, none, some (.putfield 128, 3), none, none, some (.aload_n 0, 1), some (.dup, 1), some (.getfield 108, 3), none, none, some (.iconst 1, 1), some (.iadd, 1), some (.putfield 108, 3), none, none, some (.iinc 2 1, 3), none, none, some (.goto (-58), 3), none, none, some (.aload_n 0, 1), some (.iload_n 2, 1), some (.iconst 2, 1), some (.if_icmp .le 7, 3), none, none, some (.iconst 1, 1), some (.goto 4, 3), none, none, some (.iconst 3, 1), some (.putfield 125, 3), none, none, some (.goto 28, 3), none, none, some (.aload_n 0, 1), some (.dup, 1), some (.getfield 108, 3), none, none, some (.iconst 1, 1), some (.iadd, 1), some (.putfield 108, 3), none, none, some (.aload_n 0, 1), some (.iload_n 1, 1), some (.bipush 59, 2), none, some (.if_icmp .ne 7, 3), none, none, some (.iconst 4, 1), some (.goto 4, 3), none, none, some (.iconst 1, 1), some (.putfield 125, 3), none, none, some (.return_, 1)]
theorem aX12_token_ok : qm_tabok cX12_token aX12_token = true := by decide +kernel
def mX12_token : qm_M := (none, (fun k => qm_lk k pfRX12), (fun k => qm_lk k pcRX12), (fun k => qm_lk k [(114, 0, 1, wX12_see), (100, 2, 3, wX12_in)]), qm_tab aX12_token)
set_option maxRecDepth 20000 in
set_option maxHeartbeats 2000000 in
theorem rX12_token_163   : ∀ {fuel : Nat} {a0 : Nat} {x2 : Int32} {xd1 : Int32} {h : qm_H} {r : qm_H}, qX12_token_163  fuel a0 x2 h = some r → qm_Ret mX12_token (163, [some (qm_r 0 12 a0), some (qm_i xd1), some (qm_i x2)], [], h) (qm_Gv r) := by
  intro fuel
  induction fuel with
  | zero => intros; rename_i ho; cases ho
  | succ n ih =>
    intro a0 x2 xd1 h r ho
    unfold qX12_token_163 at ho
    refine qm_Ret.sts 1 (f' := (164, [some (qm_r 0 12 a0), some (qm_i xd1), some (qm_i x2)], [qm_r 0 12 a0], h)) rfl ?_
    obtain ⟨r2, h1, hr, ho⟩ := qm_b2e ho
    refine qm_Ret.call (X := wX12_see [qm_r 0 12 a0] h) (o1 := (some (qm_i r2), h1)) (qm_mp (G := qm_Gi) hr) rfl ?_
    show qm_Ret _ (167, [some (qm_r 0 12 a0), some (qm_i xd1), some (qm_i x2)], [qm_i r2], h1) _
    refine qm_Ret.sts 2 (f' := (171, [some (qm_r 0 12 a0), some (qm_i xd1), some (qm_i x2)], [qm_i (57 : Int32), qm_i (48 : Int32), qm_i r2], h1)) rfl ?_
    obtain ⟨r4, h3, hr, ho⟩ := qm_b2e ho
    refine qm_Ret.call (X := wX12_in [qm_i r2, qm_i (48 : Int32), qm_i (57 : Int32)] h1) (o1 := (some (qm_i r4), h3)) (qm_mp (G := qm_Gi) hr) rfl ?_
    show qm_Ret _ (174, [some (qm_r 0 12 a0), some (qm_i xd1), some (qm_i x2)], [qm_i r4], h3) _
    refine qm_Ret.eq (t := 224) (e := 177) rfl (fun hc => ?_) (fun hc => ?_)
    · rw [if_pos hc] at ho
      refine qm_Ret.sts 3 (f' := (227, [some (qm_r 0 12 a0), some (qm_i xd1), some (qm_i x2)], [qm_i (2 : Int32), qm_i x2, qm_r 0 12 a0], h3)) rfl ?_
      refine qm_Ret.le (t := 234) (e := 230) rfl (fun hc => ?_) (fun hc => ?_)
      · rw [if_pos hc] at ho
        refine qm_Ret.sts 3 (f' := (238, [some (qm_r 0 12 a0), some (qm_i xd1), some (qm_i x2)], [], (qm_seti h3 a0 13 (1 : Int32)))) rfl ?_
        refine qm_Ret.lets (F := fun h6 => (238, [some (qm_r 0 12 a0), some (qm_i xd1), some (qm_i x2)], [], h6)) (G := qm_Gv) ho (fun h6 ho => ?_)
        cases ho
        exact qm_Ret.ret 2 rfl
      · rw [if_neg hc] at ho
        refine qm_Ret.sts 2 (f' := (238, [some (qm_r 0 12 a0), some (qm_i xd1), some (qm_i x2)], [], (qm_seti h3 a0 13 (3 : Int32)))) rfl ?_
        refine qm_Ret.lets (F := fun h5 => (238, [some (qm_r 0 12 a0), some (qm_i xd1), some (qm_i x2)], [], h5)) (G := qm_Gv) ho (fun h5 ho => ?_)
        cases ho
        exact qm_Ret.ret 2 rfl
    · rw [if_neg hc] at ho
      refine qm_Ret.sts 3 (f' := (180, [some (qm_r 0 12 a0), some (qm_i xd1), some (qm_i x2)], [qm_i (2 : Int32), qm_i x2, qm_r 0 12 a0], h3)) rfl ?_
      refine qm_Ret.ge (t := 201) (e := 183) rfl (fun hc => ?_) (fun hc => ?_)
      · rw [if_pos hc] at ho
        refine qm_Ret.sts 5 (f' := (191, [some (qm_r 0 12 a0), some (qm_i xd1), some (qm_i x2)], [qm_r 0 12 a0, qm_i ((10 : Int32) * (h3.1 a0 14)), qm_r 0 12 a0], h3)) rfl ?_
        obtain ⟨r10, h9, hr, ho⟩ := qm_b2e ho
        refine qm_Ret.call (X := wX12_see [qm_r 0 12 a0] h3) (o1 := (some (qm_i r10), h9)) (qm_mp (G := qm_Gi) hr) rfl ?_
        show qm_Ret _ (194, [some (qm_r 0 12 a0), some (qm_i xd1), some (qm_i x2)], [qm_i r10, qm_i ((10 : Int32) * (h3.1 a0 14)), qm_r 0 12 a0], h9) _
        refine qm_Ret.sts 5 (f' := (208, [some (qm_r 0 12 a0), some (qm_i xd1), some (qm_i x2)], [], (qm_seti h9 a0 14 ((((10 : Int32) * (h3.1 a0 14)) + r10) - (48 : Int32))))) rfl ?_
        refine qm_Ret.lets (F := fun h11 => (208, [some (qm_r 0 12 a0), some (qm_i xd1), some (qm_i x2)], [], h11)) (G := qm_Gv) ho (fun h11 ho => ?_)
        refine qm_Ret.sts 6 (f' := (218, [some (qm_r 0 12 a0), some (qm_i xd1), some (qm_i x2)], [], (qm_seti h11 a0 10 ((h11.1 a0 10) + (1 : Int32))))) rfl ?_
        refine qm_Ret.lets (F := fun h12 => (218, [some (qm_r 0 12 a0), some (qm_i xd1), some (qm_i x2)], [], h12)) (G := qm_Gv) ho (fun h12 ho => ?_)
        refine qm_Ret.sts 2 (f' := (163, [some (qm_r 0 12 a0), some (qm_i xd1), some (qm_i (x2 + (1 : Int32)))], [], h12)) rfl ?_
        exact ih ho
      · rw [if_neg hc] at ho
        refine qm_Ret.sts 3 (f' := (208, [some (qm_r 0 12 a0), some (qm_i xd1), some (qm_i x2)], [], (qm_seti h3 a0 14 (h3.1 a0 14)))) rfl ?_
        refine qm_Ret.lets (F := fun h7 => (208, [some (qm_r 0 12 a0), some (qm_i xd1), some (qm_i x2)], [], h7)) (G := qm_Gv) ho (fun h7 ho => ?_)
        refine qm_Ret.sts 6 (f' := (218, [some (qm_r 0 12 a0), some (qm_i xd1), some (qm_i x2)], [], (qm_seti h7 a0 10 ((h7.1 a0 10) + (1 : Int32))))) rfl ?_
        refine qm_Ret.lets (F := fun h8 => (218, [some (qm_r 0 12 a0), some (qm_i xd1), some (qm_i x2)], [], h8)) (G := qm_Gv) ho (fun h8 ho => ?_)
        refine qm_Ret.sts 2 (f' := (163, [some (qm_r 0 12 a0), some (qm_i xd1), some (qm_i (x2 + (1 : Int32)))], [], h8)) rfl ?_
        exact ih ho
set_option maxRecDepth 20000 in
set_option maxHeartbeats 2000000 in
theorem rX12_token_74   : ∀ {fuel : Nat} {a0 : Nat} {x2 : Int32} {xd1 : Int32} {h : qm_H} {r : qm_H}, qX12_token_74  fuel a0 x2 h = some r → qm_Ret mX12_token (74, [some (qm_r 0 12 a0), some (qm_i xd1), some (qm_i x2)], [], h) (qm_Gv r) := by
  intro fuel
  induction fuel with
  | zero => intros; rename_i ho; cases ho
  | succ n ih =>
    intro a0 x2 xd1 h r ho
    unfold qX12_token_74 at ho
    refine qm_Ret.sts 1 (f' := (75, [some (qm_r 0 12 a0), some (qm_i xd1), some (qm_i x2)], [qm_r 0 12 a0], h)) rfl ?_
    obtain ⟨r2, h1, hr, ho⟩ := qm_b2e ho
    refine qm_Ret.call (X := wX12_see [qm_r 0 12 a0] h) (o1 := (some (qm_i r2), h1)) (qm_mp (G := qm_Gi) hr) rfl ?_
    show qm_Ret _ (78, [some (qm_r 0 12 a0), some (qm_i xd1), some (qm_i x2)], [qm_i r2], h1) _
    refine qm_Ret.sts 2 (f' := (82, [some (qm_r 0 12 a0), some (qm_i xd1), some (qm_i x2)], [qm_i (122 : Int32), qm_i (97 : Int32), qm_i r2], h1)) rfl ?_
    obtain ⟨r4, h3, hr, ho⟩ := qm_b2e ho
    refine qm_Ret.call (X := wX12_in [qm_i r2, qm_i (97 : Int32), qm_i (122 : Int32)] h1) (o1 := (some (qm_i r4), h3)) (qm_mp (G := qm_Gi) hr) rfl ?_
    show qm_Ret _ (85, [some (qm_r 0 12 a0), some (qm_i xd1), some (qm_i x2)], [qm_i r4], h3) _
    refine qm_Ret.eq (t := 121) (e := 88) rfl (fun hc => ?_) (fun hc => ?_)
    · rw [if_pos hc] at ho
      refine qm_Ret.sts 3 (f' := (125, [some (qm_r 0 12 a0), some (qm_i xd1), some (qm_i x2)], [qm_i (8 : Int32), qm_i x2, qm_r 0 12 a0], h3)) rfl ?_
      refine qm_Ret.le (t := 132) (e := 128) rfl (fun hc => ?_) (fun hc => ?_)
      · rw [if_pos hc] at ho
        refine qm_Ret.sts 3 (f' := (139, [some (qm_r 0 12 a0), some (qm_i xd1), some (qm_i x2)], [], (qm_setl h3 a0 15 (0 : Int64)))) rfl ?_
        refine qm_Ret.lets (F := fun h7 => (139, [some (qm_r 0 12 a0), some (qm_i xd1), some (qm_i x2)], [], h7)) (G := qm_Gv) ho (fun h7 ho => ?_)
        refine qm_Ret.sts 3 (f' := (144, [some (qm_r 0 12 a0), some (qm_i xd1), some (qm_i x2)], [], (qm_seti h7 a0 13 (2 : Int32)))) rfl ?_
        refine qm_Ret.lets (F := fun h8 => (144, [some (qm_r 0 12 a0), some (qm_i xd1), some (qm_i x2)], [], h8)) (G := qm_Gv) ho (fun h8 ho => ?_)
        cases ho
        exact qm_Ret.ret 2 rfl
      · rw [if_neg hc] at ho
        refine qm_Ret.sts 3 (f' := (139, [some (qm_r 0 12 a0), some (qm_i xd1), some (qm_i x2)], [], (qm_setl h3 a0 15 (h3.2 a0 15)))) rfl ?_
        refine qm_Ret.lets (F := fun h5 => (139, [some (qm_r 0 12 a0), some (qm_i xd1), some (qm_i x2)], [], h5)) (G := qm_Gv) ho (fun h5 ho => ?_)
        refine qm_Ret.sts 3 (f' := (144, [some (qm_r 0 12 a0), some (qm_i xd1), some (qm_i x2)], [], (qm_seti h5 a0 13 (2 : Int32)))) rfl ?_
        refine qm_Ret.lets (F := fun h6 => (144, [some (qm_r 0 12 a0), some (qm_i xd1), some (qm_i x2)], [], h6)) (G := qm_Gv) ho (fun h6 ho => ?_)
        cases ho
        exact qm_Ret.ret 2 rfl
    · rw [if_neg hc] at ho
      refine qm_Ret.sts 6 (f' := (97, [some (qm_r 0 12 a0), some (qm_i xd1), some (qm_i x2)], [qm_r 0 12 a0, qm_l (qm_lshl (h3.2 a0 15) (8 : Int32)), qm_r 0 12 a0], h3)) rfl ?_
      obtain ⟨r10, h9, hr, ho⟩ := qm_b2e ho
      refine qm_Ret.call (X := wX12_see [qm_r 0 12 a0] h3) (o1 := (some (qm_i r10), h9)) (qm_mp (G := qm_Gi) hr) rfl ?_
      show qm_Ret _ (100, [some (qm_r 0 12 a0), some (qm_i xd1), some (qm_i x2)], [qm_i r10, qm_l (qm_lshl (h3.2 a0 15) (8 : Int32)), qm_r 0 12 a0], h9) _
      refine qm_Ret.sts 3 (f' := (105, [some (qm_r 0 12 a0), some (qm_i xd1), some (qm_i x2)], [], (qm_setl h9 a0 15 ((qm_lshl (h3.2 a0 15) (8 : Int32)) ||| (r10).toInt64)))) rfl ?_
      refine qm_Ret.lets (F := fun h11 => (105, [some (qm_r 0 12 a0), some (qm_i xd1), some (qm_i x2)], [], h11)) (G := qm_Gv) ho (fun h11 ho => ?_)
      refine qm_Ret.sts 6 (f' := (115, [some (qm_r 0 12 a0), some (qm_i xd1), some (qm_i x2)], [], (qm_seti h11 a0 10 ((h11.1 a0 10) + (1 : Int32))))) rfl ?_
      refine qm_Ret.lets (F := fun h12 => (115, [some (qm_r 0 12 a0), some (qm_i xd1), some (qm_i x2)], [], h12)) (G := qm_Gv) ho (fun h12 ho => ?_)
      refine qm_Ret.sts 2 (f' := (74, [some (qm_r 0 12 a0), some (qm_i xd1), some (qm_i (x2 + (1 : Int32)))], [], h12)) rfl ?_
      exact ih ho
set_option maxRecDepth 20000 in
set_option maxHeartbeats 2000000 in
theorem rX12_token_0   : ∀ {fuel : Nat} {a0 : Nat} {h : qm_H} {r : qm_H}, qX12_token_0  fuel a0 h = some r → qm_Ret mX12_token (0, [some (qm_r 0 12 a0), none, none], [], h) (qm_Gv r) := by
  intro fuel
  induction fuel with
  | zero => intros; rename_i ho; cases ho
  | succ n ih =>
    intro a0 h r ho
    unfold qX12_token_0 at ho
    refine qm_Ret.sts 1 (f' := (1, [some (qm_r 0 12 a0), none, none], [qm_r 0 12 a0], h)) rfl ?_
    obtain ⟨r2, h1, hr, ho⟩ := qm_b2e ho
    refine qm_Ret.call (X := wX12_see [qm_r 0 12 a0] h) (o1 := (some (qm_i r2), h1)) (qm_mp (G := qm_Gi) hr) rfl ?_
    show qm_Ret _ (4, [some (qm_r 0 12 a0), none, none], [qm_i r2], h1) _
    refine qm_Ret.sts 1 (f' := (6, [some (qm_r 0 12 a0), none, none], [qm_i (10 : Int32), qm_i r2], h1)) rfl ?_
    refine qm_Ret.eq (t := 18) (e := 9) rfl (fun hc => ?_) (fun hc => ?_)
    · rw [if_pos hc] at ho
      refine qm_Ret.sts 6 (f' := (28, [some (qm_r 0 12 a0), none, none], [], (qm_seti h1 a0 10 ((h1.1 a0 10) + (1 : Int32))))) rfl ?_
      refine qm_Ret.lets (F := fun h3 => (28, [some (qm_r 0 12 a0), none, none], [], h3)) (G := qm_Gv) ho (fun h3 ho => ?_)
      refine qm_Ret.sts 1 (f' := (0, [some (qm_r 0 12 a0), none, none], [], h3)) rfl ?_
      exact ih ho
    · rw [if_neg hc] at ho
      refine qm_Ret.sts 1 (f' := (10, [some (qm_r 0 12 a0), none, none], [qm_r 0 12 a0], h1)) rfl ?_
      obtain ⟨r5, h4, hr, ho⟩ := qm_b2e ho
      refine qm_Ret.call (X := wX12_see [qm_r 0 12 a0] h1) (o1 := (some (qm_i r5), h4)) (qm_mp (G := qm_Gi) hr) rfl ?_
      show qm_Ret _ (13, [some (qm_r 0 12 a0), none, none], [qm_i r5], h4) _
      refine qm_Ret.sts 1 (f' := (15, [some (qm_r 0 12 a0), none, none], [qm_i (32 : Int32), qm_i r5], h4)) rfl ?_
      refine qm_Ret.ne (t := 31) (e := 18) rfl (fun hc => ?_) (fun hc => ?_)
      · rw [if_pos hc] at ho
        refine qm_Ret.sts 6 (f' := (28, [some (qm_r 0 12 a0), none, none], [], (qm_seti h4 a0 10 ((h4.1 a0 10) + (1 : Int32))))) rfl ?_
        refine qm_Ret.lets (F := fun h18 => (28, [some (qm_r 0 12 a0), none, none], [], h18)) (G := qm_Gv) ho (fun h18 ho => ?_)
        refine qm_Ret.sts 1 (f' := (0, [some (qm_r 0 12 a0), none, none], [], h18)) rfl ?_
        exact ih ho
      · rw [if_neg hc] at ho
        refine qm_Ret.sts 4 (f' := (39, [some (qm_r 0 12 a0), none, none], [], (qm_seti h4 a0 12 (h4.1 a0 10)))) rfl ?_
        refine qm_Ret.lets (F := fun h6 => (39, [some (qm_r 0 12 a0), none, none], [], h6)) (G := qm_Gv) ho (fun h6 ho => ?_)
        refine qm_Ret.sts 1 (f' := (40, [some (qm_r 0 12 a0), none, none], [qm_r 0 12 a0], h6)) rfl ?_
        obtain ⟨r8, h7, hr, ho⟩ := qm_b2e ho
        refine qm_Ret.call (X := wX12_see [qm_r 0 12 a0] h6) (o1 := (some (qm_i r8), h7)) (qm_mp (G := qm_Gi) hr) rfl ?_
        show qm_Ret _ (43, [some (qm_r 0 12 a0), none, none], [qm_i r8], h7) _
        refine qm_Ret.sts 4 (f' := (49, [some (qm_r 0 12 a0), some (qm_i r8), none], [], (qm_setl h7 a0 15 (0 : Int64)))) rfl ?_
        refine qm_Ret.lets (F := fun h9 => (49, [some (qm_r 0 12 a0), some (qm_i r8), none], [], h9)) (G := qm_Gv) ho (fun h9 ho => ?_)
        refine qm_Ret.sts 3 (f' := (52, [some (qm_r 0 12 a0), some (qm_i r8), some (qm_i (0 : Int32))], [qm_i r8], h9)) rfl ?_
        refine qm_Ret.ge (t := 63) (e := 55) rfl (fun hc => ?_) (fun hc => ?_)
        · rw [if_pos hc] at ho
          refine qm_Ret.sts 3 (f' := (60, [some (qm_r 0 12 a0), some (qm_i r8), some (qm_i (0 : Int32))], [], (qm_seti h9 a0 13 (0 : Int32)))) rfl ?_
          refine qm_Ret.lets (F := fun h17 => (60, [some (qm_r 0 12 a0), some (qm_i r8), some (qm_i (0 : Int32))], [], h17)) (G := qm_Gv) ho (fun h17 ho => ?_)
          cases ho
          exact qm_Ret.ret 2 rfl
        · rw [if_neg hc] at ho
          refine qm_Ret.sts 3 (f' := (68, [some (qm_r 0 12 a0), some (qm_i r8), some (qm_i (0 : Int32))], [qm_i (122 : Int32), qm_i (97 : Int32), qm_i r8], h9)) rfl ?_
          obtain ⟨r11, h10, hr, ho⟩ := qm_b2e ho
          refine qm_Ret.call (X := wX12_in [qm_i r8, qm_i (97 : Int32), qm_i (122 : Int32)] h9) (o1 := (some (qm_i r11), h10)) (qm_mp (G := qm_Gi) hr) rfl ?_
          show qm_Ret _ (71, [some (qm_r 0 12 a0), some (qm_i r8), some (qm_i (0 : Int32))], [qm_i r11], h10) _
          refine qm_Ret.eq (t := 147) (e := 74) rfl (fun hc => ?_) (fun hc => ?_)
          · rw [if_pos hc] at ho
            refine qm_Ret.sts 3 (f' := (152, [some (qm_r 0 12 a0), some (qm_i r8), some (qm_i (0 : Int32))], [qm_i (57 : Int32), qm_i (48 : Int32), qm_i r8], h10)) rfl ?_
            obtain ⟨r13, h12, hr, ho⟩ := qm_b2e ho
            refine qm_Ret.call (X := wX12_in [qm_i r8, qm_i (48 : Int32), qm_i (57 : Int32)] h10) (o1 := (some (qm_i r13), h12)) (qm_mp (G := qm_Gi) hr) rfl ?_
            show qm_Ret _ (155, [some (qm_r 0 12 a0), some (qm_i r8), some (qm_i (0 : Int32))], [qm_i r13], h12) _
            refine qm_Ret.eq (t := 241) (e := 158) rfl (fun hc => ?_) (fun hc => ?_)
            · rw [if_pos hc] at ho
              refine qm_Ret.sts 6 (f' := (251, [some (qm_r 0 12 a0), some (qm_i r8), some (qm_i (0 : Int32))], [], (qm_seti h12 a0 10 ((h12.1 a0 10) + (1 : Int32))))) rfl ?_
              refine qm_Ret.lets (F := fun h14 => (251, [some (qm_r 0 12 a0), some (qm_i r8), some (qm_i (0 : Int32))], [], h14)) (G := qm_Gv) ho (fun h14 ho => ?_)
              refine qm_Ret.sts 3 (f' := (255, [some (qm_r 0 12 a0), some (qm_i r8), some (qm_i (0 : Int32))], [qm_i (59 : Int32), qm_i r8, qm_r 0 12 a0], h14)) rfl ?_
              refine qm_Ret.ne (t := 262) (e := 258) rfl (fun hc => ?_) (fun hc => ?_)
              · rw [if_pos hc] at ho
                refine qm_Ret.sts 3 (f' := (266, [some (qm_r 0 12 a0), some (qm_i r8), some (qm_i (0 : Int32))], [], (qm_seti h14 a0 13 (4 : Int32)))) rfl ?_
                refine qm_Ret.lets (F := fun h16 => (266, [some (qm_r 0 12 a0), some (qm_i r8), some (qm_i (0 : Int32))], [], h16)) (G := qm_Gv) ho (fun h16 ho => ?_)
                cases ho
                exact qm_Ret.ret 1 rfl
              · rw [if_neg hc] at ho
                refine qm_Ret.sts 2 (f' := (266, [some (qm_r 0 12 a0), some (qm_i r8), some (qm_i (0 : Int32))], [], (qm_seti h14 a0 13 (1 : Int32)))) rfl ?_
                refine qm_Ret.lets (F := fun h15 => (266, [some (qm_r 0 12 a0), some (qm_i r8), some (qm_i (0 : Int32))], [], h15)) (G := qm_Gv) ho (fun h15 ho => ?_)
                cases ho
                exact qm_Ret.ret 1 rfl
            · rw [if_neg hc] at ho
              refine qm_Ret.sts 3 (f' := (163, [some (qm_r 0 12 a0), some (qm_i r8), some (qm_i (0 : Int32))], [], (qm_seti h12 a0 14 (0 : Int32)))) rfl ?_
              exact rX12_token_163 ho
          · rw [if_neg hc] at ho
            exact rX12_token_74 ho
theorem cX12_token_ok : ∀ q ∈ ([(114, 0, 1, wX12_see), (100, 2, 3, wX12_in)] : List (Nat × Nat × Nat × qm_C)), qm_CallOK RX12 1 22 q.2.1 q.1 q.2.2.1 q.2.2.2 := List.forall_mem_cons.mpr ⟨Or.inl ⟨yX12_see, cX12_see, 1, (some .int), 0, 0, _, sX12_see, ⟨by decide, by decide⟩, ⟨jX12_see, kRX12_114, uRX12⟩, ⟨by decide, by decide, rfl⟩, Or.inl ⟨rfl, rfl, iX12_see, recvX12_see⟩⟩, List.forall_mem_cons.mpr ⟨Or.inl ⟨yX12_in, cX12_in, 3, (some .boolean), 0, 0, _, sX12_in, ⟨by decide, by decide⟩, ⟨jX12_in, kRX12_100, uRX12⟩, ⟨by decide, by decide, rfl⟩, Or.inr (Or.inl ⟨rfl, rfl, iX12_in⟩)⟩, fun _ h => absurd h List.not_mem_nil⟩⟩
theorem sX12_token : qm_Snd yX12_token cX12_token 3 none 1 22 wX12_token := qm_met (fld := fun k => qm_lk k pfRX12) (con := fun k => qm_lk k pcRX12) (call := fun k => qm_lk k [(114, 0, 1, wX12_see), (100, 2, 3, wX12_in)]) (tab := qm_tab aX12_token) (plainFor_of_name (by decide)) (qm_fld_ok pfRX12_ok) (qm_con_ok pcRX12_ok) (fun idx kd n f hc => cX12_token_ok (idx, kd, n, f) (qm_lk_mem hc)) (qm_tab_ok aX12_token_ok) (fun vs h o hw => by
  unfold wX12_token at hw
  split at hw
  · obtain ⟨r, hr, rfl⟩ := Option.map_eq_some_iff.mp hw
    exact ⟨Nat.le_of_ble_eq_true rfl, rX12_token_0 (hr)⟩
  · cases hw)
theorem recvX12_token : ∀ vs h o, wX12_token vs h = some o → ∃ ci a rest, vs = qm_r 0 ci a :: rest ∧ qm_R ci = yX12_token.cls := by
  intro vs h o hw
  unfold wX12_token at hw
  split at hw
  · exact ⟨_, _, _, rfl, rfl⟩
  · cases hw
-- RX12 fails()Z
theorem jX12_fails : Jvm.Cond.code yX12_fails cX12_fails 1 (some .boolean) ∈ qm_all := List.mem_filter.mpr ⟨by decide +kernel, rfl⟩
theorem iX12_fails : Jvm.Cond.instanceMethod yX12_fails ∈ qm_all ∧ Jvm.Cond.selects yX12_fails.cls yX12_fails yX12_fails ∈ qm_all := ⟨List.mem_filter.mpr ⟨by decide +kernel, rfl⟩, List.mem_filter.mpr ⟨by decide +kernel, rfl⟩⟩
def wX12_fails : qm_C := fun vs h => match vs with
  | [.inr (.inr (some (0, 12, p0)))] => (qX12_fails p0 h).map qm_Gi
  | _ => none
def aX12_fails : List (Option (Instr × Nat)) := [some (.aload_n 0, 1), some (.aload_n 0, 1), some (.getfield 118, 3), none, none, some (.putfield 131, 3), none, none, some (.iconst 0, 1), some (.ireturn, 1)]
theorem aX12_fails_ok : qm_tabok cX12_fails aX12_fails = true := by decide +kernel
def mX12_fails : qm_M := ((some .boolean), (fun k => qm_lk k pfRX12), (fun k => qm_lk k pcRX12), (fun k => qm_lk k []), qm_tab aX12_fails)
set_option maxRecDepth 20000 in
set_option maxHeartbeats 2000000 in
theorem rX12_fails_0   {a0 : Nat} {h : qm_H} {r : Int32 × qm_H} (ho : qX12_fails  a0 h = some r) : qm_Ret mX12_fails (0, [some (qm_r 0 12 a0)], [], h) (qm_Gi r) := by
  unfold qX12_fails at ho
  refine qm_Ret.sts 4 (f' := (8, [some (qm_r 0 12 a0)], [], (qm_seti h a0 16 (h.1 a0 12)))) rfl ?_
  refine qm_Ret.lets (F := fun h1 => (8, [some (qm_r 0 12 a0)], [], h1)) (G := qm_Gi) ho (fun h1 ho => ?_)
  cases ho
  exact qm_Ret.ret 2 rfl
theorem cX12_fails_ok : ∀ q ∈ ([] : List (Nat × Nat × Nat × qm_C)), qm_CallOK RX12 0 0 q.2.1 q.1 q.2.2.1 q.2.2.2 := fun _ h => absurd h List.not_mem_nil
theorem sX12_fails : qm_Snd yX12_fails cX12_fails 1 (some .boolean) 0 0 wX12_fails := qm_met (fld := fun k => qm_lk k pfRX12) (con := fun k => qm_lk k pcRX12) (call := fun k => qm_lk k []) (tab := qm_tab aX12_fails) (plainFor_of_name (by decide)) (qm_fld_ok pfRX12_ok) (qm_con_ok pcRX12_ok) (fun idx kd n f hc => cX12_fails_ok (idx, kd, n, f) (qm_lk_mem hc)) (qm_tab_ok aX12_fails_ok) (fun vs h o hw => by
  unfold wX12_fails at hw
  split at hw
  · obtain ⟨r, hr, rfl⟩ := Option.map_eq_some_iff.mp hw
    exact ⟨Nat.le_of_ble_eq_true rfl, rX12_fails_0 (hr)⟩
  · cases hw)
theorem recvX12_fails : ∀ vs h o, wX12_fails vs h = some o → ∃ ci a rest, vs = qm_r 0 ci a :: rest ∧ qm_R ci = yX12_fails.cls := by
  intro vs h o hw
  unfold wX12_fails at hw
  split at hw
  · exact ⟨_, _, _, rfl, rfl⟩
  · cases hw
-- RX12 later(II)V
theorem jX12_later : Jvm.Cond.code yX12_later cX12_later 3 none ∈ qm_all := List.mem_filter.mpr ⟨by decide +kernel, rfl⟩
theorem iX12_later : Jvm.Cond.instanceMethod yX12_later ∈ qm_all ∧ Jvm.Cond.selects yX12_later.cls yX12_later yX12_later ∈ qm_all := ⟨List.mem_filter.mpr ⟨by decide +kernel, rfl⟩, List.mem_filter.mpr ⟨by decide +kernel, rfl⟩⟩
def wX12_later : qm_C := fun vs h => match vs with
  | [.inr (.inr (some (0, 12, p0))), .inl p1, .inl p2] => (qX12_later p0 p1 p2 h).map qm_Gv
  | _ => none
def aX12_later : List (Option (Instr × Nat)) := [some (.aload_n 0, 1), some (.getfield 134, 3), none, none, some (.ifCond .eq 27, 3), none, none, some (.iload_n 2, 1), some (.aload_n 0, 1), some (.getfield 137, 3), none, none, some (.if_icmp .lt 19, 3), none, none, some (.iload_n 2, 1), some (.aload_n 0, 1), some (.getfield 137, 3), none, none, some (.if_icmp .ne 21, 3), none, none, some (.iload_n 1, 1), some (.aload_n 0, 1), some (.getfield 134, 3), none, none, some (.if_icmp .ge 13, 3), none, none, some (.aload_n 0, 1), some (.iload_n 1, 1), some (.putfield 134, 3), none, none, some (.aload_n 0, 1), some (.iload_n 2, 1), some (.putfield 137, 3), none, none, some (.return_, 1)]
theorem aX12_later_ok : qm_tabok cX12_later aX12_later = true := by decide +kernel
def mX12_later : qm_M := (none, (fun k => qm_lk k pfRX12), (fun k => qm_lk k pcRX12), (fun k => qm_lk k []), qm_tab aX12_later)
set_option maxRecDepth 20000 in
set_option maxHeartbeats 2000000 in
theorem rX12_later_0   {a0 : Nat} {x1 : Int32} {x2 : Int32} {h : qm_H} {r : qm_H} (ho : qX12_later  a0 x1 x2 h = some r) : qm_Ret mX12_later (0, [some (qm_r 0 12 a0), some (qm_i x1), some (qm_i x2)], [], h) (qm_Gv r) := by
  unfold qX12_later at ho
  refine qm_Ret.sts 2 (f' := (4, [some (qm_r 0 12 a0), some (qm_i x1), some (qm_i x2)], [qm_i (h.1 a0 17)], h)) rfl ?_
  refine qm_Ret.eq (t := 31) (e := 7) rfl (fun hc => ?_) (fun hc => ?_)
  · rw [if_pos hc] at ho
    refine qm_Ret.sts 6 (f' := (41, [some (qm_r 0 12 a0), some (qm_i x1), some (qm_i x2)], [], (qm_seti (qm_seti h a0 17 x1) a0 18 x2))) rfl ?_
    refine qm_Ret.lets (F := fun h1 => (41, [some (qm_r 0 12 a0), some (qm_i x1), some (qm_i x2)], [], h1)) (G := qm_Gv) ho (fun h1 ho => ?_)
    cases ho
    exact qm_Ret.ret 1 rfl
  · rw [if_neg hc] at ho
    refine qm_Ret.sts 3 (f' := (12, [some (qm_r 0 12 a0), some (qm_i x1), some (qm_i x2)], [qm_i (h.1 a0 18), qm_i x2], h)) rfl ?_
    refine qm_Ret.lt (t := 31) (e := 15) rfl (fun hc => ?_) (fun hc => ?_)
    · rw [if_pos hc] at ho
      refine qm_Ret.sts 6 (f' := (41, [some (qm_r 0 12 a0), some (qm_i x1), some (qm_i x2)], [], (qm_seti (qm_seti h a0 17 x1) a0 18 x2))) rfl ?_
      refine qm_Ret.lets (F := fun h2 => (41, [some (qm_r 0 12 a0), some (qm_i x1), some (qm_i x2)], [], h2)) (G := qm_Gv) ho (fun h2 ho => ?_)
      cases ho
      exact qm_Ret.ret 1 rfl
    · rw [if_neg hc] at ho
      refine qm_Ret.sts 3 (f' := (20, [some (qm_r 0 12 a0), some (qm_i x1), some (qm_i x2)], [qm_i (h.1 a0 18), qm_i x2], h)) rfl ?_
      refine qm_Ret.ne (t := 41) (e := 23) rfl (fun hc => ?_) (fun hc => ?_)
      · rw [if_pos hc] at ho
        refine qm_Ret.sts 3 (f' := (28, [some (qm_r 0 12 a0), some (qm_i x1), some (qm_i x2)], [qm_i (h.1 a0 17), qm_i x1], h)) rfl ?_
        refine qm_Ret.ge (t := 41) (e := 31) rfl (fun hc => ?_) (fun hc => ?_)
        · rw [if_pos hc] at ho
          refine qm_Ret.sts 6 (f' := (41, [some (qm_r 0 12 a0), some (qm_i x1), some (qm_i x2)], [], (qm_seti (qm_seti h a0 17 x1) a0 18 x2))) rfl ?_
          refine qm_Ret.lets (F := fun h3 => (41, [some (qm_r 0 12 a0), some (qm_i x1), some (qm_i x2)], [], h3)) (G := qm_Gv) ho (fun h3 ho => ?_)
          cases ho
          exact qm_Ret.ret 1 rfl
        · rw [if_neg hc] at ho
          cases ho
          exact qm_Ret.ret 1 rfl
      · rw [if_neg hc] at ho
        cases ho
        exact qm_Ret.ret 1 rfl
theorem cX12_later_ok : ∀ q ∈ ([] : List (Nat × Nat × Nat × qm_C)), qm_CallOK RX12 0 0 q.2.1 q.1 q.2.2.1 q.2.2.2 := fun _ h => absurd h List.not_mem_nil
theorem sX12_later : qm_Snd yX12_later cX12_later 3 none 0 0 wX12_later := qm_met (fld := fun k => qm_lk k pfRX12) (con := fun k => qm_lk k pcRX12) (call := fun k => qm_lk k []) (tab := qm_tab aX12_later) (plainFor_of_name (by decide)) (qm_fld_ok pfRX12_ok) (qm_con_ok pcRX12_ok) (fun idx kd n f hc => cX12_later_ok (idx, kd, n, f) (qm_lk_mem hc)) (qm_tab_ok aX12_later_ok) (fun vs h o hw => by
  unfold wX12_later at hw
  split at hw
  · obtain ⟨r, hr, rfl⟩ := Option.map_eq_some_iff.mp hw
    exact ⟨Nat.le_of_ble_eq_true rfl, rX12_later_0 (hr)⟩
  · cases hw)
theorem recvX12_later : ∀ vs h o, wX12_later vs h = some o → ∃ ci a rest, vs = qm_r 0 ci a :: rest ∧ qm_R ci = yX12_later.cls := by
  intro vs h o hw
  unfold wX12_later at hw
  split at hw
  · exact ⟨_, _, _, rfl, rfl⟩
  · cases hw
-- RX12 take(III)Z
theorem jX12_take : Jvm.Cond.code yX12_take cX12_take 4 (some .boolean) ∈ qm_all := List.mem_filter.mpr ⟨by decide +kernel, rfl⟩
theorem iX12_take : Jvm.Cond.instanceMethod yX12_take ∈ qm_all ∧ Jvm.Cond.selects yX12_take.cls yX12_take yX12_take ∈ qm_all := ⟨List.mem_filter.mpr ⟨by decide +kernel, rfl⟩, List.mem_filter.mpr ⟨by decide +kernel, rfl⟩⟩
def wX12_take : qm_C := fun vs h => match vs with
  | [.inr (.inr (some (0, 12, p0))), .inl p1, .inl p2, .inl p3] => (qX12_take p0 p1 p2 p3 h).map qm_Gi
  | _ => none
def aX12_take : List (Option (Instr × Nat)) := [some (.aload_n 0, 1), some (.getfield 125, 3), none, none, some (.iconst 3, 1), some (.if_icmp .eq 8, 3), none, none, some (.aload_n 0, 1), some (.invokevirtual 140, 3), none, none, some (.ireturn, 1), some (.aload_n 0, 1), some (.getfield 41, 3), none, none, some (.iload_n 1, 1), some (.aload_n 0, 1), some (.getfield 128, 3), none, none, some (.iastore, 1), some (.aload_n 0, 1), some (.getfield 128, 3), none, none, some (.iload_n 2, 1), some (.iload_n 3, 1), some (.invokestatic 100, 3), none, none, some (.ifCond .ne 17, 3), none, none, some (.aload_n 0, 1), some (.iconst 2, 1), some (.aload_n 0, 1), some (.getfield 118, 3), none, none, some (.invokevirtual 144, 3), none, none, some (.aload_n 0, 1), some (.iconst 0, 1), some (.putfield 148, 3), none, none, some (.aload_n 0, 1), some (.invokevirtual 152, 3), none, none, some (.iconst 1, 1), some (.ireturn, 1)]
theorem aX12_take_ok : qm_tabok cX12_take aX12_take = true := by decide +kernel
def mX12_take : qm_M := ((some .boolean), (fun k => qm_lk k pfRX12), (fun k => qm_lk k pcRX12), (fun k => qm_lk k [(152, 0, 1, wX12_token), (100, 2, 3, wX12_in), (144, 0, 3, wX12_later), (140, 0, 1, wX12_fails)]), qm_tab aX12_take)
set_option maxRecDepth 20000 in
set_option maxHeartbeats 2000000 in
theorem rX12_take_49   {a0 : Nat} {xd1 : Int32} {xd2 : Int32} {xd3 : Int32} {h : qm_H} {r : Int32 × qm_H} (ho : qX12_take_49  a0 h = some r) : qm_Ret mX12_take (49, [some (qm_r 0 12 a0), some (qm_i xd1), some (qm_i xd2), some (qm_i xd3)], [], h) (qm_Gi r) := by
  unfold qX12_take_49 at ho
  refine qm_Ret.sts 1 (f' := (50, [some (qm_r 0 12 a0), some (qm_i xd1), some (qm_i xd2), some (qm_i xd3)], [qm_r 0 12 a0], h)) rfl ?_
  obtain ⟨h1, hr, ho⟩ := qm_bd ho
  refine qm_Ret.call (X := wX12_token [qm_r 0 12 a0] h) (o1 := (none, h1)) (qm_mp (G := qm_Gv) hr) rfl ?_
  show qm_Ret _ (53, [some (qm_r 0 12 a0), some (qm_i xd1), some (qm_i xd2), some (qm_i xd3)], [], h1) _
  cases ho
  exact qm_Ret.ret 2 rfl
set_option maxRecDepth 20000 in
set_option maxHeartbeats 2000000 in
theorem rX12_take_0   {a0 : Nat} {x1 : Int32} {x2 : Int32} {x3 : Int32} {h : qm_H} {r : Int32 × qm_H} (ho : qX12_take  a0 x1 x2 x3 h = some r) : qm_Ret mX12_take (0, [some (qm_r 0 12 a0), some (qm_i x1), some (qm_i x2), some (qm_i x3)], [], h) (qm_Gi r) := by
  unfold qX12_take at ho
  refine qm_Ret.sts 3 (f' := (5, [some (qm_r 0 12 a0), some (qm_i x1), some (qm_i x2), some (qm_i x3)], [qm_i (3 : Int32), qm_i (h.1 a0 13)], h)) rfl ?_
  refine qm_Ret.eq (t := 13) (e := 8) rfl (fun hc => ?_) (fun hc => ?_)
  · rw [if_pos hc] at ho
    refine qm_Ret.sts 5 (f' := (22, [some (qm_r 0 12 a0), some (qm_i x1), some (qm_i x2), some (qm_i x3)], [qm_i (h.1 a0 14), qm_i x1, qm_r 1 4 (a0 + 11)], h)) rfl ?_
    obtain ⟨hg, ho⟩ := qm_ifn ho
    refine qm_Ret.gn (f1 := (23, [some (qm_r 0 12 a0), some (qm_i x1), some (qm_i x2), some (qm_i x3)], [], (qm_seti h (a0 + 11) (x1).toNatClampNeg (h.1 a0 14)))) hg rfl ?_
    refine qm_Ret.lets (F := fun h1 => (23, [some (qm_r 0 12 a0), some (qm_i x1), some (qm_i x2), some (qm_i x3)], [], h1)) (G := qm_Gi) ho (fun h1 ho => ?_)
    refine qm_Ret.sts 4 (f' := (29, [some (qm_r 0 12 a0), some (qm_i x1), some (qm_i x2), some (qm_i x3)], [qm_i x3, qm_i x2, qm_i (h1.1 a0 14)], h1)) rfl ?_
    obtain ⟨r3, h2, hr, ho⟩ := qm_b2e ho
    refine qm_Ret.call (X := wX12_in [qm_i (h1.1 a0 14), qm_i x2, qm_i x3] h1) (o1 := (some (qm_i r3), h2)) (qm_mp (G := qm_Gi) hr) rfl ?_
    show qm_Ret _ (32, [some (qm_r 0 12 a0), some (qm_i x1), some (qm_i x2), some (qm_i x3)], [qm_i r3], h2) _
    refine qm_Ret.ne (t := 49) (e := 35) rfl (fun hc => ?_) (fun hc => ?_)
    · rw [if_pos hc] at ho
      refine qm_Ret.sts 4 (f' := (41, [some (qm_r 0 12 a0), some (qm_i x1), some (qm_i x2), some (qm_i x3)], [qm_i (h2.1 a0 12), qm_i (2 : Int32), qm_r 0 12 a0], h2)) rfl ?_
      obtain ⟨h4, hr, ho⟩ := qm_bd ho
      refine qm_Ret.call (X := wX12_later [qm_r 0 12 a0, qm_i (2 : Int32), qm_i (h2.1 a0 12)] h2) (o1 := (none, h4)) (qm_mp (G := qm_Gv) hr) rfl ?_
      show qm_Ret _ (44, [some (qm_r 0 12 a0), some (qm_i x1), some (qm_i x2), some (qm_i x3)], [], h4) _
      refine qm_Ret.sts 3 (f' := (49, [some (qm_r 0 12 a0), some (qm_i x1), some (qm_i x2), some (qm_i x3)], [], (qm_seti h4 a0 23 (0 : Int32)))) rfl ?_
      exact rX12_take_49 ho
    · rw [if_neg hc] at ho
      exact rX12_take_49 ho
  · rw [if_neg hc] at ho
    refine qm_Ret.sts 1 (f' := (9, [some (qm_r 0 12 a0), some (qm_i x1), some (qm_i x2), some (qm_i x3)], [qm_r 0 12 a0], h)) rfl ?_
    obtain ⟨r6, h5, hr, ho⟩ := qm_b2e ho
    refine qm_Ret.call (X := wX12_fails [qm_r 0 12 a0] h) (o1 := (some (qm_i r6), h5)) (qm_mp (G := qm_Gi) hr) rfl ?_
    show qm_Ret _ (12, [some (qm_r 0 12 a0), some (qm_i x1), some (qm_i x2), some (qm_i x3)], [qm_i r6], h5) _
    obtain ⟨hz, ho⟩ := qm_if ho
    cases ho
    exact qm_Ret.gr hz rfl
theorem cX12_take_ok : ∀ q ∈ ([(152, 0, 1, wX12_token), (100, 2, 3, wX12_in), (144, 0, 3, wX12_later), (140, 0, 1, wX12_fails)] : List (Nat × Nat × Nat × qm_C)), qm_CallOK RX12 2 44 q.2.1 q.1 q.2.2.1 q.2.2.2 := List.forall_mem_cons.mpr ⟨Or.inl ⟨yX12_token, cX12_token, 3, none, 1, 22, _, sX12_token, ⟨by decide, by decide⟩, ⟨jX12_token, kRX12_152, uRX12⟩, ⟨by decide, by decide, rfl⟩, Or.inl ⟨rfl, rfl, iX12_token, recvX12_token⟩⟩, List.forall_mem_cons.mpr ⟨Or.inl ⟨yX12_in, cX12_in, 3, (some .boolean), 0, 0, _, sX12_in, ⟨by decide, by decide⟩, ⟨jX12_in, kRX12_100, uRX12⟩, ⟨by decide, by decide, rfl⟩, Or.inr (Or.inl ⟨rfl, rfl, iX12_in⟩)⟩, List.forall_mem_cons.mpr ⟨Or.inl ⟨yX12_later, cX12_later, 3, none, 0, 0, _, sX12_later, ⟨by decide, by decide⟩, ⟨jX12_later, kRX12_144, uRX12⟩, ⟨by decide, by decide, rfl⟩, Or.inl ⟨rfl, rfl, iX12_later, recvX12_later⟩⟩, List.forall_mem_cons.mpr ⟨Or.inl ⟨yX12_fails, cX12_fails, 1, (some .boolean), 0, 0, _, sX12_fails, ⟨by decide, by decide⟩, ⟨jX12_fails, kRX12_140, uRX12⟩, ⟨by decide, by decide, rfl⟩, Or.inl ⟨rfl, rfl, iX12_fails, recvX12_fails⟩⟩, fun _ h => absurd h List.not_mem_nil⟩⟩⟩⟩
theorem sX12_take : qm_Snd yX12_take cX12_take 4 (some .boolean) 2 44 wX12_take := qm_met (fld := fun k => qm_lk k pfRX12) (con := fun k => qm_lk k pcRX12) (call := fun k => qm_lk k [(152, 0, 1, wX12_token), (100, 2, 3, wX12_in), (144, 0, 3, wX12_later), (140, 0, 1, wX12_fails)]) (tab := qm_tab aX12_take) (plainFor_of_name (by decide)) (qm_fld_ok pfRX12_ok) (qm_con_ok pcRX12_ok) (fun idx kd n f hc => cX12_take_ok (idx, kd, n, f) (qm_lk_mem hc)) (qm_tab_ok aX12_take_ok) (fun vs h o hw => by
  unfold wX12_take at hw
  split at hw
  · obtain ⟨r, hr, rfl⟩ := Option.map_eq_some_iff.mp hw
    exact ⟨Nat.le_of_ble_eq_true rfl, rX12_take_0 (hr)⟩
  · cases hw)
theorem recvX12_take : ∀ vs h o, wX12_take vs h = some o → ∃ ci a rest, vs = qm_r 0 ci a :: rest ∧ qm_R ci = yX12_take.cls := by
  intro vs h o hw
  unfold wX12_take at hw
  split at hw
  · exact ⟨_, _, _, rfl, rfl⟩
  · cases hw
