-- RX0 crowdedColumn()I
theorem jX0_crowdedColumn : Jvm.Cond.code yX0_crowdedColumn cX0_crowdedColumn 3 (some .int) ∈ qm_all := List.mem_filter.mpr ⟨by decide +kernel, rfl⟩
theorem iX0_crowdedColumn : Jvm.Cond.instanceMethod yX0_crowdedColumn ∈ qm_all ∧ Jvm.Cond.selects yX0_crowdedColumn.cls yX0_crowdedColumn yX0_crowdedColumn ∈ qm_all := ⟨List.mem_filter.mpr ⟨by decide +kernel, rfl⟩, List.mem_filter.mpr ⟨by decide +kernel, rfl⟩⟩
def wX0_crowdedColumn : qm_C := fun vs h => match vs with
  | [.inr (.inr (some (0, 0, p0)))] => (qX0_crowdedColumn p0 h).map qm_Gi
  | _ => none
def aX0_crowdedColumn : List (Option (Instr × Nat)) := [some (.iconst 0, 1), some (.istore_n 1, 1), some (.iconst 1, 1), some (.istore_n 2, 1), some (.iload_n 2, 1), some (.aload_n 0, 1), some (.getfield 21, 3), none, none, some (.if_icmp .ge 42, 3), none, none, some (.aload_n 0, 1), some (.iconst 0, 1), some (.iload_n 2, 1), some (.iconst 1, 1), some (.aload_n 0, 1), some (.getfield 25, 3), none, none, some (.invokestatic 84, 3), none, none, some (.invokevirtual 124, 3), none, none, some (.aload_n 0, 1), some (.iconst 0, 1), some (.iload_n 1, 1), some (.iconst 1, 1), some (.aload_n 0, 1), some (.getfield 25, 3), none, none, some (.invokestatic 84, 3), none, none, some (.invokevirtual 124, 3), none, none, some (.if_icmp .le 5, 3), none, none, some (.iload_n 2, 1), some (.istore_n 1, 1), some (.iinc 2 1, 3), none, none, some (.goto (-44), 3), none, none, some (.iload_n 1, 1), some (.ireturn, 1)]
theorem aX0_crowdedColumn_ok : qm_tabok cX0_crowdedColumn aX0_crowdedColumn = true := by decide +kernel
def mX0_crowdedColumn : qm_M := ((some .int), (fun k => qm_lk k pfRX0), (fun k => qm_lk k pcRX0), (fun k => qm_lk k [(84, 2, 4, wX0_block), (124, 0, 2, wX0_openIn)]), qm_tab aX0_crowdedColumn)
set_option maxRecDepth 20000 in
set_option maxHeartbeats 2000000 in
theorem rX0_crowdedColumn_4   : ∀ {fuel : Nat} {a0 : Nat} {x1 : Int32} {x2 : Int32} {h : qm_H} {r : Int32 × qm_H}, qX0_crowdedColumn_4  fuel a0 x1 x2 h = some r → qm_Ret mX0_crowdedColumn (4, [some (qm_r 0 0 a0), some (qm_i x1), some (qm_i x2)], [], h) (qm_Gi r) := by
  intro fuel
  induction fuel with
  | zero => intros; rename_i ho; cases ho
  | succ n ih =>
    intro a0 x1 x2 h r ho
    unfold qX0_crowdedColumn_4 at ho
    refine qm_Ret.sts 3 (f' := (9, [some (qm_r 0 0 a0), some (qm_i x1), some (qm_i x2)], [qm_i (h.1 a0 3), qm_i x2], h)) rfl ?_
    refine qm_Ret.ge (t := 51) (e := 12) rfl (fun hc => ?_) (fun hc => ?_)
    · rw [if_pos hc] at ho
      refine qm_Ret.sts 6 (f' := (20, [some (qm_r 0 0 a0), some (qm_i x1), some (qm_i x2)], [qm_i (h.1 a0 4), qm_i (1 : Int32), qm_i x2, qm_i (0 : Int32), qm_r 0 0 a0], h)) rfl ?_
      obtain ⟨r2, h1, hr, ho⟩ := qm_b2e ho
      refine qm_Ret.call (X := wX0_block [qm_i (0 : Int32), qm_i x2, qm_i (1 : Int32), qm_i (h.1 a0 4)] h) (o1 := (some (qm_l r2), h1)) (qm_mp (G := qm_Gl) hr) rfl ?_
      show qm_Ret _ (23, [some (qm_r 0 0 a0), some (qm_i x1), some (qm_i x2)], [qm_l r2, qm_r 0 0 a0], h1) _
      obtain ⟨r4, h3, hr, ho⟩ := qm_b2e ho
      refine qm_Ret.call (X := wX0_openIn [qm_r 0 0 a0, qm_l r2] h1) (o1 := (some (qm_i r4), h3)) (qm_mp (G := qm_Gi) hr) rfl ?_
      show qm_Ret _ (26, [some (qm_r 0 0 a0), some (qm_i x1), some (qm_i x2)], [qm_i r4], h3) _
      refine qm_Ret.sts 6 (f' := (34, [some (qm_r 0 0 a0), some (qm_i x1), some (qm_i x2)], [qm_i (h3.1 a0 4), qm_i (1 : Int32), qm_i x1, qm_i (0 : Int32), qm_r 0 0 a0, qm_i r4], h3)) rfl ?_
      obtain ⟨r6, h5, hr, ho⟩ := qm_b2e ho
      refine qm_Ret.call (X := wX0_block [qm_i (0 : Int32), qm_i x1, qm_i (1 : Int32), qm_i (h3.1 a0 4)] h3) (o1 := (some (qm_l r6), h5)) (qm_mp (G := qm_Gl) hr) rfl ?_
      show qm_Ret _ (37, [some (qm_r 0 0 a0), some (qm_i x1), some (qm_i x2)], [qm_l r6, qm_r 0 0 a0, qm_i r4], h5) _
      obtain ⟨r8, h7, hr, ho⟩ := qm_b2e ho
      refine qm_Ret.call (X := wX0_openIn [qm_r 0 0 a0, qm_l r6] h5) (o1 := (some (qm_i r8), h7)) (qm_mp (G := qm_Gi) hr) rfl ?_
      show qm_Ret _ (40, [some (qm_r 0 0 a0), some (qm_i x1), some (qm_i x2)], [qm_i r8, qm_i r4], h7) _
      refine qm_Ret.le (t := 45) (e := 43) rfl (fun hc => ?_) (fun hc => ?_)
      · rw [if_pos hc] at ho
        refine qm_Ret.sts 4 (f' := (4, [some (qm_r 0 0 a0), some (qm_i x2), some (qm_i (x2 + (1 : Int32)))], [], h7)) rfl ?_
        exact ih ho
      · rw [if_neg hc] at ho
        refine qm_Ret.sts 2 (f' := (4, [some (qm_r 0 0 a0), some (qm_i x1), some (qm_i (x2 + (1 : Int32)))], [], h7)) rfl ?_
        exact ih ho
    · rw [if_neg hc] at ho
      cases ho
      exact qm_Ret.ret 2 rfl
set_option maxRecDepth 20000 in
set_option maxHeartbeats 2000000 in
theorem rX0_crowdedColumn_0   {a0 : Nat} {h : qm_H} {r : Int32 × qm_H} (ho : qX0_crowdedColumn  a0 h = some r) : qm_Ret mX0_crowdedColumn (0, [some (qm_r 0 0 a0), none, none], [], h) (qm_Gi r) := by
  unfold qX0_crowdedColumn at ho
  refine qm_Ret.sts 4 (f' := (4, [some (qm_r 0 0 a0), some (qm_i (0 : Int32)), some (qm_i (1 : Int32))], [], h)) rfl ?_
  exact rX0_crowdedColumn_4 ho
theorem cX0_crowdedColumn_ok : ∀ q ∈ ([(84, 2, 4, wX0_block), (124, 0, 2, wX0_openIn)] : List (Nat × Nat × Nat × qm_C)), qm_CallOK RX0 2 43 q.2.1 q.1 q.2.2.1 q.2.2.2 := List.forall_mem_cons.mpr ⟨Or.inl ⟨yX0_block, cX0_block, 9, (some .long), 0, 0, _, sX0_block, ⟨by decide, by decide⟩, ⟨jX0_block, kRX0_84, uRX0⟩, ⟨by decide, by decide, rfl⟩, Or.inr (Or.inl ⟨rfl, rfl, iX0_block⟩)⟩, List.forall_mem_cons.mpr ⟨Or.inl ⟨yX0_openIn, cX0_openIn, 3, (some .int), 1, 21, _, sX0_openIn, ⟨by decide, by decide⟩, ⟨jX0_openIn, kRX0_124, uRX0⟩, ⟨by decide, by decide, rfl⟩, Or.inl ⟨rfl, rfl, iX0_openIn, recvX0_openIn⟩⟩, fun _ h => absurd h List.not_mem_nil⟩⟩
theorem sX0_crowdedColumn : qm_Snd yX0_crowdedColumn cX0_crowdedColumn 3 (some .int) 2 43 wX0_crowdedColumn := qm_met (fld := fun k => qm_lk k pfRX0) (con := fun k => qm_lk k pcRX0) (call := fun k => qm_lk k [(84, 2, 4, wX0_block), (124, 0, 2, wX0_openIn)]) (tab := qm_tab aX0_crowdedColumn) (plainFor_of_name (by decide)) (qm_fld_ok pfRX0_ok) (qm_con_ok pcRX0_ok) (fun idx kd n f hc => cX0_crowdedColumn_ok (idx, kd, n, f) (qm_lk_mem hc)) (qm_tab_ok aX0_crowdedColumn_ok) (fun vs h o hw => by
  unfold wX0_crowdedColumn at hw
  split at hw
  · obtain ⟨r, hr, rfl⟩ := Option.map_eq_some_iff.mp hw
    exact ⟨Nat.le_of_ble_eq_true rfl, rX0_crowdedColumn_0 (hr)⟩
  · cases hw)
theorem recvX0_crowdedColumn : ∀ vs h o, wX0_crowdedColumn vs h = some o → ∃ ci a rest, vs = qm_r 0 ci a :: rest ∧ qm_R ci = yX0_crowdedColumn.cls := by
  intro vs h o hw
  unfold wX0_crowdedColumn at hw
  split at hw
  · exact ⟨_, _, _, rfl, rfl⟩
  · cases hw
-- RX1 begin()V
theorem jX1_begin : Jvm.Cond.code yX1_begin cX1_begin 1 none ∈ qm_all := List.mem_filter.mpr ⟨by decide +kernel, rfl⟩
theorem iX1_begin : Jvm.Cond.instanceMethod yX1_begin ∈ qm_all ∧ Jvm.Cond.selects yX1_begin.cls yX1_begin yX1_begin ∈ qm_all := ⟨List.mem_filter.mpr ⟨by decide +kernel, rfl⟩, List.mem_filter.mpr ⟨by decide +kernel, rfl⟩⟩
def wX1_begin : qm_C := fun vs h => match vs with
  | [.inr (.inr (some (0, 1, p0)))] => (qX1_begin p0 h).map qm_Gv
  | _ => none
def aX1_begin : List (Option (Instr × Nat)) := [some (.aload_n 0, 1), some (.bipush 6, 2), none, some (.putfield 17, 3), none, none, some (.aload_n 0, 1), some (.bipush 6, 2), none, some (.putfield 21, 3), none, none, some (.aload_n 0, 1), some (.iconst 0, 1), some (.putfield 24, 3), none, none, some (.return_, 1)]
theorem aX1_begin_ok : qm_tabok cX1_begin aX1_begin = true := by decide +kernel
def mX1_begin : qm_M := (none, (fun k => qm_lk k pfRX1), (fun k => qm_lk k pcRX1), (fun k => qm_lk k []), qm_tab aX1_begin)
set_option maxRecDepth 20000 in
set_option maxHeartbeats 2000000 in
theorem rX1_begin_0   {a0 : Nat} {h : qm_H} {r : qm_H} (ho : qX1_begin  a0 h = some r) : qm_Ret mX1_begin (0, [some (qm_r 0 1 a0)], [], h) (qm_Gv r) := by
  unfold qX1_begin at ho
  refine qm_Ret.sts 3 (f' := (6, [some (qm_r 0 1 a0)], [], (qm_seti h a0 1 (6 : Int32)))) rfl ?_
  refine qm_Ret.lets (F := fun h1 => (6, [some (qm_r 0 1 a0)], [], h1)) (G := qm_Gv) ho (fun h1 ho => ?_)
  refine qm_Ret.sts 3 (f' := (12, [some (qm_r 0 1 a0)], [], (qm_seti h1 a0 2 (6 : Int32)))) rfl ?_
  refine qm_Ret.lets (F := fun h2 => (12, [some (qm_r 0 1 a0)], [], h2)) (G := qm_Gv) ho (fun h2 ho => ?_)
  refine qm_Ret.sts 3 (f' := (17, [some (qm_r 0 1 a0)], [], (qm_seti h2 a0 3 (0 : Int32)))) rfl ?_
  refine qm_Ret.lets (F := fun h3 => (17, [some (qm_r 0 1 a0)], [], h3)) (G := qm_Gv) ho (fun h3 ho => ?_)
  cases ho
  exact qm_Ret.ret 1 rfl
theorem cX1_begin_ok : ∀ q ∈ ([] : List (Nat × Nat × Nat × qm_C)), qm_CallOK RX1 0 0 q.2.1 q.1 q.2.2.1 q.2.2.2 := fun _ h => absurd h List.not_mem_nil
theorem sX1_begin : qm_Snd yX1_begin cX1_begin 1 none 0 0 wX1_begin := qm_met (fld := fun k => qm_lk k pfRX1) (con := fun k => qm_lk k pcRX1) (call := fun k => qm_lk k []) (tab := qm_tab aX1_begin) (plainFor_of_name (by decide)) (qm_fld_ok pfRX1_ok) (qm_con_ok pcRX1_ok) (fun idx kd n f hc => cX1_begin_ok (idx, kd, n, f) (qm_lk_mem hc)) (qm_tab_ok aX1_begin_ok) (fun vs h o hw => by
  unfold wX1_begin at hw
  split at hw
  · obtain ⟨r, hr, rfl⟩ := Option.map_eq_some_iff.mp hw
    exact ⟨Nat.le_of_ble_eq_true rfl, rX1_begin_0 (hr)⟩
  · cases hw)
theorem recvX1_begin : ∀ vs h o, wX1_begin vs h = some o → ∃ ci a rest, vs = qm_r 0 ci a :: rest ∧ qm_R ci = yX1_begin.cls := by
  intro vs h o hw
  unfold wX1_begin at hw
  split at hw
  · exact ⟨_, _, _, rfl, rfl⟩
  · cases hw
-- RX1 take(LWillowLaw$Clues;)V
theorem jX1_take : Jvm.Cond.code yX1_take cX1_take 2 none ∈ qm_all := List.mem_filter.mpr ⟨by decide +kernel, rfl⟩
theorem iX1_take : Jvm.Cond.instanceMethod yX1_take ∈ qm_all ∧ Jvm.Cond.selects yX1_take.cls yX1_take yX1_take ∈ qm_all := ⟨List.mem_filter.mpr ⟨by decide +kernel, rfl⟩, List.mem_filter.mpr ⟨by decide +kernel, rfl⟩⟩
def wX1_take : qm_C := fun vs h => match vs with
  | [.inr (.inr (some (0, 1, p0))), .inr (.inr (some (0, 1, p1)))] => (qX1_take p0 p1 h).map qm_Gv
  | _ => none
def aX1_take : List (Option (Instr × Nat)) := [some (.aload_n 1, 1), some (.getfield 11, 3), none, none, some (.iconst 0, 1), some (.aload_n 0, 1), some (.getfield 11, 3), none, none, some (.iconst 0, 1), some (.bipush 30, 2), none, some (.invokestatic 27, 3), none, none, some (.aload_n 0, 1), some (.aload_n 1, 1), some (.getfield 17, 3), none, none, some (.putfield 17, 3), none, none, some (.aload_n 0, 1), some (.aload_n 1, 1), some (.getfield 21, 3), none, none, some (.putfield 21, 3), none, none, some (.aload_n 0, 1), some (.aload_n 1, 1), some (.getfield 24, 3), none, none, some (.putfield 24, 3), none, none, some (.return_, 1)]
theorem aX1_take_ok : qm_tabok cX1_take aX1_take = true := by decide +kernel
def mX1_take : qm_M := (none, (fun k => qm_lk k pfRX1), (fun k => qm_lk k pcRX1), (fun k => qm_lk k [(27, 2, 5, qm_cpy)]), qm_tab aX1_take)
set_option maxRecDepth 20000 in
set_option maxHeartbeats 2000000 in
theorem rX1_take_0   {a0 : Nat} {a1 : Nat} {h : qm_H} {r : qm_H} (ho : qX1_take  a0 a1 h = some r) : qm_Ret mX1_take (0, [some (qm_r 0 1 a0), some (qm_r 0 1 a1)], [], h) (qm_Gv r) := by
  unfold qX1_take at ho
  refine qm_Ret.sts 7 (f' := (12, [some (qm_r 0 1 a0), some (qm_r 0 1 a1)], [qm_i (30 : Int32), qm_i (0 : Int32), qm_r 1 30 (a0 + 1), qm_i (0 : Int32), qm_r 1 30 (a1 + 1)], h)) rfl ?_
  obtain ⟨h1, hr, ho⟩ := qm_bd ho
  refine qm_Ret.call (X := qm_cpy [qm_r 1 30 (a1 + 1), qm_i (0 : Int32), qm_r 1 30 (a0 + 1), qm_i (0 : Int32), qm_i (30 : Int32)] h) (o1 := (none, h1)) (qm_cpy_ok hr) rfl ?_
  show qm_Ret _ (15, [some (qm_r 0 1 a0), some (qm_r 0 1 a1)], [], h1) _
  refine qm_Ret.sts 4 (f' := (23, [some (qm_r 0 1 a0), some (qm_r 0 1 a1)], [], (qm_seti h1 a0 1 (h1.1 a1 1)))) rfl ?_
  refine qm_Ret.lets (F := fun h2 => (23, [some (qm_r 0 1 a0), some (qm_r 0 1 a1)], [], h2)) (G := qm_Gv) ho (fun h2 ho => ?_)
  refine qm_Ret.sts 4 (f' := (31, [some (qm_r 0 1 a0), some (qm_r 0 1 a1)], [], (qm_seti h2 a0 2 (h2.1 a1 2)))) rfl ?_
  refine qm_Ret.lets (F := fun h3 => (31, [some (qm_r 0 1 a0), some (qm_r 0 1 a1)], [], h3)) (G := qm_Gv) ho (fun h3 ho => ?_)
  refine qm_Ret.sts 4 (f' := (39, [some (qm_r 0 1 a0), some (qm_r 0 1 a1)], [], (qm_seti h3 a0 3 (h3.1 a1 3)))) rfl ?_
  refine qm_Ret.lets (F := fun h4 => (39, [some (qm_r 0 1 a0), some (qm_r 0 1 a1)], [], h4)) (G := qm_Gv) ho (fun h4 ho => ?_)
  cases ho
  exact qm_Ret.ret 1 rfl
theorem cX1_take_ok : ∀ q ∈ ([(27, 2, 5, qm_cpy)] : List (Nat × Nat × Nat × qm_C)), qm_CallOK RX1 1 60 q.2.1 q.1 q.2.2.1 q.2.2.2 := List.forall_mem_cons.mpr ⟨Or.inr ⟨rfl, rfl, rfl, by decide, by decide, kRX1_27⟩, fun _ h => absurd h List.not_mem_nil⟩
theorem sX1_take : qm_Snd yX1_take cX1_take 2 none 1 60 wX1_take := qm_met (fld := fun k => qm_lk k pfRX1) (con := fun k => qm_lk k pcRX1) (call := fun k => qm_lk k [(27, 2, 5, qm_cpy)]) (tab := qm_tab aX1_take) (plainFor_of_name (by decide)) (qm_fld_ok pfRX1_ok) (qm_con_ok pcRX1_ok) (fun idx kd n f hc => cX1_take_ok (idx, kd, n, f) (qm_lk_mem hc)) (qm_tab_ok aX1_take_ok) (fun vs h o hw => by
  unfold wX1_take at hw
  split at hw
  · obtain ⟨r, hr, rfl⟩ := Option.map_eq_some_iff.mp hw
    exact ⟨Nat.le_of_ble_eq_true rfl, rX1_take_0 (hr)⟩
  · cases hw)
theorem recvX1_take : ∀ vs h o, wX1_take vs h = some o → ∃ ci a rest, vs = qm_r 0 ci a :: rest ∧ qm_R ci = yX1_take.cls := by
  intro vs h o hw
  unfold wX1_take at hw
  split at hw
  · exact ⟨_, _, _, rfl, rfl⟩
  · cases hw
-- RX1 add(III)V
theorem jX1_add : Jvm.Cond.code yX1_add cX1_add 5 none ∈ qm_all := List.mem_filter.mpr ⟨by decide +kernel, rfl⟩
theorem iX1_add : Jvm.Cond.instanceMethod yX1_add ∈ qm_all ∧ Jvm.Cond.selects yX1_add.cls yX1_add yX1_add ∈ qm_all := ⟨List.mem_filter.mpr ⟨by decide +kernel, rfl⟩, List.mem_filter.mpr ⟨by decide +kernel, rfl⟩⟩
def wX1_add : qm_C := fun vs h => match vs with
  | [.inr (.inr (some (0, 1, p0))), .inl p1, .inl p2, .inl p3] => (qX1_add p0 p1 p2 p3 h).map qm_Gv
  | _ => none
def aX1_add : List (Option (Instr × Nat)) := [some (.aload_n 0, 1), some (.getfield 24, 3), none, none, some (.bipush 10, 2), none, some (.if_icmp .lt 4, 3), none, none, some (.return_, 1), some (.iconst 3, 1), some (.aload_n 0, 1), some (.getfield 24, 3), none, none, some (.imul, 1), some (.istore 4, 2), none, some (.aload_n 0, 1), some (.getfield 11, 3), none, none, some (.iload 4, 2), none, some (.iload_n 1, 1), some (.iastore, 1), some (.aload_n 0, 1), some (.getfield 11, 3), none, none, some (.iload 4, 2), none, some (.iconst 1, 1), some (.iadd, 1), some (.iload_n 2, 1), some (.iastore, 1), some (.aload_n 0, 1), some (.getfield 11, 3), none, none, some (.iload 4, 2), none, some (.iconst 2, 1), some (.iadd, 1), some (.iload_n 3, 1), some (.iastore, 1), some (.aload_n 0, 1), some (.dup, 1), some (.getfield 24, 3), none, none, some (.iconst 1, 1), some (.iadd, 1), some (.putfield 24, 3), none, none, some (.return_, 1)]
theorem aX1_add_ok : qm_tabok cX1_add aX1_add = true := by decide +kernel
def mX1_add : qm_M := (none, (fun k => qm_lk k pfRX1), (fun k => qm_lk k pcRX1), (fun k => qm_lk k []), qm_tab aX1_add)
set_option maxRecDepth 20000 in
set_option maxHeartbeats 2000000 in
theorem rX1_add_0   {a0 : Nat} {x1 : Int32} {x2 : Int32} {x3 : Int32} {h : qm_H} {r : qm_H} (ho : qX1_add  a0 x1 x2 x3 h = some r) : qm_Ret mX1_add (0, [some (qm_r 0 1 a0), some (qm_i x1), some (qm_i x2), some (qm_i x3), none], [], h) (qm_Gv r) := by
  unfold qX1_add at ho
  refine qm_Ret.sts 3 (f' := (6, [some (qm_r 0 1 a0), some (qm_i x1), some (qm_i x2), some (qm_i x3), none], [qm_i (10 : Int32), qm_i (h.1 a0 3)], h)) rfl ?_
  refine qm_Ret.lt (t := 10) (e := 9) rfl (fun hc => ?_) (fun hc => ?_)
  · rw [if_pos hc] at ho
    refine qm_Ret.sts 4 (f' := (16, [some (qm_r 0 1 a0), some (qm_i x1), some (qm_i x2), some (qm_i x3), none], [qm_i ((3 : Int32) * (h.1 a0 3))], h)) rfl ?_
    refine qm_Ret.lets (F := fun v1 => (16, [some (qm_r 0 1 a0), some (qm_i x1), some (qm_i x2), some (qm_i x3), none], [qm_i v1], h)) (G := qm_Gv) ho (fun v1 ho => ?_)
    refine qm_Ret.sts 5 (f' := (25, [some (qm_r 0 1 a0), some (qm_i x1), some (qm_i x2), some (qm_i x3), some (qm_i v1)], [qm_i x1, qm_i v1, qm_r 1 30 (a0 + 1)], h)) rfl ?_
    obtain ⟨hg, ho⟩ := qm_ifn ho
    refine qm_Ret.gn (f1 := (26, [some (qm_r 0 1 a0), some (qm_i x1), some (qm_i x2), some (qm_i x3), some (qm_i v1)], [], (qm_seti h (a0 + 1) (v1).toNatClampNeg x1))) hg rfl ?_
    refine qm_Ret.lets (F := fun h2 => (26, [some (qm_r 0 1 a0), some (qm_i x1), some (qm_i x2), some (qm_i x3), some (qm_i v1)], [], h2)) (G := qm_Gv) ho (fun h2 ho => ?_)
    refine qm_Ret.sts 6 (f' := (35, [some (qm_r 0 1 a0), some (qm_i x1), some (qm_i x2), some (qm_i x3), some (qm_i v1)], [qm_i x2, qm_i (v1 + (1 : Int32)), qm_r 1 30 (a0 + 1)], h2)) rfl ?_
    obtain ⟨hg, ho⟩ := qm_ifn ho
    refine qm_Ret.gn (f1 := (36, [some (qm_r 0 1 a0), some (qm_i x1), some (qm_i x2), some (qm_i x3), some (qm_i v1)], [], (qm_seti h2 (a0 + 1) (v1 + (1 : Int32)).toNatClampNeg x2))) hg rfl ?_
    refine qm_Ret.lets (F := fun h3 => (36, [some (qm_r 0 1 a0), some (qm_i x1), some (qm_i x2), some (qm_i x3), some (qm_i v1)], [], h3)) (G := qm_Gv) ho (fun h3 ho => ?_)
    refine qm_Ret.sts 6 (f' := (45, [some (qm_r 0 1 a0), some (qm_i x1), some (qm_i x2), some (qm_i x3), some (qm_i v1)], [qm_i x3, qm_i (v1 + (2 : Int32)), qm_r 1 30 (a0 + 1)], h3)) rfl ?_
    obtain ⟨hg, ho⟩ := qm_ifn ho
    refine qm_Ret.gn (f1 := (46, [some (qm_r 0 1 a0), some (qm_i x1), some (qm_i x2), some (qm_i x3), some (qm_i v1)], [], (qm_seti h3 (a0 + 1) (v1 + (2 : Int32)).toNatClampNeg x3))) hg rfl ?_
    refine qm_Ret.lets (F := fun h4 => (46, [some (qm_r 0 1 a0), some (qm_i x1), some (qm_i x2), some (qm_i x3), some (qm_i v1)], [], h4)) (G := qm_Gv) ho (fun h4 ho => ?_)
    refine qm_Ret.sts 6 (f' := (56, [some (qm_r 0 1 a0), some (qm_i x1), some (qm_i x2), some (qm_i x3), some (qm_i v1)], [], (qm_seti h4 a0 3 ((h4.1 a0 3) + (1 : Int32))))) rfl ?_
    refine qm_Ret.lets (F := fun h5 => (56, [some (qm_r 0 1 a0), some (qm_i x1), some (qm_i x2), some (qm_i x3), some (qm_i v1)], [], h5)) (G := qm_Gv) ho (fun h5 ho => ?_)
    cases ho
    exact qm_Ret.ret 1 rfl
  · rw [if_neg hc] at ho
    cases ho
    exact qm_Ret.ret 1 rfl
theorem cX1_add_ok : ∀ q ∈ ([] : List (Nat × Nat × Nat × qm_C)), qm_CallOK RX1 0 0 q.2.1 q.1 q.2.2.1 q.2.2.2 := fun _ h => absurd h List.not_mem_nil
theorem sX1_add : qm_Snd yX1_add cX1_add 5 none 0 0 wX1_add := qm_met (fld := fun k => qm_lk k pfRX1) (con := fun k => qm_lk k pcRX1) (call := fun k => qm_lk k []) (tab := qm_tab aX1_add) (plainFor_of_name (by decide)) (qm_fld_ok pfRX1_ok) (qm_con_ok pcRX1_ok) (fun idx kd n f hc => cX1_add_ok (idx, kd, n, f) (qm_lk_mem hc)) (qm_tab_ok aX1_add_ok) (fun vs h o hw => by
  unfold wX1_add at hw
  split at hw
  · obtain ⟨r, hr, rfl⟩ := Option.map_eq_some_iff.mp hw
    exact ⟨Nat.le_of_ble_eq_true rfl, rX1_add_0 (hr)⟩
  · cases hw)
theorem recvX1_add : ∀ vs h o, wX1_add vs h = some o → ∃ ci a rest, vs = qm_r 0 ci a :: rest ∧ qm_R ci = yX1_add.cls := by
  intro vs h o hw
  unfold wX1_add at hw
  split at hw
  · exact ⟨_, _, _, rfl, rfl⟩
  · cases hw
-- RX1 part(I)I
theorem jX1_part : Jvm.Cond.code yX1_part cX1_part 4 (some .int) ∈ qm_all := List.mem_filter.mpr ⟨by decide +kernel, rfl⟩
theorem iX1_part : Jvm.Cond.instanceMethod yX1_part ∈ qm_all ∧ Jvm.Cond.selects yX1_part.cls yX1_part yX1_part ∈ qm_all := ⟨List.mem_filter.mpr ⟨by decide +kernel, rfl⟩, List.mem_filter.mpr ⟨by decide +kernel, rfl⟩⟩
def wX1_part : qm_C := fun vs h => match vs with
  | [.inr (.inr (some (0, 1, p0))), .inl p1] => (qX1_part p0 p1 h).map qm_Gi
  | _ => none
def aX1_part : List (Option (Instr × Nat)) := [some (.iload_n 1, 1), some (.ifCond .ne 8, 3), none, none, some (.aload_n 0, 1), some (.getfield 17, 3), none, none, some (.ireturn, 1), some (.iload_n 1, 1), some (.iconst 1, 1), some (.if_icmp .ne 8, 3), none, none, some (.aload_n 0, 1), some (.getfield 21, 3), none, none, some (.ireturn, 1), some (.iload_n 1, 1), some (.iconst 2, 1), some (.if_icmp .ne 8, 3), none, none, some (.aload_n 0, 1), some (.getfield 24, 3), none, none, some (.ireturn, 1), some (.iload_n 1, 1), some (.bipush 10, 2), none, some (.irem, 1), some (.istore_n 2, 1), some (.iload_n 1, 1), some (.bipush 10, 2), none, some (.if_icmp .lt 21, 3), none, none, some (.iload_n 1, 1), some (.bipush 40, 2), none, some (.if_icmp .ge 15, 3), none, none, some (.iload_n 2, 1), some (.aload_n 0, 1), some (.getfield 24, 3), none, none, some (.if_icmp .ge 7, 3), none, none, some (.iconst 1, 1), some (.goto 4, 3), none, none, some (.iconst 0, 1), some (.istore_n 3, 1), some (.iload_n 3, 1), some (.ifCond .eq 21, 3), none, none, some (.aload_n 0, 1), some (.getfield 11, 3), none, none, some (.iconst 3, 1), some (.iload_n 2, 1), some (.imul, 1), some (.iload_n 1, 1), some (.bipush 10, 2), none, some (.idiv, 1), some (.iadd, 1), some (.iconst 1, 1), some (.isub, 1), some (.iaload, 1), some (.goto 4, 3), none, none, some (.iconst (-1), 1), some (.ireturn, 1)]
theorem aX1_part_ok : qm_tabok cX1_part aX1_part = true := by decide +kernel
def mX1_part : qm_M := ((some .int), (fun k => qm_lk k pfRX1), (fun k => qm_lk k pcRX1), (fun k => qm_lk k []), qm_tab aX1_part)
set_option maxRecDepth 20000 in
set_option maxHeartbeats 2000000 in
theorem rX1_part_59   {a0 : Nat} {x1 : Int32} {x2 : Int32} {xs0 : Int32} {h : qm_H} {r : Int32 × qm_H} (ho : qX1_part_59  a0 x1 x2 xs0 h = some r) : qm_Ret mX1_part (59, [some (qm_r 0 1 a0), some (qm_i x1), some (qm_i x2), none], [qm_i xs0], h) (qm_Gi r) := by
  unfold qX1_part_59 at ho
  refine qm_Ret.sts 2 (f' := (61, [some (qm_r 0 1 a0), some (qm_i x1), some (qm_i x2), some (qm_i xs0)], [qm_i xs0], h)) rfl ?_
  refine qm_Ret.eq (t := 82) (e := 64) rfl (fun hc => ?_) (fun hc => ?_)
  · rw [if_pos hc] at ho
    cases ho
    exact qm_Ret.ret 2 rfl
  · rw [if_neg hc] at ho
    refine qm_Ret.sts 11 (f' := (78, [some (qm_r 0 1 a0), some (qm_i x1), some (qm_i x2), some (qm_i xs0)], [qm_i ((((3 : Int32) * x2) + (x1 / (10 : Int32))) - (1 : Int32)), qm_r 1 30 (a0 + 1)], h)) rfl ?_
    obtain ⟨hg, ho⟩ := qm_ifn ho
    refine qm_Ret.gn (f1 := (79, [some (qm_r 0 1 a0), some (qm_i x1), some (qm_i x2), some (qm_i xs0)], [qm_i (h.1 (a0 + 1) ((((3 : Int32) * x2) + (x1 / (10 : Int32))) - (1 : Int32)).toNatClampNeg)], h)) hg rfl ?_
    cases ho
    exact qm_Ret.ret 2 rfl
set_option maxRecDepth 20000 in
set_option maxHeartbeats 2000000 in
theorem rX1_part_0   {a0 : Nat} {x1 : Int32} {h : qm_H} {r : Int32 × qm_H} (ho : qX1_part  a0 x1 h = some r) : qm_Ret mX1_part (0, [some (qm_r 0 1 a0), some (qm_i x1), none, none], [], h) (qm_Gi r) := by
  unfold qX1_part at ho
  refine qm_Ret.sts 1 (f' := (1, [some (qm_r 0 1 a0), some (qm_i x1), none, none], [qm_i x1], h)) rfl ?_
  refine qm_Ret.ne (t := 9) (e := 4) rfl (fun hc => ?_) (fun hc => ?_)
  · rw [if_pos hc] at ho
    cases ho
    exact qm_Ret.ret 3 rfl
  · rw [if_neg hc] at ho
    refine qm_Ret.sts 2 (f' := (11, [some (qm_r 0 1 a0), some (qm_i x1), none, none], [qm_i (1 : Int32), qm_i x1], h)) rfl ?_
    refine qm_Ret.ne (t := 19) (e := 14) rfl (fun hc => ?_) (fun hc => ?_)
    · rw [if_pos hc] at ho
      cases ho
      exact qm_Ret.ret 3 rfl
    · rw [if_neg hc] at ho
      refine qm_Ret.sts 2 (f' := (21, [some (qm_r 0 1 a0), some (qm_i x1), none, none], [qm_i (2 : Int32), qm_i x1], h)) rfl ?_
      refine qm_Ret.ne (t := 29) (e := 24) rfl (fun hc => ?_) (fun hc => ?_)
      · rw [if_pos hc] at ho
        cases ho
        exact qm_Ret.ret 3 rfl
      · rw [if_neg hc] at ho
        refine qm_Ret.sts 3 (f' := (33, [some (qm_r 0 1 a0), some (qm_i x1), none, none], [qm_i (qm_irem x1 (10 : Int32))], h)) rfl ?_
        refine qm_Ret.lets (F := fun v1 => (33, [some (qm_r 0 1 a0), some (qm_i x1), none, none], [qm_i v1], h)) (G := qm_Gi) ho (fun v1 ho => ?_)
        refine qm_Ret.sts 3 (f' := (37, [some (qm_r 0 1 a0), some (qm_i x1), some (qm_i v1), none], [qm_i (10 : Int32), qm_i x1], h)) rfl ?_
        refine qm_Ret.lt (t := 58) (e := 40) rfl (fun hc => ?_) (fun hc => ?_)
        · rw [if_pos hc] at ho
          refine qm_Ret.sts 1 (f' := (59, [some (qm_r 0 1 a0), some (qm_i x1), some (qm_i v1), none], [qm_i (0 : Int32)], h)) rfl ?_
          exact rX1_part_59 ho
        · rw [if_neg hc] at ho
          refine qm_Ret.sts 2 (f' := (43, [some (qm_r 0 1 a0), some (qm_i x1), some (qm_i v1), none], [qm_i (40 : Int32), qm_i x1], h)) rfl ?_
          refine qm_Ret.ge (t := 58) (e := 46) rfl (fun hc => ?_) (fun hc => ?_)
          · rw [if_pos hc] at ho
            refine qm_Ret.sts 3 (f' := (51, [some (qm_r 0 1 a0), some (qm_i x1), some (qm_i v1), none], [qm_i (h.1 a0 3), qm_i v1], h)) rfl ?_
            refine qm_Ret.ge (t := 58) (e := 54) rfl (fun hc => ?_) (fun hc => ?_)
            · rw [if_pos hc] at ho
              refine qm_Ret.sts 2 (f' := (59, [some (qm_r 0 1 a0), some (qm_i x1), some (qm_i v1), none], [qm_i (1 : Int32)], h)) rfl ?_
              exact rX1_part_59 ho
            · rw [if_neg hc] at ho
              refine qm_Ret.sts 1 (f' := (59, [some (qm_r 0 1 a0), some (qm_i x1), some (qm_i v1), none], [qm_i (0 : Int32)], h)) rfl ?_
              exact rX1_part_59 ho
          · rw [if_neg hc] at ho
            refine qm_Ret.sts 1 (f' := (59, [some (qm_r 0 1 a0), some (qm_i x1), some (qm_i v1), none], [qm_i (0 : Int32)], h)) rfl ?_
            exact rX1_part_59 ho
theorem cX1_part_ok : ∀ q ∈ ([] : List (Nat × Nat × Nat × qm_C)), qm_CallOK RX1 0 0 q.2.1 q.1 q.2.2.1 q.2.2.2 := fun _ h => absurd h List.not_mem_nil
theorem sX1_part : qm_Snd yX1_part cX1_part 4 (some .int) 0 0 wX1_part := qm_met (fld := fun k => qm_lk k pfRX1) (con := fun k => qm_lk k pcRX1) (call := fun k => qm_lk k []) (tab := qm_tab aX1_part) (plainFor_of_name (by decide)) (qm_fld_ok pfRX1_ok) (qm_con_ok pcRX1_ok) (fun idx kd n f hc => cX1_part_ok (idx, kd, n, f) (qm_lk_mem hc)) (qm_tab_ok aX1_part_ok) (fun vs h o hw => by
  unfold wX1_part at hw
  split at hw
  · obtain ⟨r, hr, rfl⟩ := Option.map_eq_some_iff.mp hw
    exact ⟨Nat.le_of_ble_eq_true rfl, rX1_part_0 (hr)⟩
  · cases hw)
theorem recvX1_part : ∀ vs h o, wX1_part vs h = some o → ∃ ci a rest, vs = qm_r 0 ci a :: rest ∧ qm_R ci = yX1_part.cls := by
  intro vs h o hw
  unfold wX1_part at hw
  split at hw
  · exact ⟨_, _, _, rfl, rfl⟩
  · cases hw
-- RX1 agrees(IZZ)Z
theorem jX1_agrees : Jvm.Cond.code yX1_agrees cX1_agrees 3 (some .boolean) ∈ qm_all := List.mem_filter.mpr ⟨by decide +kernel, rfl⟩
theorem iX1_agrees : Jvm.Cond.static yX1_agrees ∈ qm_all := List.mem_filter.mpr ⟨by decide +kernel, rfl⟩
def wX1_agrees : qm_C := fun vs h => match vs with
  | [.inl p0, .inl p1, .inl p2] => (qX1_agrees p0 p1 p2 h).map qm_Gi
  | _ => none
def aX1_agrees : List (Option (Instr × Nat)) := [some (.iload_n 0, 1), some (.tableswitch 41 0 2 #[27, 29, 39], 27), none, none, none, none, none, none, none, none, none, none, none, none, none, none, none, none, none, none, none, none, none, none, none, none, none, none, some (.iload_n 1, 1), some (.ireturn, 1), some (.iload_n 1, 1), some (.ifCond .ne 7, 3), none, none, some (.iconst 1, 1), some (.goto 4, 3), none, none, some (.iconst 0, 1), some (.ireturn, 1), some (.iload_n 2, 1), some (.ireturn, 1), some (.iload_n 2, 1), some (.ifCond .ne 7, 3), none, none, some (.iconst 1, 1), some (.goto 4, 3), none, none, some (.iconst 0, 1), some (.ireturn, 1)]
theorem aX1_agrees_ok : qm_tabok cX1_agrees aX1_agrees = true := by decide +kernel
def mX1_agrees : qm_M := ((some .boolean), (fun k => qm_lk k pfRX1), (fun k => qm_lk k pcRX1), (fun k => qm_lk k []), qm_tab aX1_agrees)
set_option maxRecDepth 20000 in
set_option maxHeartbeats 2000000 in
theorem rX1_agrees_0   {x0 : Int32} {x1 : Int32} {x2 : Int32} {h : qm_H} {r : Int32 × qm_H} (ho : qX1_agrees  x0 x1 x2 h = some r) : qm_Ret mX1_agrees (0, [some (qm_i x0), some (qm_i x1), some (qm_i x2)], [], h) (qm_Gi r) := by
  unfold qX1_agrees at ho
  refine qm_Ret.sts 1 (f' := (1, [some (qm_i x0), some (qm_i x1), some (qm_i x2)], [qm_i x0], h)) rfl ?_
  by_cases hc0 : x0 = (0 : Int32)
  · rw [if_pos hc0] at ho
    refine qm_Ret.sw (z := (0 : Int32)) (f1 := (28, [some (qm_i x0), some (qm_i x1), some (qm_i x2)], [], h)) hc0 rfl rfl ?_
    refine qm_Ret.sts 1 (f' := (29, [some (qm_i x0), some (qm_i x1), some (qm_i x2)], [qm_i x1], h)) rfl ?_
    obtain ⟨hz, ho⟩ := qm_if ho
    cases ho
    exact qm_Ret.gr hz rfl
  · rw [if_neg hc0] at ho
    by_cases hc1 : x0 = (1 : Int32)
    · rw [if_pos hc1] at ho
      refine qm_Ret.sw (z := (1 : Int32)) (f1 := (30, [some (qm_i x0), some (qm_i x1), some (qm_i x2)], [], h)) hc1 rfl rfl ?_
      refine qm_Ret.sts 1 (f' := (31, [some (qm_i x0), some (qm_i x1), some (qm_i x2)], [qm_i x1], h)) rfl ?_
      refine qm_Ret.ne (t := 38) (e := 34) rfl (fun hc => ?_) (fun hc => ?_)
      · rw [if_pos hc] at ho
        cases ho
        exact qm_Ret.ret 3 rfl
      · rw [if_neg hc] at ho
        cases ho
        exact qm_Ret.ret 2 rfl
    · rw [if_neg hc1] at ho
      by_cases hc2 : x0 = (2 : Int32)
      · rw [if_pos hc2] at ho
        refine qm_Ret.sw (z := (2 : Int32)) (f1 := (40, [some (qm_i x0), some (qm_i x1), some (qm_i x2)], [], h)) hc2 rfl rfl ?_
        refine qm_Ret.sts 1 (f' := (41, [some (qm_i x0), some (qm_i x1), some (qm_i x2)], [qm_i x2], h)) rfl ?_
        obtain ⟨hz, ho⟩ := qm_if ho
        cases ho
        exact qm_Ret.gr hz rfl
      · rw [if_neg hc2] at ho
        have nhc0 := lv_neT hc0 (show (0 : Int32).toInt = 0 by decide)
        have nhc1 := lv_neT hc1 (show (1 : Int32).toInt = 1 by decide)
        have nhc2 := lv_neT hc2 (show (2 : Int32).toInt = 2 by decide)
        refine qm_Ret.swd (d := 41) (lo := 0) (hi := 2) (pc := 1) (by omega) (by decide) rfl ?_
        show qm_Ret _ (42, [some (qm_i x0), some (qm_i x1), some (qm_i x2)], [], h) _
        refine qm_Ret.sts 1 (f' := (43, [some (qm_i x0), some (qm_i x1), some (qm_i x2)], [qm_i x2], h)) rfl ?_
        refine qm_Ret.ne (t := 50) (e := 46) rfl (fun hc => ?_) (fun hc => ?_)
        · rw [if_pos hc] at ho
          cases ho
          exact qm_Ret.ret 3 rfl
        · rw [if_neg hc] at ho
          cases ho
          exact qm_Ret.ret 2 rfl
theorem cX1_agrees_ok : ∀ q ∈ ([] : List (Nat × Nat × Nat × qm_C)), qm_CallOK RX1 0 0 q.2.1 q.1 q.2.2.1 q.2.2.2 := fun _ h => absurd h List.not_mem_nil
theorem sX1_agrees : qm_Snd yX1_agrees cX1_agrees 3 (some .boolean) 0 0 wX1_agrees := qm_met (fld := fun k => qm_lk k pfRX1) (con := fun k => qm_lk k pcRX1) (call := fun k => qm_lk k []) (tab := qm_tab aX1_agrees) (plainFor_of_name (by decide)) (qm_fld_ok pfRX1_ok) (qm_con_ok pcRX1_ok) (fun idx kd n f hc => cX1_agrees_ok (idx, kd, n, f) (qm_lk_mem hc)) (qm_tab_ok aX1_agrees_ok) (fun vs h o hw => by
  unfold wX1_agrees at hw
  split at hw
  · obtain ⟨r, hr, rfl⟩ := Option.map_eq_some_iff.mp hw
    exact ⟨Nat.le_of_ble_eq_true rfl, rX1_agrees_0 (hr)⟩
  · cases hw)
-- RX1 allow(IIII)Z
theorem jX1_allow : Jvm.Cond.code yX1_allow cX1_allow 10 (some .boolean) ∈ qm_all := List.mem_filter.mpr ⟨by decide +kernel, rfl⟩
theorem iX1_allow : Jvm.Cond.instanceMethod yX1_allow ∈ qm_all ∧ Jvm.Cond.selects yX1_allow.cls yX1_allow yX1_allow ∈ qm_all := ⟨List.mem_filter.mpr ⟨by decide +kernel, rfl⟩, List.mem_filter.mpr ⟨by decide +kernel, rfl⟩⟩
def wX1_allow : qm_C := fun vs h => match vs with
  | [.inr (.inr (some (0, 1, p0))), .inl p1, .inl p2, .inl p3, .inl p4] => (qX1_allow p0 p1 p2 p3 p4 h).map qm_Gi
  | _ => none
def aX1_allow : List (Option (Instr × Nat)) := [some (.iconst 0, 1), some (.istore 5, 2), none, some (.iload 5, 2), none, some (.iconst 3, 1), some (.aload_n 0, 1), some (.getfield 24, 3), none, none, some (.imul, 1), some (.if_icmp .ge 118, 3), none, none, some (.iload 5, 2), none, some (.iconst 2, 1), some (.iadd, 1), some (.aload_n 0, 1), some (.getfield 11, 3), none, none, some (.arraylength, 1), some (.if_icmp .ge 106, 3), none, none, some (.aload_n 0, 1), some (.getfield 11, 3), none, none, some (.iload 5, 2), none, some (.iconst 1, 1), some (.iadd, 1), some (.iaload, 1), some (.istore 6, 2), none, some (.aload_n 0, 1), some (.getfield 11, 3), none, none, some (.iload 5, 2), none, some (.iconst 2, 1), some (.iadd, 1), some (.iaload, 1), some (.istore 7, 2), none, some (.iload 6, 2), none, some (.iload_n 2, 1), some (.if_icmp .lt 30, 3), none, none, some (.iload 6, 2), none, some (.iload_n 2, 1), some (.iload_n 3, 1), some (.iadd, 1), some (.if_icmp .ge 22, 3), none, none, some (.iload 7, 2), none, some (.iload_n 1, 1), some (.if_icmp .lt 16, 3), none, none, some (.iload 7, 2), none, some (.iload_n 1, 1), some (.iload 4, 2), none, some (.iadd, 1), some (.if_icmp .ge 7, 3), none, none, some (.iconst 1, 1), some (.goto 4, 3), none, none, some (.iconst 0, 1), some (.istore 8, 2), none, some (.iload 6, 2), none, some (.iload_n 3, 1), some (.if_icmp .gt 14, 3), none, none, some (.iload 7, 2), none, some (.iload 4, 2), none, some (.if_icmp .gt 7, 3), none, none, some (.iconst 1, 1), some (.goto 4, 3), none, none, some (.iconst 0, 1), some (.istore 9, 2), none, some (.aload_n 0, 1), some (.getfield 11, 3), none, none, some (.iload 5, 2), none, some (.iaload, 1), some (.iload 8, 2), none, some (.iload 9, 2), none, some (.invokestatic 33, 3), none, none, some (.ifCond .ne 5, 3), none, none, some (.iconst 0, 1), some (.ireturn, 1), some (.iinc 5 3, 3), none, none, some (.goto (-123), 3), none, none, some (.iconst 1, 1), some (.ireturn, 1)]
theorem aX1_allow_ok : qm_tabok cX1_allow aX1_allow = true := by decide +kernel
def mX1_allow : qm_M := ((some .boolean), (fun k => qm_lk k pfRX1), (fun k => qm_lk k pcRX1), (fun k => qm_lk k [(33, 2, 3, wX1_agrees)]), qm_tab aX1_allow)
set_option maxRecDepth 20000 in
set_option maxHeartbeats 2000000 in
theorem rX1_allow_102 {K3 : Nat → Int32 → Int32 → Int32 → Int32 → Int32 → qm_H → Option (Int32 × qm_H)} (H3 : ∀ {a0 : Nat} {x1 : Int32} {x2 : Int32} {x3 : Int32} {x4 : Int32} {x5 : Int32} {d6 : Option qm_V} {d7 : Option qm_V} {d8 : Option qm_V} {d9 : Option qm_V} {h : qm_H} {r : Int32 × qm_H}, K3 a0 x1 x2 x3 x4 x5 h = some r → qm_Ret mX1_allow (3, [some (qm_r 0 1 a0), some (qm_i x1), some (qm_i x2), some (qm_i x3), some (qm_i x4), some (qm_i x5), d6, d7, d8, d9], [], h) (qm_Gi r)) {a0 : Nat} {x1 : Int32} {x2 : Int32} {x3 : Int32} {x4 : Int32} {x5 : Int32} {x8 : Int32} {xs0 : Int32} {xd6 : Int32} {xd7 : Int32} {d9 : Option qm_V} {h : qm_H} {r : Int32 × qm_H} (ho : qX1_allow_102 K3 a0 x1 x2 x3 x4 x5 x8 xs0 h = some r) : qm_Ret mX1_allow (102, [some (qm_r 0 1 a0), some (qm_i x1), some (qm_i x2), some (qm_i x3), some (qm_i x4), some (qm_i x5), some (qm_i xd6), some (qm_i xd7), some (qm_i x8), d9], [qm_i xs0], h) (qm_Gi r) := by
  unfold qX1_allow_102 at ho
  refine qm_Ret.sts 4 (f' := (110, [some (qm_r 0 1 a0), some (qm_i x1), some (qm_i x2), some (qm_i x3), some (qm_i x4), some (qm_i x5), some (qm_i xd6), some (qm_i xd7), some (qm_i x8), some (qm_i xs0)], [qm_i x5, qm_r 1 30 (a0 + 1)], h)) rfl ?_
  obtain ⟨hg, ho⟩ := qm_ifn ho
  refine qm_Ret.gn (f1 := (111, [some (qm_r 0 1 a0), some (qm_i x1), some (qm_i x2), some (qm_i x3), some (qm_i x4), some (qm_i x5), some (qm_i xd6), some (qm_i xd7), some (qm_i x8), some (qm_i xs0)], [qm_i (h.1 (a0 + 1) (x5).toNatClampNeg)], h)) hg rfl ?_
  refine qm_Ret.sts 2 (f' := (115, [some (qm_r 0 1 a0), some (qm_i x1), some (qm_i x2), some (qm_i x3), some (qm_i x4), some (qm_i x5), some (qm_i xd6), some (qm_i xd7), some (qm_i x8), some (qm_i xs0)], [qm_i xs0, qm_i x8, qm_i (h.1 (a0 + 1) (x5).toNatClampNeg)], h)) rfl ?_
  obtain ⟨r2, h1, hr, ho⟩ := qm_b2e ho
  refine qm_Ret.call (X := wX1_agrees [qm_i (h.1 (a0 + 1) (x5).toNatClampNeg), qm_i x8, qm_i xs0] h) (o1 := (some (qm_i r2), h1)) (qm_mp (G := qm_Gi) hr) rfl ?_
  show qm_Ret _ (118, [some (qm_r 0 1 a0), some (qm_i x1), some (qm_i x2), some (qm_i x3), some (qm_i x4), some (qm_i x5), some (qm_i xd6), some (qm_i xd7), some (qm_i x8), some (qm_i xs0)], [qm_i r2], h1) _
  refine qm_Ret.ne (t := 123) (e := 121) rfl (fun hc => ?_) (fun hc => ?_)
  · rw [if_pos hc] at ho
    cases ho
    exact qm_Ret.ret 2 rfl
  · rw [if_neg hc] at ho
    refine qm_Ret.sts 2 (f' := (3, [some (qm_r 0 1 a0), some (qm_i x1), some (qm_i x2), some (qm_i x3), some (qm_i x4), some (qm_i (x5 + (3 : Int32))), some (qm_i xd6), some (qm_i xd7), some (qm_i x8), some (qm_i xs0)], [], h1)) rfl ?_
    exact H3 ho
set_option maxRecDepth 20000 in
set_option maxHeartbeats 2000000 in
theorem rX1_allow_3   : ∀ {fuel : Nat} {a0 : Nat} {x1 : Int32} {x2 : Int32} {x3 : Int32} {x4 : Int32} {x5 : Int32} {d6 : Option qm_V} {d7 : Option qm_V} {d8 : Option qm_V} {d9 : Option qm_V} {h : qm_H} {r : Int32 × qm_H}, qX1_allow_3  fuel a0 x1 x2 x3 x4 x5 h = some r → qm_Ret mX1_allow (3, [some (qm_r 0 1 a0), some (qm_i x1), some (qm_i x2), some (qm_i x3), some (qm_i x4), some (qm_i x5), d6, d7, d8, d9], [], h) (qm_Gi r) := by
  intro fuel
  induction fuel with
  | zero => intros; rename_i ho; cases ho
  | succ n ih =>
    intro a0 x1 x2 x3 x4 x5 d6 d7 d8 d9 h r ho
    unfold qX1_allow_3 at ho
    refine qm_Ret.sts 5 (f' := (11, [some (qm_r 0 1 a0), some (qm_i x1), some (qm_i x2), some (qm_i x3), some (qm_i x4), some (qm_i x5), d6, d7, d8, d9], [qm_i ((3 : Int32) * (h.1 a0 3)), qm_i x5], h)) rfl ?_
    refine qm_Ret.ge (t := 129) (e := 14) rfl (fun hc => ?_) (fun hc => ?_)
    · rw [if_pos hc] at ho
      refine qm_Ret.sts 6 (f' := (23, [some (qm_r 0 1 a0), some (qm_i x1), some (qm_i x2), some (qm_i x3), some (qm_i x4), some (qm_i x5), d6, d7, d8, d9], [qm_i (Int32.ofNat 30), qm_i (x5 + (2 : Int32))], h)) rfl ?_
      refine qm_Ret.ge (t := 129) (e := 26) rfl (fun hc => ?_) (fun hc => ?_)
      · rw [if_pos hc] at ho
        refine qm_Ret.sts 5 (f' := (34, [some (qm_r 0 1 a0), some (qm_i x1), some (qm_i x2), some (qm_i x3), some (qm_i x4), some (qm_i x5), d6, d7, d8, d9], [qm_i (x5 + (1 : Int32)), qm_r 1 30 (a0 + 1)], h)) rfl ?_
        obtain ⟨hg, ho⟩ := qm_ifn ho
        refine qm_Ret.gn (f1 := (35, [some (qm_r 0 1 a0), some (qm_i x1), some (qm_i x2), some (qm_i x3), some (qm_i x4), some (qm_i x5), d6, d7, d8, d9], [qm_i (h.1 (a0 + 1) (x5 + (1 : Int32)).toNatClampNeg)], h)) hg rfl ?_
        refine qm_Ret.lets (F := fun v1 => (35, [some (qm_r 0 1 a0), some (qm_i x1), some (qm_i x2), some (qm_i x3), some (qm_i x4), some (qm_i x5), d6, d7, d8, d9], [qm_i v1], h)) (G := qm_Gi) ho (fun v1 ho => ?_)
        refine qm_Ret.sts 6 (f' := (45, [some (qm_r 0 1 a0), some (qm_i x1), some (qm_i x2), some (qm_i x3), some (qm_i x4), some (qm_i x5), some (qm_i v1), d7, d8, d9], [qm_i (x5 + (2 : Int32)), qm_r 1 30 (a0 + 1)], h)) rfl ?_
        obtain ⟨hg, ho⟩ := qm_ifn ho
        refine qm_Ret.gn (f1 := (46, [some (qm_r 0 1 a0), some (qm_i x1), some (qm_i x2), some (qm_i x3), some (qm_i x4), some (qm_i x5), some (qm_i v1), d7, d8, d9], [qm_i (h.1 (a0 + 1) (x5 + (2 : Int32)).toNatClampNeg)], h)) hg rfl ?_
        refine qm_Ret.lets (F := fun v2 => (46, [some (qm_r 0 1 a0), some (qm_i x1), some (qm_i x2), some (qm_i x3), some (qm_i x4), some (qm_i x5), some (qm_i v1), d7, d8, d9], [qm_i v2], h)) (G := qm_Gi) ho (fun v2 ho => ?_)
        refine qm_Ret.sts 3 (f' := (51, [some (qm_r 0 1 a0), some (qm_i x1), some (qm_i x2), some (qm_i x3), some (qm_i x4), some (qm_i x5), some (qm_i v1), some (qm_i v2), d8, d9], [qm_i x2, qm_i v1], h)) rfl ?_
        refine qm_Ret.lt (t := 81) (e := 54) rfl (fun hc => ?_) (fun hc => ?_)
        · rw [if_pos hc] at ho
          refine qm_Ret.sts 4 (f' := (87, [some (qm_r 0 1 a0), some (qm_i x1), some (qm_i x2), some (qm_i x3), some (qm_i x4), some (qm_i x5), some (qm_i v1), some (qm_i v2), some (qm_i (0 : Int32)), d9], [qm_i x3, qm_i v1], h)) rfl ?_
          refine qm_Ret.gt (t := 101) (e := 90) rfl (fun hc => ?_) (fun hc => ?_)
          · rw [if_pos hc] at ho
            refine qm_Ret.sts 1 (f' := (102, [some (qm_r 0 1 a0), some (qm_i x1), some (qm_i x2), some (qm_i x3), some (qm_i x4), some (qm_i x5), some (qm_i v1), some (qm_i v2), some (qm_i (0 : Int32)), d9], [qm_i (0 : Int32)], h)) rfl ?_
            exact rX1_allow_102 (ih) ho
          · rw [if_neg hc] at ho
            refine qm_Ret.sts 2 (f' := (94, [some (qm_r 0 1 a0), some (qm_i x1), some (qm_i x2), some (qm_i x3), some (qm_i x4), some (qm_i x5), some (qm_i v1), some (qm_i v2), some (qm_i (0 : Int32)), d9], [qm_i x4, qm_i v2], h)) rfl ?_
            refine qm_Ret.gt (t := 101) (e := 97) rfl (fun hc => ?_) (fun hc => ?_)
            · rw [if_pos hc] at ho
              refine qm_Ret.sts 1 (f' := (102, [some (qm_r 0 1 a0), some (qm_i x1), some (qm_i x2), some (qm_i x3), some (qm_i x4), some (qm_i x5), some (qm_i v1), some (qm_i v2), some (qm_i (0 : Int32)), d9], [qm_i (0 : Int32)], h)) rfl ?_
              exact rX1_allow_102 (ih) ho
            · rw [if_neg hc] at ho
              refine qm_Ret.sts 2 (f' := (102, [some (qm_r 0 1 a0), some (qm_i x1), some (qm_i x2), some (qm_i x3), some (qm_i x4), some (qm_i x5), some (qm_i v1), some (qm_i v2), some (qm_i (0 : Int32)), d9], [qm_i (1 : Int32)], h)) rfl ?_
              exact rX1_allow_102 (ih) ho
        · rw [if_neg hc] at ho
          refine qm_Ret.sts 4 (f' := (59, [some (qm_r 0 1 a0), some (qm_i x1), some (qm_i x2), some (qm_i x3), some (qm_i x4), some (qm_i x5), some (qm_i v1), some (qm_i v2), d8, d9], [qm_i (x2 + x3), qm_i v1], h)) rfl ?_
          refine qm_Ret.ge (t := 81) (e := 62) rfl (fun hc => ?_) (fun hc => ?_)
          · rw [if_pos hc] at ho
            refine qm_Ret.sts 2 (f' := (65, [some (qm_r 0 1 a0), some (qm_i x1), some (qm_i x2), some (qm_i x3), some (qm_i x4), some (qm_i x5), some (qm_i v1), some (qm_i v2), d8, d9], [qm_i x1, qm_i v2], h)) rfl ?_
            refine qm_Ret.lt (t := 81) (e := 68) rfl (fun hc => ?_) (fun hc => ?_)
            · rw [if_pos hc] at ho
              refine qm_Ret.sts 4 (f' := (87, [some (qm_r 0 1 a0), some (qm_i x1), some (qm_i x2), some (qm_i x3), some (qm_i x4), some (qm_i x5), some (qm_i v1), some (qm_i v2), some (qm_i (0 : Int32)), d9], [qm_i x3, qm_i v1], h)) rfl ?_
              refine qm_Ret.gt (t := 101) (e := 90) rfl (fun hc => ?_) (fun hc => ?_)
              · rw [if_pos hc] at ho
                refine qm_Ret.sts 1 (f' := (102, [some (qm_r 0 1 a0), some (qm_i x1), some (qm_i x2), some (qm_i x3), some (qm_i x4), some (qm_i x5), some (qm_i v1), some (qm_i v2), some (qm_i (0 : Int32)), d9], [qm_i (0 : Int32)], h)) rfl ?_
                exact rX1_allow_102 (ih) ho
              · rw [if_neg hc] at ho
                refine qm_Ret.sts 2 (f' := (94, [some (qm_r 0 1 a0), some (qm_i x1), some (qm_i x2), some (qm_i x3), some (qm_i x4), some (qm_i x5), some (qm_i v1), some (qm_i v2), some (qm_i (0 : Int32)), d9], [qm_i x4, qm_i v2], h)) rfl ?_
                refine qm_Ret.gt (t := 101) (e := 97) rfl (fun hc => ?_) (fun hc => ?_)
                · rw [if_pos hc] at ho
                  refine qm_Ret.sts 1 (f' := (102, [some (qm_r 0 1 a0), some (qm_i x1), some (qm_i x2), some (qm_i x3), some (qm_i x4), some (qm_i x5), some (qm_i v1), some (qm_i v2), some (qm_i (0 : Int32)), d9], [qm_i (0 : Int32)], h)) rfl ?_
                  exact rX1_allow_102 (ih) ho
                · rw [if_neg hc] at ho
                  refine qm_Ret.sts 2 (f' := (102, [some (qm_r 0 1 a0), some (qm_i x1), some (qm_i x2), some (qm_i x3), some (qm_i x4), some (qm_i x5), some (qm_i v1), some (qm_i v2), some (qm_i (0 : Int32)), d9], [qm_i (1 : Int32)], h)) rfl ?_
                  exact rX1_allow_102 (ih) ho
            · rw [if_neg hc] at ho
              refine qm_Ret.sts 4 (f' := (74, [some (qm_r 0 1 a0), some (qm_i x1), some (qm_i x2), some (qm_i x3), some (qm_i x4), some (qm_i x5), some (qm_i v1), some (qm_i v2), d8, d9], [qm_i (x1 + x4), qm_i v2], h)) rfl ?_
              refine qm_Ret.ge (t := 81) (e := 77) rfl (fun hc => ?_) (fun hc => ?_)
              · rw [if_pos hc] at ho
                refine qm_Ret.sts 5 (f' := (87, [some (qm_r 0 1 a0), some (qm_i x1), some (qm_i x2), some (qm_i x3), some (qm_i x4), some (qm_i x5), some (qm_i v1), some (qm_i v2), some (qm_i (1 : Int32)), d9], [qm_i x3, qm_i v1], h)) rfl ?_
                refine qm_Ret.gt (t := 101) (e := 90) rfl (fun hc => ?_) (fun hc => ?_)
                · rw [if_pos hc] at ho
                  refine qm_Ret.sts 1 (f' := (102, [some (qm_r 0 1 a0), some (qm_i x1), some (qm_i x2), some (qm_i x3), some (qm_i x4), some (qm_i x5), some (qm_i v1), some (qm_i v2), some (qm_i (1 : Int32)), d9], [qm_i (0 : Int32)], h)) rfl ?_
                  exact rX1_allow_102 (ih) ho
                · rw [if_neg hc] at ho
                  refine qm_Ret.sts 2 (f' := (94, [some (qm_r 0 1 a0), some (qm_i x1), some (qm_i x2), some (qm_i x3), some (qm_i x4), some (qm_i x5), some (qm_i v1), some (qm_i v2), some (qm_i (1 : Int32)), d9], [qm_i x4, qm_i v2], h)) rfl ?_
                  refine qm_Ret.gt (t := 101) (e := 97) rfl (fun hc => ?_) (fun hc => ?_)
                  · rw [if_pos hc] at ho
                    refine qm_Ret.sts 1 (f' := (102, [some (qm_r 0 1 a0), some (qm_i x1), some (qm_i x2), some (qm_i x3), some (qm_i x4), some (qm_i x5), some (qm_i v1), some (qm_i v2), some (qm_i (1 : Int32)), d9], [qm_i (0 : Int32)], h)) rfl ?_
                    exact rX1_allow_102 (ih) ho
                  · rw [if_neg hc] at ho
                    refine qm_Ret.sts 2 (f' := (102, [some (qm_r 0 1 a0), some (qm_i x1), some (qm_i x2), some (qm_i x3), some (qm_i x4), some (qm_i x5), some (qm_i v1), some (qm_i v2), some (qm_i (1 : Int32)), d9], [qm_i (1 : Int32)], h)) rfl ?_
                    exact rX1_allow_102 (ih) ho
              · rw [if_neg hc] at ho
                refine qm_Ret.sts 4 (f' := (87, [some (qm_r 0 1 a0), some (qm_i x1), some (qm_i x2), some (qm_i x3), some (qm_i x4), some (qm_i x5), some (qm_i v1), some (qm_i v2), some (qm_i (0 : Int32)), d9], [qm_i x3, qm_i v1], h)) rfl ?_
                refine qm_Ret.gt (t := 101) (e := 90) rfl (fun hc => ?_) (fun hc => ?_)
                · rw [if_pos hc] at ho
                  refine qm_Ret.sts 1 (f' := (102, [some (qm_r 0 1 a0), some (qm_i x1), some (qm_i x2), some (qm_i x3), some (qm_i x4), some (qm_i x5), some (qm_i v1), some (qm_i v2), some (qm_i (0 : Int32)), d9], [qm_i (0 : Int32)], h)) rfl ?_
                  exact rX1_allow_102 (ih) ho
                · rw [if_neg hc] at ho
                  refine qm_Ret.sts 2 (f' := (94, [some (qm_r 0 1 a0), some (qm_i x1), some (qm_i x2), some (qm_i x3), some (qm_i x4), some (qm_i x5), some (qm_i v1), some (qm_i v2), some (qm_i (0 : Int32)), d9], [qm_i x4, qm_i v2], h)) rfl ?_
                  refine qm_Ret.gt (t := 101) (e := 97) rfl (fun hc => ?_) (fun hc => ?_)
                  · rw [if_pos hc] at ho
                    refine qm_Ret.sts 1 (f' := (102, [some (qm_r 0 1 a0), some (qm_i x1), some (qm_i x2), some (qm_i x3), some (qm_i x4), some (qm_i x5), some (qm_i v1), some (qm_i v2), some (qm_i (0 : Int32)), d9], [qm_i (0 : Int32)], h)) rfl ?_
                    exact rX1_allow_102 (ih) ho
                  · rw [if_neg hc] at ho
                    refine qm_Ret.sts 2 (f' := (102, [some (qm_r 0 1 a0), some (qm_i x1), some (qm_i x2), some (qm_i x3), some (qm_i x4), some (qm_i x5), some (qm_i v1), some (qm_i v2), some (qm_i (0 : Int32)), d9], [qm_i (1 : Int32)], h)) rfl ?_
                    exact rX1_allow_102 (ih) ho
          · rw [if_neg hc] at ho
            refine qm_Ret.sts 4 (f' := (87, [some (qm_r 0 1 a0), some (qm_i x1), some (qm_i x2), some (qm_i x3), some (qm_i x4), some (qm_i x5), some (qm_i v1), some (qm_i v2), some (qm_i (0 : Int32)), d9], [qm_i x3, qm_i v1], h)) rfl ?_
            refine qm_Ret.gt (t := 101) (e := 90) rfl (fun hc => ?_) (fun hc => ?_)
            · rw [if_pos hc] at ho
              refine qm_Ret.sts 1 (f' := (102, [some (qm_r 0 1 a0), some (qm_i x1), some (qm_i x2), some (qm_i x3), some (qm_i x4), some (qm_i x5), some (qm_i v1), some (qm_i v2), some (qm_i (0 : Int32)), d9], [qm_i (0 : Int32)], h)) rfl ?_
              exact rX1_allow_102 (ih) ho
            · rw [if_neg hc] at ho
              refine qm_Ret.sts 2 (f' := (94, [some (qm_r 0 1 a0), some (qm_i x1), some (qm_i x2), some (qm_i x3), some (qm_i x4), some (qm_i x5), some (qm_i v1), some (qm_i v2), some (qm_i (0 : Int32)), d9], [qm_i x4, qm_i v2], h)) rfl ?_
              refine qm_Ret.gt (t := 101) (e := 97) rfl (fun hc => ?_) (fun hc => ?_)
              · rw [if_pos hc] at ho
                refine qm_Ret.sts 1 (f' := (102, [some (qm_r 0 1 a0), some (qm_i x1), some (qm_i x2), some (qm_i x3), some (qm_i x4), some (qm_i x5), some (qm_i v1), some (qm_i v2), some (qm_i (0 : Int32)), d9], [qm_i (0 : Int32)], h)) rfl ?_
                exact rX1_allow_102 (ih) ho
              · rw [if_neg hc] at ho
                refine qm_Ret.sts 2 (f' := (102, [some (qm_r 0 1 a0), some (qm_i x1), some (qm_i x2), some (qm_i x3), some (qm_i x4), some (qm_i x5), some (qm_i v1), some (qm_i v2), some (qm_i (0 : Int32)), d9], [qm_i (1 : Int32)], h)) rfl ?_
                exact rX1_allow_102 (ih) ho
      · rw [if_neg hc] at ho
        cases ho
        exact qm_Ret.ret 2 rfl
    · rw [if_neg hc] at ho
      cases ho
      exact qm_Ret.ret 2 rfl
set_option maxRecDepth 20000 in
set_option maxHeartbeats 2000000 in
theorem rX1_allow_0   {a0 : Nat} {x1 : Int32} {x2 : Int32} {x3 : Int32} {x4 : Int32} {h : qm_H} {r : Int32 × qm_H} (ho : qX1_allow  a0 x1 x2 x3 x4 h = some r) : qm_Ret mX1_allow (0, [some (qm_r 0 1 a0), some (qm_i x1), some (qm_i x2), some (qm_i x3), some (qm_i x4), none, none, none, none, none], [], h) (qm_Gi r) := by
  unfold qX1_allow at ho
  refine qm_Ret.sts 2 (f' := (3, [some (qm_r 0 1 a0), some (qm_i x1), some (qm_i x2), some (qm_i x3), some (qm_i x4), some (qm_i (0 : Int32)), none, none, none, none], [], h)) rfl ?_
  exact rX1_allow_3 ho
theorem cX1_allow_ok : ∀ q ∈ ([(33, 2, 3, wX1_agrees)] : List (Nat × Nat × Nat × qm_C)), qm_CallOK RX1 1 22 q.2.1 q.1 q.2.2.1 q.2.2.2 := List.forall_mem_cons.mpr ⟨Or.inl ⟨yX1_agrees, cX1_agrees, 3, (some .boolean), 0, 0, _, sX1_agrees, ⟨by decide, by decide⟩, ⟨jX1_agrees, kRX1_33, uRX1⟩, ⟨by decide, by decide, rfl⟩, Or.inr (Or.inl ⟨rfl, rfl, iX1_agrees⟩)⟩, fun _ h => absurd h List.not_mem_nil⟩
theorem sX1_allow : qm_Snd yX1_allow cX1_allow 10 (some .boolean) 1 22 wX1_allow := qm_met (fld := fun k => qm_lk k pfRX1) (con := fun k => qm_lk k pcRX1) (call := fun k => qm_lk k [(33, 2, 3, wX1_agrees)]) (tab := qm_tab aX1_allow) (plainFor_of_name (by decide)) (qm_fld_ok pfRX1_ok) (qm_con_ok pcRX1_ok) (fun idx kd n f hc => cX1_allow_ok (idx, kd, n, f) (qm_lk_mem hc)) (qm_tab_ok aX1_allow_ok) (fun vs h o hw => by
  unfold wX1_allow at hw
  split at hw
  · obtain ⟨r, hr, rfl⟩ := Option.map_eq_some_iff.mp hw
    exact ⟨Nat.le_of_ble_eq_true rfl, rX1_allow_0 (hr)⟩
  · cases hw)
theorem recvX1_allow : ∀ vs h o, wX1_allow vs h = some o → ∃ ci a rest, vs = qm_r 0 ci a :: rest ∧ qm_R ci = yX1_allow.cls := by
  intro vs h o hw
  unfold wX1_allow at hw
  split at hw
  · exact ⟨_, _, _, rfl, rfl⟩
  · cases hw
-- RX2 begin()V
theorem jX2_begin : Jvm.Cond.code yX2_begin cX2_begin 1 none ∈ qm_all := List.mem_filter.mpr ⟨by decide +kernel, rfl⟩
theorem iX2_begin : Jvm.Cond.instanceMethod yX2_begin ∈ qm_all ∧ Jvm.Cond.selects yX2_begin.cls yX2_begin yX2_begin ∈ qm_all := ⟨List.mem_filter.mpr ⟨by decide +kernel, rfl⟩, List.mem_filter.mpr ⟨by decide +kernel, rfl⟩⟩
def wX2_begin : qm_C := fun vs h => match vs with
  | [.inr (.inr (some (0, 2, p0)))] => (qX2_begin p0 h).map qm_Gv
  | _ => none
def aX2_begin : List (Option (Instr × Nat)) := [some (.aload_n 0, 1), some (.iconst 0, 1), some (.putfield 22, 3), none, none, some (.aload_n 0, 1), some (.iconst 0, 1), some (.putfield 25, 3), none, none, some (.aload_n 0, 1), some (.iconst 3, 1), some (.putfield 18, 3), none, none, some (.return_, 1)]
theorem aX2_begin_ok : qm_tabok cX2_begin aX2_begin = true := by decide +kernel
def mX2_begin : qm_M := (none, (fun k => qm_lk k pfRX2), (fun k => qm_lk k pcRX2), (fun k => qm_lk k []), qm_tab aX2_begin)
set_option maxRecDepth 20000 in
set_option maxHeartbeats 2000000 in
theorem rX2_begin_0   {a0 : Nat} {h : qm_H} {r : qm_H} (ho : qX2_begin  a0 h = some r) : qm_Ret mX2_begin (0, [some (qm_r 0 2 a0)], [], h) (qm_Gv r) := by
  unfold qX2_begin at ho
  refine qm_Ret.sts 3 (f' := (5, [some (qm_r 0 2 a0)], [], (qm_seti h a0 2 (0 : Int32)))) rfl ?_
  refine qm_Ret.lets (F := fun h1 => (5, [some (qm_r 0 2 a0)], [], h1)) (G := qm_Gv) ho (fun h1 ho => ?_)
  refine qm_Ret.sts 3 (f' := (10, [some (qm_r 0 2 a0)], [], (qm_seti h1 a0 3 (0 : Int32)))) rfl ?_
  refine qm_Ret.lets (F := fun h2 => (10, [some (qm_r 0 2 a0)], [], h2)) (G := qm_Gv) ho (fun h2 ho => ?_)
  refine qm_Ret.sts 3 (f' := (15, [some (qm_r 0 2 a0)], [], (qm_seti h2 a0 4 (3 : Int32)))) rfl ?_
  refine qm_Ret.lets (F := fun h3 => (15, [some (qm_r 0 2 a0)], [], h3)) (G := qm_Gv) ho (fun h3 ho => ?_)
  cases ho
  exact qm_Ret.ret 1 rfl
theorem cX2_begin_ok : ∀ q ∈ ([] : List (Nat × Nat × Nat × qm_C)), qm_CallOK RX2 0 0 q.2.1 q.1 q.2.2.1 q.2.2.2 := fun _ h => absurd h List.not_mem_nil
theorem sX2_begin : qm_Snd yX2_begin cX2_begin 1 none 0 0 wX2_begin := qm_met (fld := fun k => qm_lk k pfRX2) (con := fun k => qm_lk k pcRX2) (call := fun k => qm_lk k []) (tab := qm_tab aX2_begin) (plainFor_of_name (by decide)) (qm_fld_ok pfRX2_ok) (qm_con_ok pcRX2_ok) (fun idx kd n f hc => cX2_begin_ok (idx, kd, n, f) (qm_lk_mem hc)) (qm_tab_ok aX2_begin_ok) (fun vs h o hw => by
  unfold wX2_begin at hw
  split at hw
  · obtain ⟨r, hr, rfl⟩ := Option.map_eq_some_iff.mp hw
    exact ⟨Nat.le_of_ble_eq_true rfl, rX2_begin_0 (hr)⟩
  · cases hw)
theorem recvX2_begin : ∀ vs h o, wX2_begin vs h = some o → ∃ ci a rest, vs = qm_r 0 ci a :: rest ∧ qm_R ci = yX2_begin.cls := by
  intro vs h o hw
  unfold wX2_begin at hw
  split at hw
  · exact ⟨_, _, _, rfl, rfl⟩
  · cases hw
-- RX2 take(LWillowLaw$Parish;)V
theorem jX2_take : Jvm.Cond.code yX2_take cX2_take 2 none ∈ qm_all := List.mem_filter.mpr ⟨by decide +kernel, rfl⟩
theorem iX2_take : Jvm.Cond.instanceMethod yX2_take ∈ qm_all ∧ Jvm.Cond.selects yX2_take.cls yX2_take yX2_take ∈ qm_all := ⟨List.mem_filter.mpr ⟨by decide +kernel, rfl⟩, List.mem_filter.mpr ⟨by decide +kernel, rfl⟩⟩
def wX2_take : qm_C := fun vs h => match vs with
  | [.inr (.inr (some (0, 2, p0))), .inr (.inr (some (0, 2, p1)))] => (qX2_take p0 p1 h).map qm_Gv
  | _ => none
def aX2_take : List (Option (Instr × Nat)) := [some (.aload_n 1, 1), some (.getfield 11, 3), none, none, some (.iconst 0, 1), some (.aload_n 0, 1), some (.getfield 11, 3), none, none, some (.iconst 0, 1), some (.bipush 6, 2), none, some (.invokestatic 28, 3), none, none, some (.aload_n 1, 1), some (.getfield 15, 3), none, none, some (.iconst 0, 1), some (.aload_n 0, 1), some (.getfield 15, 3), none, none, some (.iconst 0, 1), some (.bipush 8, 2), none, some (.invokestatic 28, 3), none, none, some (.aload_n 0, 1), some (.aload_n 1, 1), some (.getfield 22, 3), none, none, some (.putfield 22, 3), none, none, some (.aload_n 0, 1), some (.aload_n 1, 1), some (.getfield 25, 3), none, none, some (.putfield 25, 3), none, none, some (.aload_n 0, 1), some (.aload_n 1, 1), some (.getfield 18, 3), none, none, some (.putfield 18, 3), none, none, some (.return_, 1)]
theorem aX2_take_ok : qm_tabok cX2_take aX2_take = true := by decide +kernel
def mX2_take : qm_M := (none, (fun k => qm_lk k pfRX2), (fun k => qm_lk k pcRX2), (fun k => qm_lk k [(28, 2, 5, qm_cpy)]), qm_tab aX2_take)
set_option maxRecDepth 20000 in
set_option maxHeartbeats 2000000 in
theorem rX2_take_0   {a0 : Nat} {a1 : Nat} {h : qm_H} {r : qm_H} (ho : qX2_take  a0 a1 h = some r) : qm_Ret mX2_take (0, [some (qm_r 0 2 a0), some (qm_r 0 2 a1)], [], h) (qm_Gv r) := by
  unfold qX2_take at ho
  refine qm_Ret.sts 7 (f' := (12, [some (qm_r 0 2 a0), some (qm_r 0 2 a1)], [qm_i (6 : Int32), qm_i (0 : Int32), qm_r 1 6 (a0 + 1), qm_i (0 : Int32), qm_r 1 6 (a1 + 1)], h)) rfl ?_
  obtain ⟨h1, hr, ho⟩ := qm_bd ho
  refine qm_Ret.call (X := qm_cpy [qm_r 1 6 (a1 + 1), qm_i (0 : Int32), qm_r 1 6 (a0 + 1), qm_i (0 : Int32), qm_i (6 : Int32)] h) (o1 := (none, h1)) (qm_cpy_ok hr) rfl ?_
  show qm_Ret _ (15, [some (qm_r 0 2 a0), some (qm_r 0 2 a1)], [], h1) _
  refine qm_Ret.sts 7 (f' := (27, [some (qm_r 0 2 a0), some (qm_r 0 2 a1)], [qm_i (8 : Int32), qm_i (0 : Int32), qm_r 1 8 (a0 + 2), qm_i (0 : Int32), qm_r 1 8 (a1 + 2)], h1)) rfl ?_
  obtain ⟨h2, hr, ho⟩ := qm_bd ho
  refine qm_Ret.call (X := qm_cpy [qm_r 1 8 (a1 + 2), qm_i (0 : Int32), qm_r 1 8 (a0 + 2), qm_i (0 : Int32), qm_i (8 : Int32)] h1) (o1 := (none, h2)) (qm_cpy_ok hr) rfl ?_
  show qm_Ret _ (30, [some (qm_r 0 2 a0), some (qm_r 0 2 a1)], [], h2) _
  refine qm_Ret.sts 4 (f' := (38, [some (qm_r 0 2 a0), some (qm_r 0 2 a1)], [], (qm_seti h2 a0 2 (h2.1 a1 2)))) rfl ?_
  refine qm_Ret.lets (F := fun h3 => (38, [some (qm_r 0 2 a0), some (qm_r 0 2 a1)], [], h3)) (G := qm_Gv) ho (fun h3 ho => ?_)
  refine qm_Ret.sts 4 (f' := (46, [some (qm_r 0 2 a0), some (qm_r 0 2 a1)], [], (qm_seti h3 a0 3 (h3.1 a1 3)))) rfl ?_
  refine qm_Ret.lets (F := fun h4 => (46, [some (qm_r 0 2 a0), some (qm_r 0 2 a1)], [], h4)) (G := qm_Gv) ho (fun h4 ho => ?_)
  refine qm_Ret.sts 4 (f' := (54, [some (qm_r 0 2 a0), some (qm_r 0 2 a1)], [], (qm_seti h4 a0 4 (h4.1 a1 4)))) rfl ?_
  refine qm_Ret.lets (F := fun h5 => (54, [some (qm_r 0 2 a0), some (qm_r 0 2 a1)], [], h5)) (G := qm_Gv) ho (fun h5 ho => ?_)
  cases ho
  exact qm_Ret.ret 1 rfl
theorem cX2_take_ok : ∀ q ∈ ([(28, 2, 5, qm_cpy)] : List (Nat × Nat × Nat × qm_C)), qm_CallOK RX2 1 60 q.2.1 q.1 q.2.2.1 q.2.2.2 := List.forall_mem_cons.mpr ⟨Or.inr ⟨rfl, rfl, rfl, by decide, by decide, kRX2_28⟩, fun _ h => absurd h List.not_mem_nil⟩
theorem sX2_take : qm_Snd yX2_take cX2_take 2 none 1 60 wX2_take := qm_met (fld := fun k => qm_lk k pfRX2) (con := fun k => qm_lk k pcRX2) (call := fun k => qm_lk k [(28, 2, 5, qm_cpy)]) (tab := qm_tab aX2_take) (plainFor_of_name (by decide)) (qm_fld_ok pfRX2_ok) (qm_con_ok pcRX2_ok) (fun idx kd n f hc => cX2_take_ok (idx, kd, n, f) (qm_lk_mem hc)) (qm_tab_ok aX2_take_ok) (fun vs h o hw => by
  unfold wX2_take at hw
  split at hw
  · obtain ⟨r, hr, rfl⟩ := Option.map_eq_some_iff.mp hw
    exact ⟨Nat.le_of_ble_eq_true rfl, rX2_take_0 (hr)⟩
  · cases hw)
theorem recvX2_take : ∀ vs h o, wX2_take vs h = some o → ∃ ci a rest, vs = qm_r 0 ci a :: rest ∧ qm_R ci = yX2_take.cls := by
  intro vs h o hw
  unfold wX2_take at hw
  split at hw
  · exact ⟨_, _, _, rfl, rfl⟩
  · cases hw
-- RX2 addRod(I)V
theorem jX2_addRod : Jvm.Cond.code yX2_addRod cX2_addRod 2 none ∈ qm_all := List.mem_filter.mpr ⟨by decide +kernel, rfl⟩
theorem iX2_addRod : Jvm.Cond.instanceMethod yX2_addRod ∈ qm_all ∧ Jvm.Cond.selects yX2_addRod.cls yX2_addRod yX2_addRod ∈ qm_all := ⟨List.mem_filter.mpr ⟨by decide +kernel, rfl⟩, List.mem_filter.mpr ⟨by decide +kernel, rfl⟩⟩
def wX2_addRod : qm_C := fun vs h => match vs with
  | [.inr (.inr (some (0, 2, p0))), .inl p1] => (qX2_addRod p0 p1 h).map qm_Gv
  | _ => none
def aX2_addRod : List (Option (Instr × Nat)) := [some (.aload_n 0, 1), some (.getfield 22, 3), none, none, some (.bipush 6, 2), none, some (.if_icmp .ge 23, 3), none, none, some (.aload_n 0, 1), some (.getfield 11, 3), none, none, some (.aload_n 0, 1), some (.getfield 22, 3), none, none, some (.iload_n 1, 1), some (.iastore, 1), some (.aload_n 0, 1), some (.dup, 1), some (.getfield 22, 3), none, none, some (.iconst 1, 1), some (.iadd, 1), some (.putfield 22, 3), none, none, some (.return_, 1)]
theorem aX2_addRod_ok : qm_tabok cX2_addRod aX2_addRod = true := by decide +kernel
def mX2_addRod : qm_M := (none, (fun k => qm_lk k pfRX2), (fun k => qm_lk k pcRX2), (fun k => qm_lk k []), qm_tab aX2_addRod)
set_option maxRecDepth 20000 in
set_option maxHeartbeats 2000000 in
theorem rX2_addRod_0   {a0 : Nat} {x1 : Int32} {h : qm_H} {r : qm_H} (ho : qX2_addRod  a0 x1 h = some r) : qm_Ret mX2_addRod (0, [some (qm_r 0 2 a0), some (qm_i x1)], [], h) (qm_Gv r) := by
  unfold qX2_addRod at ho
  refine qm_Ret.sts 3 (f' := (6, [some (qm_r 0 2 a0), some (qm_i x1)], [qm_i (6 : Int32), qm_i (h.1 a0 2)], h)) rfl ?_
  refine qm_Ret.ge (t := 29) (e := 9) rfl (fun hc => ?_) (fun hc => ?_)
  · rw [if_pos hc] at ho
    refine qm_Ret.sts 5 (f' := (18, [some (qm_r 0 2 a0), some (qm_i x1)], [qm_i x1, qm_i (h.1 a0 2), qm_r 1 6 (a0 + 1)], h)) rfl ?_
    obtain ⟨hg, ho⟩ := qm_ifn ho
    refine qm_Ret.gn (f1 := (19, [some (qm_r 0 2 a0), some (qm_i x1)], [], (qm_seti h (a0 + 1) (h.1 a0 2).toNatClampNeg x1))) hg rfl ?_
    refine qm_Ret.lets (F := fun h1 => (19, [some (qm_r 0 2 a0), some (qm_i x1)], [], h1)) (G := qm_Gv) ho (fun h1 ho => ?_)
    refine qm_Ret.sts 6 (f' := (29, [some (qm_r 0 2 a0), some (qm_i x1)], [], (qm_seti h1 a0 2 ((h1.1 a0 2) + (1 : Int32))))) rfl ?_
    refine qm_Ret.lets (F := fun h2 => (29, [some (qm_r 0 2 a0), some (qm_i x1)], [], h2)) (G := qm_Gv) ho (fun h2 ho => ?_)
    cases ho
    exact qm_Ret.ret 1 rfl
  · rw [if_neg hc] at ho
    cases ho
    exact qm_Ret.ret 1 rfl
theorem cX2_addRod_ok : ∀ q ∈ ([] : List (Nat × Nat × Nat × qm_C)), qm_CallOK RX2 0 0 q.2.1 q.1 q.2.2.1 q.2.2.2 := fun _ h => absurd h List.not_mem_nil
theorem sX2_addRod : qm_Snd yX2_addRod cX2_addRod 2 none 0 0 wX2_addRod := qm_met (fld := fun k => qm_lk k pfRX2) (con := fun k => qm_lk k pcRX2) (call := fun k => qm_lk k []) (tab := qm_tab aX2_addRod) (plainFor_of_name (by decide)) (qm_fld_ok pfRX2_ok) (qm_con_ok pcRX2_ok) (fun idx kd n f hc => cX2_addRod_ok (idx, kd, n, f) (qm_lk_mem hc)) (qm_tab_ok aX2_addRod_ok) (fun vs h o hw => by
  unfold wX2_addRod at hw
  split at hw
  · obtain ⟨r, hr, rfl⟩ := Option.map_eq_some_iff.mp hw
    exact ⟨Nat.le_of_ble_eq_true rfl, rX2_addRod_0 (hr)⟩
  · cases hw)
theorem recvX2_addRod : ∀ vs h o, wX2_addRod vs h = some o → ∃ ci a rest, vs = qm_r 0 ci a :: rest ∧ qm_R ci = yX2_addRod.cls := by
  intro vs h o hw
  unfold wX2_addRod at hw
  split at hw
  · exact ⟨_, _, _, rfl, rfl⟩
  · cases hw
-- RX2 addPiece(I)V
theorem jX2_addPiece : Jvm.Cond.code yX2_addPiece cX2_addPiece 2 none ∈ qm_all := List.mem_filter.mpr ⟨by decide +kernel, rfl⟩
theorem iX2_addPiece : Jvm.Cond.instanceMethod yX2_addPiece ∈ qm_all ∧ Jvm.Cond.selects yX2_addPiece.cls yX2_addPiece yX2_addPiece ∈ qm_all := ⟨List.mem_filter.mpr ⟨by decide +kernel, rfl⟩, List.mem_filter.mpr ⟨by decide +kernel, rfl⟩⟩
def wX2_addPiece : qm_C := fun vs h => match vs with
  | [.inr (.inr (some (0, 2, p0))), .inl p1] => (qX2_addPiece p0 p1 h).map qm_Gv
  | _ => none
def aX2_addPiece : List (Option (Instr × Nat)) := [some (.aload_n 0, 1), some (.getfield 25, 3), none, none, some (.bipush 8, 2), none, some (.if_icmp .ge 23, 3), none, none, some (.aload_n 0, 1), some (.getfield 15, 3), none, none, some (.aload_n 0, 1), some (.getfield 25, 3), none, none, some (.iload_n 1, 1), some (.iastore, 1), some (.aload_n 0, 1), some (.dup, 1), some (.getfield 25, 3), none, none, some (.iconst 1, 1), some (.iadd, 1), some (.putfield 25, 3), none, none, some (.return_, 1)]
theorem aX2_addPiece_ok : qm_tabok cX2_addPiece aX2_addPiece = true := by decide +kernel
def mX2_addPiece : qm_M := (none, (fun k => qm_lk k pfRX2), (fun k => qm_lk k pcRX2), (fun k => qm_lk k []), qm_tab aX2_addPiece)
set_option maxRecDepth 20000 in
set_option maxHeartbeats 2000000 in
theorem rX2_addPiece_0   {a0 : Nat} {x1 : Int32} {h : qm_H} {r : qm_H} (ho : qX2_addPiece  a0 x1 h = some r) : qm_Ret mX2_addPiece (0, [some (qm_r 0 2 a0), some (qm_i x1)], [], h) (qm_Gv r) := by
  unfold qX2_addPiece at ho
  refine qm_Ret.sts 3 (f' := (6, [some (qm_r 0 2 a0), some (qm_i x1)], [qm_i (8 : Int32), qm_i (h.1 a0 3)], h)) rfl ?_
  refine qm_Ret.ge (t := 29) (e := 9) rfl (fun hc => ?_) (fun hc => ?_)
  · rw [if_pos hc] at ho
    refine qm_Ret.sts 5 (f' := (18, [some (qm_r 0 2 a0), some (qm_i x1)], [qm_i x1, qm_i (h.1 a0 3), qm_r 1 8 (a0 + 2)], h)) rfl ?_
    obtain ⟨hg, ho⟩ := qm_ifn ho
    refine qm_Ret.gn (f1 := (19, [some (qm_r 0 2 a0), some (qm_i x1)], [], (qm_seti h (a0 + 2) (h.1 a0 3).toNatClampNeg x1))) hg rfl ?_
    refine qm_Ret.lets (F := fun h1 => (19, [some (qm_r 0 2 a0), some (qm_i x1)], [], h1)) (G := qm_Gv) ho (fun h1 ho => ?_)
    refine qm_Ret.sts 6 (f' := (29, [some (qm_r 0 2 a0), some (qm_i x1)], [], (qm_seti h1 a0 3 ((h1.1 a0 3) + (1 : Int32))))) rfl ?_
    refine qm_Ret.lets (F := fun h2 => (29, [some (qm_r 0 2 a0), some (qm_i x1)], [], h2)) (G := qm_Gv) ho (fun h2 ho => ?_)
    cases ho
    exact qm_Ret.ret 1 rfl
  · rw [if_neg hc] at ho
    cases ho
    exact qm_Ret.ret 1 rfl
theorem cX2_addPiece_ok : ∀ q ∈ ([] : List (Nat × Nat × Nat × qm_C)), qm_CallOK RX2 0 0 q.2.1 q.1 q.2.2.1 q.2.2.2 := fun _ h => absurd h List.not_mem_nil
theorem sX2_addPiece : qm_Snd yX2_addPiece cX2_addPiece 2 none 0 0 wX2_addPiece := qm_met (fld := fun k => qm_lk k pfRX2) (con := fun k => qm_lk k pcRX2) (call := fun k => qm_lk k []) (tab := qm_tab aX2_addPiece) (plainFor_of_name (by decide)) (qm_fld_ok pfRX2_ok) (qm_con_ok pcRX2_ok) (fun idx kd n f hc => cX2_addPiece_ok (idx, kd, n, f) (qm_lk_mem hc)) (qm_tab_ok aX2_addPiece_ok) (fun vs h o hw => by
  unfold wX2_addPiece at hw
  split at hw
  · obtain ⟨r, hr, rfl⟩ := Option.map_eq_some_iff.mp hw
    exact ⟨Nat.le_of_ble_eq_true rfl, rX2_addPiece_0 (hr)⟩
  · cases hw)
theorem recvX2_addPiece : ∀ vs h o, wX2_addPiece vs h = some o → ∃ ci a rest, vs = qm_r 0 ci a :: rest ∧ qm_R ci = yX2_addPiece.cls := by
  intro vs h o hw
  unfold wX2_addPiece at hw
  split at hw
  · exact ⟨_, _, _, rfl, rfl⟩
  · cases hw
-- RX2 part(I)I
theorem jX2_part : Jvm.Cond.code yX2_part cX2_part 2 (some .int) ∈ qm_all := List.mem_filter.mpr ⟨by decide +kernel, rfl⟩
theorem iX2_part : Jvm.Cond.instanceMethod yX2_part ∈ qm_all ∧ Jvm.Cond.selects yX2_part.cls yX2_part yX2_part ∈ qm_all := ⟨List.mem_filter.mpr ⟨by decide +kernel, rfl⟩, List.mem_filter.mpr ⟨by decide +kernel, rfl⟩⟩
def wX2_part : qm_C := fun vs h => match vs with
  | [.inr (.inr (some (0, 2, p0))), .inl p1] => (qX2_part p0 p1 h).map qm_Gi
  | _ => none
def aX2_part : List (Option (Instr × Nat)) := [some (.iload_n 1, 1), some (.ifCond .ne 8, 3), none, none, some (.aload_n 0, 1), some (.getfield 22, 3), none, none, some (.ireturn, 1), some (.iload_n 1, 1), some (.iconst 1, 1), some (.if_icmp .ne 8, 3), none, none, some (.aload_n 0, 1), some (.getfield 25, 3), none, none, some (.ireturn, 1), some (.iload_n 1, 1), some (.iconst 2, 1), some (.if_icmp .ne 8, 3), none, none, some (.aload_n 0, 1), some (.getfield 18, 3), none, none, some (.ireturn, 1), some (.iload_n 1, 1), some (.bipush 10, 2), none, some (.if_icmp .lt 24, 3), none, none, some (.iload_n 1, 1), some (.bipush 10, 2), none, some (.aload_n 0, 1), some (.getfield 22, 3), none, none, some (.iadd, 1), some (.if_icmp .ge 13, 3), none, none, some (.aload_n 0, 1), some (.getfield 11, 3), none, none, some (.iload_n 1, 1), some (.bipush 10, 2), none, some (.isub, 1), some (.iaload, 1), some (.ireturn, 1), some (.iload_n 1, 1), some (.bipush 20, 2), none, some (.if_icmp .lt 26, 3), none, none, some (.iload_n 1, 1), some (.bipush 20, 2), none, some (.aload_n 0, 1), some (.getfield 25, 3), none, none, some (.iadd, 1), some (.if_icmp .ge 15, 3), none, none, some (.aload_n 0, 1), some (.getfield 15, 3), none, none, some (.iload_n 1, 1), some (.bipush 20, 2), none, some (.isub, 1), some (.iaload, 1), some (.goto 4, 3), none, none, some (.iconst (-1), 1), some (.ireturn, 1)]
theorem aX2_part_ok : qm_tabok cX2_part aX2_part = true := by decide +kernel
def mX2_part : qm_M := ((some .int), (fun k => qm_lk k pfRX2), (fun k => qm_lk k pcRX2), (fun k => qm_lk k []), qm_tab aX2_part)
set_option maxRecDepth 20000 in
set_option maxHeartbeats 2000000 in
theorem rX2_part_56   {a0 : Nat} {x1 : Int32} {h : qm_H} {r : Int32 × qm_H} (ho : qX2_part_56  a0 x1 h = some r) : qm_Ret mX2_part (56, [some (qm_r 0 2 a0), some (qm_i x1)], [], h) (qm_Gi r) := by
  unfold qX2_part_56 at ho
  refine qm_Ret.sts 2 (f' := (59, [some (qm_r 0 2 a0), some (qm_i x1)], [qm_i (20 : Int32), qm_i x1], h)) rfl ?_
  refine qm_Ret.lt (t := 85) (e := 62) rfl (fun hc => ?_) (fun hc => ?_)
  · rw [if_pos hc] at ho
    cases ho
    exact qm_Ret.ret 2 rfl
  · rw [if_neg hc] at ho
    refine qm_Ret.sts 5 (f' := (70, [some (qm_r 0 2 a0), some (qm_i x1)], [qm_i ((20 : Int32) + (h.1 a0 3)), qm_i x1], h)) rfl ?_
    refine qm_Ret.ge (t := 85) (e := 73) rfl (fun hc => ?_) (fun hc => ?_)
    · rw [if_pos hc] at ho
      refine qm_Ret.sts 5 (f' := (81, [some (qm_r 0 2 a0), some (qm_i x1)], [qm_i (x1 - (20 : Int32)), qm_r 1 8 (a0 + 2)], h)) rfl ?_
      obtain ⟨hg, ho⟩ := qm_ifn ho
      refine qm_Ret.gn (f1 := (82, [some (qm_r 0 2 a0), some (qm_i x1)], [qm_i (h.1 (a0 + 2) (x1 - (20 : Int32)).toNatClampNeg)], h)) hg rfl ?_
      cases ho
      exact qm_Ret.ret 2 rfl
    · rw [if_neg hc] at ho
      cases ho
      exact qm_Ret.ret 2 rfl
set_option maxRecDepth 20000 in
set_option maxHeartbeats 2000000 in
theorem rX2_part_0   {a0 : Nat} {x1 : Int32} {h : qm_H} {r : Int32 × qm_H} (ho : qX2_part  a0 x1 h = some r) : qm_Ret mX2_part (0, [some (qm_r 0 2 a0), some (qm_i x1)], [], h) (qm_Gi r) := by
  unfold qX2_part at ho
  refine qm_Ret.sts 1 (f' := (1, [some (qm_r 0 2 a0), some (qm_i x1)], [qm_i x1], h)) rfl ?_
  refine qm_Ret.ne (t := 9) (e := 4) rfl (fun hc => ?_) (fun hc => ?_)
  · rw [if_pos hc] at ho
    cases ho
    exact qm_Ret.ret 3 rfl
  · rw [if_neg hc] at ho
    refine qm_Ret.sts 2 (f' := (11, [some (qm_r 0 2 a0), some (qm_i x1)], [qm_i (1 : Int32), qm_i x1], h)) rfl ?_
    refine qm_Ret.ne (t := 19) (e := 14) rfl (fun hc => ?_) (fun hc => ?_)
    · rw [if_pos hc] at ho
      cases ho
      exact qm_Ret.ret 3 rfl
    · rw [if_neg hc] at ho
      refine qm_Ret.sts 2 (f' := (21, [some (qm_r 0 2 a0), some (qm_i x1)], [qm_i (2 : Int32), qm_i x1], h)) rfl ?_
      refine qm_Ret.ne (t := 29) (e := 24) rfl (fun hc => ?_) (fun hc => ?_)
      · rw [if_pos hc] at ho
        cases ho
        exact qm_Ret.ret 3 rfl
      · rw [if_neg hc] at ho
        refine qm_Ret.sts 2 (f' := (32, [some (qm_r 0 2 a0), some (qm_i x1)], [qm_i (10 : Int32), qm_i x1], h)) rfl ?_
        refine qm_Ret.lt (t := 56) (e := 35) rfl (fun hc => ?_) (fun hc => ?_)
        · rw [if_pos hc] at ho
          exact rX2_part_56 ho
        · rw [if_neg hc] at ho
          refine qm_Ret.sts 5 (f' := (43, [some (qm_r 0 2 a0), some (qm_i x1)], [qm_i ((10 : Int32) + (h.1 a0 2)), qm_i x1], h)) rfl ?_
          refine qm_Ret.ge (t := 56) (e := 46) rfl (fun hc => ?_) (fun hc => ?_)
          · rw [if_pos hc] at ho
            refine qm_Ret.sts 5 (f' := (54, [some (qm_r 0 2 a0), some (qm_i x1)], [qm_i (x1 - (10 : Int32)), qm_r 1 6 (a0 + 1)], h)) rfl ?_
            obtain ⟨hg, ho⟩ := qm_ifn ho
            refine qm_Ret.gn (f1 := (55, [some (qm_r 0 2 a0), some (qm_i x1)], [qm_i (h.1 (a0 + 1) (x1 - (10 : Int32)).toNatClampNeg)], h)) hg rfl ?_
            cases ho
            exact qm_Ret.ret 1 rfl
          · rw [if_neg hc] at ho
            exact rX2_part_56 ho
theorem cX2_part_ok : ∀ q ∈ ([] : List (Nat × Nat × Nat × qm_C)), qm_CallOK RX2 0 0 q.2.1 q.1 q.2.2.1 q.2.2.2 := fun _ h => absurd h List.not_mem_nil
theorem sX2_part : qm_Snd yX2_part cX2_part 2 (some .int) 0 0 wX2_part := qm_met (fld := fun k => qm_lk k pfRX2) (con := fun k => qm_lk k pcRX2) (call := fun k => qm_lk k []) (tab := qm_tab aX2_part) (plainFor_of_name (by decide)) (qm_fld_ok pfRX2_ok) (qm_con_ok pcRX2_ok) (fun idx kd n f hc => cX2_part_ok (idx, kd, n, f) (qm_lk_mem hc)) (qm_tab_ok aX2_part_ok) (fun vs h o hw => by
  unfold wX2_part at hw
  split at hw
  · obtain ⟨r, hr, rfl⟩ := Option.map_eq_some_iff.mp hw
    exact ⟨Nat.le_of_ble_eq_true rfl, rX2_part_0 (hr)⟩
  · cases hw)
theorem recvX2_part : ∀ vs h o, wX2_part vs h = some o → ∃ ci a rest, vs = qm_r 0 ci a :: rest ∧ qm_R ci = yX2_part.cls := by
  intro vs h o hw
  unfold wX2_part at hw
  split at hw
  · exact ⟨_, _, _, rfl, rfl⟩
  · cases hw
