-- RX12 isSize(II)Z
theorem jX12_isSize : Jvm.Cond.code yX12_isSize cX12_isSize 2 (some .boolean) ∈ qm_all := List.mem_filter.mpr ⟨by decide +kernel, rfl⟩
theorem iX12_isSize : Jvm.Cond.static yX12_isSize ∈ qm_all := List.mem_filter.mpr ⟨by decide +kernel, rfl⟩
def wX12_isSize : qm_C := fun vs h => match vs with
  | [.inl p0, .inl p1] => (qX12_isSize p0 p1 h).map qm_Gi
  | _ => none
def aX12_isSize : List (Option (Instr × Nat)) := [some (.iload_n 0, 1), some (.iconst 1, 1), some (.bipush 8, 2), none, some (.invokestatic 100, 3), none, none, some (.ifCond .eq 17, 3), none, none, some (.iload_n 1, 1), some (.iconst 1, 1), some (.bipush 8, 2), none, some (.invokestatic 100, 3), none, none, some (.ifCond .eq 7, 3), none, none, some (.iconst 1, 1), some (.goto 4, 3), none, none, some (.iconst 0, 1), some (.ireturn, 1)]
theorem aX12_isSize_ok : qm_tabok cX12_isSize aX12_isSize = true := by decide +kernel
def mX12_isSize : qm_M := ((some .boolean), (fun k => qm_lk k pfRX12), (fun k => qm_lk k pcRX12), (fun k => qm_lk k [(100, 2, 3, wX12_in)]), qm_tab aX12_isSize)
set_option maxRecDepth 20000 in
set_option maxHeartbeats 2000000 in
theorem rX12_isSize_0   {x0 : Int32} {x1 : Int32} {h : qm_H} {r : Int32 × qm_H} (ho : qX12_isSize  x0 x1 h = some r) : qm_Ret mX12_isSize (0, [some (qm_i x0), some (qm_i x1)], [], h) (qm_Gi r) := by
  unfold qX12_isSize at ho
  refine qm_Ret.sts 3 (f' := (4, [some (qm_i x0), some (qm_i x1)], [qm_i (8 : Int32), qm_i (1 : Int32), qm_i x0], h)) rfl ?_
  obtain ⟨r2, h1, hr, ho⟩ := qm_b2e ho
  refine qm_Ret.call (X := wX12_in [qm_i x0, qm_i (1 : Int32), qm_i (8 : Int32)] h) (o1 := (some (qm_i r2), h1)) (qm_mp (G := qm_Gi) hr) rfl ?_
  show qm_Ret _ (7, [some (qm_i x0), some (qm_i x1)], [qm_i r2], h1) _
  refine qm_Ret.eq (t := 24) (e := 10) rfl (fun hc => ?_) (fun hc => ?_)
  · rw [if_pos hc] at ho
    cases ho
    exact qm_Ret.ret 2 rfl
  · rw [if_neg hc] at ho
    refine qm_Ret.sts 3 (f' := (14, [some (qm_i x0), some (qm_i x1)], [qm_i (8 : Int32), qm_i (1 : Int32), qm_i x1], h1)) rfl ?_
    obtain ⟨r4, h3, hr, ho⟩ := qm_b2e ho
    refine qm_Ret.call (X := wX12_in [qm_i x1, qm_i (1 : Int32), qm_i (8 : Int32)] h1) (o1 := (some (qm_i r4), h3)) (qm_mp (G := qm_Gi) hr) rfl ?_
    show qm_Ret _ (17, [some (qm_i x0), some (qm_i x1)], [qm_i r4], h3) _
    refine qm_Ret.eq (t := 24) (e := 20) rfl (fun hc => ?_) (fun hc => ?_)
    · rw [if_pos hc] at ho
      cases ho
      exact qm_Ret.ret 2 rfl
    · rw [if_neg hc] at ho
      cases ho
      exact qm_Ret.ret 3 rfl
theorem cX12_isSize_ok : ∀ q ∈ ([(100, 2, 3, wX12_in)] : List (Nat × Nat × Nat × qm_C)), qm_CallOK RX12 1 22 q.2.1 q.1 q.2.2.1 q.2.2.2 := List.forall_mem_cons.mpr ⟨Or.inl ⟨yX12_in, cX12_in, 3, (some .boolean), 0, 0, _, sX12_in, ⟨by decide, by decide⟩, ⟨jX12_in, kRX12_100, uRX12⟩, ⟨by decide, by decide, rfl⟩, Or.inr (Or.inl ⟨rfl, rfl, iX12_in⟩)⟩, fun _ h => absurd h List.not_mem_nil⟩
theorem sX12_isSize : qm_Snd yX12_isSize cX12_isSize 2 (some .boolean) 1 22 wX12_isSize := qm_met (fld := fun k => qm_lk k pfRX12) (con := fun k => qm_lk k pcRX12) (call := fun k => qm_lk k [(100, 2, 3, wX12_in)]) (tab := qm_tab aX12_isSize) (plainFor_of_name (by decide)) (qm_fld_ok pfRX12_ok) (qm_con_ok pcRX12_ok) (fun idx kd n f hc => cX12_isSize_ok (idx, kd, n, f) (qm_lk_mem hc)) (qm_tab_ok aX12_isSize_ok) (fun vs h o hw => by
  unfold wX12_isSize at hw
  split at hw
  · obtain ⟨r, hr, rfl⟩ := Option.map_eq_some_iff.mp hw
    exact ⟨Nat.le_of_ble_eq_true rfl, rX12_isSize_0 (hr)⟩
  · cases hw)
-- RX12 isWithin(II)Z
theorem jX12_isWithin : Jvm.Cond.code yX12_isWithin cX12_isWithin 3 (some .boolean) ∈ qm_all := List.mem_filter.mpr ⟨by decide +kernel, rfl⟩
theorem iX12_isWithin : Jvm.Cond.instanceMethod yX12_isWithin ∈ qm_all ∧ Jvm.Cond.selects yX12_isWithin.cls yX12_isWithin yX12_isWithin ∈ qm_all := ⟨List.mem_filter.mpr ⟨by decide +kernel, rfl⟩, List.mem_filter.mpr ⟨by decide +kernel, rfl⟩⟩
def wX12_isWithin : qm_C := fun vs h => match vs with
  | [.inr (.inr (some (0, 12, p0))), .inl p1, .inl p2] => (qX12_isWithin p0 p1 p2 h).map qm_Gi
  | _ => none
def aX12_isWithin : List (Option (Instr × Nat)) := [some (.iload_n 1, 1), some (.aload_n 0, 1), some (.getfield 273, 3), none, none, some (.if_icmp .gt 15, 3), none, none, some (.iload_n 2, 1), some (.aload_n 0, 1), some (.getfield 276, 3), none, none, some (.if_icmp .gt 7, 3), none, none, some (.iconst 1, 1), some (.goto 4, 3), none, none, some (.iconst 0, 1), some (.ireturn, 1)]
theorem aX12_isWithin_ok : qm_tabok cX12_isWithin aX12_isWithin = true := by decide +kernel
def mX12_isWithin : qm_M := ((some .boolean), (fun k => qm_lk k pfRX12), (fun k => qm_lk k pcRX12), (fun k => qm_lk k []), qm_tab aX12_isWithin)
set_option maxRecDepth 20000 in
set_option maxHeartbeats 2000000 in
theorem rX12_isWithin_0   {a0 : Nat} {x1 : Int32} {x2 : Int32} {h : qm_H} {r : Int32 × qm_H} (ho : qX12_isWithin  a0 x1 x2 h = some r) : qm_Ret mX12_isWithin (0, [some (qm_r 0 12 a0), some (qm_i x1), some (qm_i x2)], [], h) (qm_Gi r) := by
  unfold qX12_isWithin at ho
  refine qm_Ret.sts 3 (f' := (5, [some (qm_r 0 12 a0), some (qm_i x1), some (qm_i x2)], [qm_i (h.1 a0 25), qm_i x1], h)) rfl ?_
  refine qm_Ret.gt (t := 20) (e := 8) rfl (fun hc => ?_) (fun hc => ?_)
  · rw [if_pos hc] at ho
    cases ho
    exact qm_Ret.ret 2 rfl
  · rw [if_neg hc] at ho
    refine qm_Ret.sts 3 (f' := (13, [some (qm_r 0 12 a0), some (qm_i x1), some (qm_i x2)], [qm_i (h.1 a0 26), qm_i x2], h)) rfl ?_
    refine qm_Ret.gt (t := 20) (e := 16) rfl (fun hc => ?_) (fun hc => ?_)
    · rw [if_pos hc] at ho
      cases ho
      exact qm_Ret.ret 2 rfl
    · rw [if_neg hc] at ho
      cases ho
      exact qm_Ret.ret 3 rfl
theorem cX12_isWithin_ok : ∀ q ∈ ([] : List (Nat × Nat × Nat × qm_C)), qm_CallOK RX12 0 0 q.2.1 q.1 q.2.2.1 q.2.2.2 := fun _ h => absurd h List.not_mem_nil
theorem sX12_isWithin : qm_Snd yX12_isWithin cX12_isWithin 3 (some .boolean) 0 0 wX12_isWithin := qm_met (fld := fun k => qm_lk k pfRX12) (con := fun k => qm_lk k pcRX12) (call := fun k => qm_lk k []) (tab := qm_tab aX12_isWithin) (plainFor_of_name (by decide)) (qm_fld_ok pfRX12_ok) (qm_con_ok pcRX12_ok) (fun idx kd n f hc => cX12_isWithin_ok (idx, kd, n, f) (qm_lk_mem hc)) (qm_tab_ok aX12_isWithin_ok) (fun vs h o hw => by
  unfold wX12_isWithin at hw
  split at hw
  · obtain ⟨r, hr, rfl⟩ := Option.map_eq_some_iff.mp hw
    exact ⟨Nat.le_of_ble_eq_true rfl, rX12_isWithin_0 (hr)⟩
  · cases hw)
theorem recvX12_isWithin : ∀ vs h o, wX12_isWithin vs h = some o → ∃ ci a rest, vs = qm_r 0 ci a :: rest ∧ qm_R ci = yX12_isWithin.cls := by
  intro vs h o hw
  unfold wX12_isWithin at hw
  split at hw
  · exact ⟨_, _, _, rfl, rfl⟩
  · cases hw
-- RX12 isPlace(III)Z
theorem jX12_isPlace : Jvm.Cond.code yX12_isPlace cX12_isPlace 4 (some .boolean) ∈ qm_all := List.mem_filter.mpr ⟨by decide +kernel, rfl⟩
theorem iX12_isPlace : Jvm.Cond.instanceMethod yX12_isPlace ∈ qm_all ∧ Jvm.Cond.selects yX12_isPlace.cls yX12_isPlace yX12_isPlace ∈ qm_all := ⟨List.mem_filter.mpr ⟨by decide +kernel, rfl⟩, List.mem_filter.mpr ⟨by decide +kernel, rfl⟩⟩
def wX12_isPlace : qm_C := fun vs h => match vs with
  | [.inr (.inr (some (0, 12, p0))), .inl p1, .inl p2, .inl p3] => (qX12_isPlace p0 p1 p2 p3 h).map qm_Gi
  | _ => none
def aX12_isPlace : List (Option (Instr × Nat)) := [some (.iload_n 1, 1), some (.aload_n 0, 1), some (.getfield 273, 3), none, none, some (.irem, 1), some (.iload_n 2, 1), some (.iadd, 1), some (.aload_n 0, 1), some (.getfield 273, 3), none, none, some (.if_icmp .gt 22, 3), none, none, some (.iload_n 1, 1), some (.aload_n 0, 1), some (.getfield 273, 3), none, none, some (.idiv, 1), some (.iload_n 3, 1), some (.iadd, 1), some (.aload_n 0, 1), some (.getfield 276, 3), none, none, some (.if_icmp .gt 7, 3), none, none, some (.iconst 1, 1), some (.goto 4, 3), none, none, some (.iconst 0, 1), some (.ireturn, 1)]
theorem aX12_isPlace_ok : qm_tabok cX12_isPlace aX12_isPlace = true := by decide +kernel
def mX12_isPlace : qm_M := ((some .boolean), (fun k => qm_lk k pfRX12), (fun k => qm_lk k pcRX12), (fun k => qm_lk k []), qm_tab aX12_isPlace)
set_option maxRecDepth 20000 in
set_option maxHeartbeats 2000000 in
theorem rX12_isPlace_0   {a0 : Nat} {x1 : Int32} {x2 : Int32} {x3 : Int32} {h : qm_H} {r : Int32 × qm_H} (ho : qX12_isPlace  a0 x1 x2 x3 h = some r) : qm_Ret mX12_isPlace (0, [some (qm_r 0 12 a0), some (qm_i x1), some (qm_i x2), some (qm_i x3)], [], h) (qm_Gi r) := by
  unfold qX12_isPlace at ho
  refine qm_Ret.sts 3 (f' := (5, [some (qm_r 0 12 a0), some (qm_i x1), some (qm_i x2), some (qm_i x3)], [qm_i (h.1 a0 25), qm_i x1], h)) rfl ?_
  obtain ⟨hg, ho⟩ := qm_ifn ho
  refine qm_Ret.gn (f1 := (6, [some (qm_r 0 12 a0), some (qm_i x1), some (qm_i x2), some (qm_i x3)], [qm_i (qm_irem x1 (h.1 a0 25))], h)) hg rfl ?_
  refine qm_Ret.sts 4 (f' := (12, [some (qm_r 0 12 a0), some (qm_i x1), some (qm_i x2), some (qm_i x3)], [qm_i (h.1 a0 25), qm_i ((qm_irem x1 (h.1 a0 25)) + x2)], h)) rfl ?_
  refine qm_Ret.gt (t := 34) (e := 15) rfl (fun hc => ?_) (fun hc => ?_)
  · rw [if_pos hc] at ho
    cases ho
    exact qm_Ret.ret 2 rfl
  · rw [if_neg hc] at ho
    refine qm_Ret.sts 3 (f' := (20, [some (qm_r 0 12 a0), some (qm_i x1), some (qm_i x2), some (qm_i x3)], [qm_i (h.1 a0 25), qm_i x1], h)) rfl ?_
    obtain ⟨hg, ho⟩ := qm_ifn ho
    refine qm_Ret.gn (f1 := (21, [some (qm_r 0 12 a0), some (qm_i x1), some (qm_i x2), some (qm_i x3)], [qm_i (x1 / (h.1 a0 25))], h)) hg rfl ?_
    refine qm_Ret.sts 4 (f' := (27, [some (qm_r 0 12 a0), some (qm_i x1), some (qm_i x2), some (qm_i x3)], [qm_i (h.1 a0 26), qm_i ((x1 / (h.1 a0 25)) + x3)], h)) rfl ?_
    refine qm_Ret.gt (t := 34) (e := 30) rfl (fun hc => ?_) (fun hc => ?_)
    · rw [if_pos hc] at ho
      cases ho
      exact qm_Ret.ret 2 rfl
    · rw [if_neg hc] at ho
      cases ho
      exact qm_Ret.ret 3 rfl
theorem cX12_isPlace_ok : ∀ q ∈ ([] : List (Nat × Nat × Nat × qm_C)), qm_CallOK RX12 0 0 q.2.1 q.1 q.2.2.1 q.2.2.2 := fun _ h => absurd h List.not_mem_nil
theorem sX12_isPlace : qm_Snd yX12_isPlace cX12_isPlace 4 (some .boolean) 0 0 wX12_isPlace := qm_met (fld := fun k => qm_lk k pfRX12) (con := fun k => qm_lk k pcRX12) (call := fun k => qm_lk k []) (tab := qm_tab aX12_isPlace) (plainFor_of_name (by decide)) (qm_fld_ok pfRX12_ok) (qm_con_ok pcRX12_ok) (fun idx kd n f hc => cX12_isPlace_ok (idx, kd, n, f) (qm_lk_mem hc)) (qm_tab_ok aX12_isPlace_ok) (fun vs h o hw => by
  unfold wX12_isPlace at hw
  split at hw
  · obtain ⟨r, hr, rfl⟩ := Option.map_eq_some_iff.mp hw
    exact ⟨Nat.le_of_ble_eq_true rfl, rX12_isPlace_0 (hr)⟩
  · cases hw)
theorem recvX12_isPlace : ∀ vs h o, wX12_isPlace vs h = some o → ∃ ci a rest, vs = qm_r 0 ci a :: rest ∧ qm_R ci = yX12_isPlace.cls := by
  intro vs h o hw
  unfold wX12_isPlace at hw
  split at hw
  · exact ⟨_, _, _, rfl, rfl⟩
  · cases hw
-- RX12 holdsAt(IIIZ)I
theorem jX12_holdsAt : Jvm.Cond.code yX12_holdsAt cX12_holdsAt 8 (some .int) ∈ qm_all := List.mem_filter.mpr ⟨by decide +kernel, rfl⟩
theorem iX12_holdsAt : Jvm.Cond.instanceMethod yX12_holdsAt ∈ qm_all ∧ Jvm.Cond.selects yX12_holdsAt.cls yX12_holdsAt yX12_holdsAt ∈ qm_all := ⟨List.mem_filter.mpr ⟨by decide +kernel, rfl⟩, List.mem_filter.mpr ⟨by decide +kernel, rfl⟩⟩
def wX12_holdsAt : qm_C := fun vs h => match vs with
  | [.inr (.inr (some (0, 12, p0))), .inl p1, .inl p2, .inl p3, .inl p4] => (qX12_holdsAt p0 p1 p2 p3 p4 h).map qm_Gi
  | _ => none
def aX12_holdsAt : List (Option (Instr × Nat)) := [some (.iconst 0, 1), some (.istore 5, 2), none, some (.iconst 0, 1), some (.istore 6, 2), none, some (.iload 6, 2), none, some (.iload_n 2, 1), some (.iload_n 3, 1), some (.imul, 1), some (.if_icmp .ge 60, 3), none, none, some (.iload_n 1, 1), some (.iload 6, 2), none, some (.iload_n 2, 1), some (.idiv, 1), some (.aload_n 0, 1), some (.getfield 273, 3), none, none, some (.imul, 1), some (.iadd, 1), some (.iload 6, 2), none, some (.iload_n 2, 1), some (.irem, 1), some (.iadd, 1), some (.istore 7, 2), none, some (.iload 5, 2), none, some (.aload_n 0, 1), some (.iload 7, 2), none, some (.invokevirtual 288, 3), none, none, some (.ifCond .eq 7, 3), none, none, some (.iconst 0, 1), some (.goto 18, 3), none, none, some (.iload 4, 2), none, some (.ifCond .eq 7, 3), none, none, some (.iconst 1, 1), some (.goto 9, 3), none, none, some (.aload_n 0, 1), some (.iload 7, 2), none, some (.invokevirtual 291, 3), none, none, some (.iadd, 1), some (.istore 5, 2), none, some (.iinc 6 1, 3), none, none, some (.goto (-62), 3), none, none, some (.iload 5, 2), none, some (.ireturn, 1)]
theorem aX12_holdsAt_ok : qm_tabok cX12_holdsAt aX12_holdsAt = true := by decide +kernel
def mX12_holdsAt : qm_M := ((some .int), (fun k => qm_lk k pfRX12), (fun k => qm_lk k pcRX12), (fun k => qm_lk k [(288, 0, 2, wX12_isOpen), (291, 0, 2, wX12_strength)]), qm_tab aX12_holdsAt)
set_option maxRecDepth 20000 in
set_option maxHeartbeats 2000000 in
theorem rX12_holdsAt_6   : ∀ {fuel : Nat} {a0 : Nat} {x1 : Int32} {x2 : Int32} {x3 : Int32} {x4 : Int32} {x5 : Int32} {x6 : Int32} {d7 : Option qm_V} {h : qm_H} {r : Int32 × qm_H}, qX12_holdsAt_6  fuel a0 x1 x2 x3 x4 x5 x6 h = some r → qm_Ret mX12_holdsAt (6, [some (qm_r 0 12 a0), some (qm_i x1), some (qm_i x2), some (qm_i x3), some (qm_i x4), some (qm_i x5), some (qm_i x6), d7], [], h) (qm_Gi r) := by
  intro fuel
  induction fuel with
  | zero => intros; rename_i ho; cases ho
  | succ n ih =>
    intro a0 x1 x2 x3 x4 x5 x6 d7 h r ho
    unfold qX12_holdsAt_6 at ho
    refine qm_Ret.sts 4 (f' := (11, [some (qm_r 0 12 a0), some (qm_i x1), some (qm_i x2), some (qm_i x3), some (qm_i x4), some (qm_i x5), some (qm_i x6), d7], [qm_i (x2 * x3), qm_i x6], h)) rfl ?_
    refine qm_Ret.ge (t := 71) (e := 14) rfl (fun hc => ?_) (fun hc => ?_)
    · rw [if_pos hc] at ho
      refine qm_Ret.sts 3 (f' := (18, [some (qm_r 0 12 a0), some (qm_i x1), some (qm_i x2), some (qm_i x3), some (qm_i x4), some (qm_i x5), some (qm_i x6), d7], [qm_i x2, qm_i x6, qm_i x1], h)) rfl ?_
      obtain ⟨hg, ho⟩ := qm_ifn ho
      refine qm_Ret.gn (f1 := (19, [some (qm_r 0 12 a0), some (qm_i x1), some (qm_i x2), some (qm_i x3), some (qm_i x4), some (qm_i x5), some (qm_i x6), d7], [qm_i (x6 / x2), qm_i x1], h)) hg rfl ?_
      refine qm_Ret.sts 6 (f' := (28, [some (qm_r 0 12 a0), some (qm_i x1), some (qm_i x2), some (qm_i x3), some (qm_i x4), some (qm_i x5), some (qm_i x6), d7], [qm_i x2, qm_i x6, qm_i (x1 + ((x6 / x2) * (h.1 a0 25)))], h)) rfl ?_
      obtain ⟨hg, ho⟩ := qm_ifn ho
      refine qm_Ret.gn (f1 := (29, [some (qm_r 0 12 a0), some (qm_i x1), some (qm_i x2), some (qm_i x3), some (qm_i x4), some (qm_i x5), some (qm_i x6), d7], [qm_i (qm_irem x6 x2), qm_i (x1 + ((x6 / x2) * (h.1 a0 25)))], h)) hg rfl ?_
      refine qm_Ret.sts 1 (f' := (30, [some (qm_r 0 12 a0), some (qm_i x1), some (qm_i x2), some (qm_i x3), some (qm_i x4), some (qm_i x5), some (qm_i x6), d7], [qm_i ((x1 + ((x6 / x2) * (h.1 a0 25))) + (qm_irem x6 x2))], h)) rfl ?_
      refine qm_Ret.lets (F := fun v1 => (30, [some (qm_r 0 12 a0), some (qm_i x1), some (qm_i x2), some (qm_i x3), some (qm_i x4), some (qm_i x5), some (qm_i x6), d7], [qm_i v1], h)) (G := qm_Gi) ho (fun v1 ho => ?_)
      refine qm_Ret.sts 4 (f' := (37, [some (qm_r 0 12 a0), some (qm_i x1), some (qm_i x2), some (qm_i x3), some (qm_i x4), some (qm_i x5), some (qm_i x6), some (qm_i v1)], [qm_i v1, qm_r 0 12 a0, qm_i x5], h)) rfl ?_
      obtain ⟨r3, h2, hr, ho⟩ := qm_b2e ho
      refine qm_Ret.call (X := wX12_isOpen [qm_r 0 12 a0, qm_i v1] h) (o1 := (some (qm_i r3), h2)) (qm_mp (G := qm_Gi) hr) rfl ?_
      show qm_Ret _ (40, [some (qm_r 0 12 a0), some (qm_i x1), some (qm_i x2), some (qm_i x3), some (qm_i x4), some (qm_i x5), some (qm_i x6), some (qm_i v1)], [qm_i r3, qm_i x5], h2) _
      refine qm_Ret.eq (t := 47) (e := 43) rfl (fun hc => ?_) (fun hc => ?_)
      · rw [if_pos hc] at ho
        refine qm_Ret.sts 1 (f' := (49, [some (qm_r 0 12 a0), some (qm_i x1), some (qm_i x2), some (qm_i x3), some (qm_i x4), some (qm_i x5), some (qm_i x6), some (qm_i v1)], [qm_i x4, qm_i x5], h2)) rfl ?_
        refine qm_Ret.eq (t := 56) (e := 52) rfl (fun hc => ?_) (fun hc => ?_)
        · rw [if_pos hc] at ho
          refine qm_Ret.sts 2 (f' := (59, [some (qm_r 0 12 a0), some (qm_i x1), some (qm_i x2), some (qm_i x3), some (qm_i x4), some (qm_i x5), some (qm_i x6), some (qm_i v1)], [qm_i v1, qm_r 0 12 a0, qm_i x5], h2)) rfl ?_
          obtain ⟨r5, h4, hr, ho⟩ := qm_b2e ho
          refine qm_Ret.call (X := wX12_strength [qm_r 0 12 a0, qm_i v1] h2) (o1 := (some (qm_i r5), h4)) (qm_mp (G := qm_Gi) hr) rfl ?_
          show qm_Ret _ (62, [some (qm_r 0 12 a0), some (qm_i x1), some (qm_i x2), some (qm_i x3), some (qm_i x4), some (qm_i x5), some (qm_i x6), some (qm_i v1)], [qm_i r5, qm_i x5], h4) _
          refine qm_Ret.sts 4 (f' := (6, [some (qm_r 0 12 a0), some (qm_i x1), some (qm_i x2), some (qm_i x3), some (qm_i x4), some (qm_i (x5 + r5)), some (qm_i (x6 + (1 : Int32))), some (qm_i v1)], [], h4)) rfl ?_
          exact ih ho
        · rw [if_neg hc] at ho
          refine qm_Ret.sts 3 (f' := (63, [some (qm_r 0 12 a0), some (qm_i x1), some (qm_i x2), some (qm_i x3), some (qm_i x4), some (qm_i x5), some (qm_i x6), some (qm_i v1)], [qm_i (x5 + (1 : Int32))], h2)) rfl ?_
          refine qm_Ret.lets (F := fun v6 => (63, [some (qm_r 0 12 a0), some (qm_i x1), some (qm_i x2), some (qm_i x3), some (qm_i x4), some (qm_i x5), some (qm_i x6), some (qm_i v1)], [qm_i v6], h2)) (G := qm_Gi) ho (fun v6 ho => ?_)
          refine qm_Ret.sts 3 (f' := (6, [some (qm_r 0 12 a0), some (qm_i x1), some (qm_i x2), some (qm_i x3), some (qm_i x4), some (qm_i v6), some (qm_i (x6 + (1 : Int32))), some (qm_i v1)], [], h2)) rfl ?_
          exact ih ho
      · rw [if_neg hc] at ho
        refine qm_Ret.sts 3 (f' := (63, [some (qm_r 0 12 a0), some (qm_i x1), some (qm_i x2), some (qm_i x3), some (qm_i x4), some (qm_i x5), some (qm_i x6), some (qm_i v1)], [qm_i (x5 + (0 : Int32))], h2)) rfl ?_
        refine qm_Ret.lets (F := fun v7 => (63, [some (qm_r 0 12 a0), some (qm_i x1), some (qm_i x2), some (qm_i x3), some (qm_i x4), some (qm_i x5), some (qm_i x6), some (qm_i v1)], [qm_i v7], h2)) (G := qm_Gi) ho (fun v7 ho => ?_)
        refine qm_Ret.sts 3 (f' := (6, [some (qm_r 0 12 a0), some (qm_i x1), some (qm_i x2), some (qm_i x3), some (qm_i x4), some (qm_i v7), some (qm_i (x6 + (1 : Int32))), some (qm_i v1)], [], h2)) rfl ?_
        exact ih ho
    · rw [if_neg hc] at ho
      cases ho
      exact qm_Ret.ret 2 rfl
set_option maxRecDepth 20000 in
set_option maxHeartbeats 2000000 in
theorem rX12_holdsAt_0   {a0 : Nat} {x1 : Int32} {x2 : Int32} {x3 : Int32} {x4 : Int32} {h : qm_H} {r : Int32 × qm_H} (ho : qX12_holdsAt  a0 x1 x2 x3 x4 h = some r) : qm_Ret mX12_holdsAt (0, [some (qm_r 0 12 a0), some (qm_i x1), some (qm_i x2), some (qm_i x3), some (qm_i x4), none, none, none], [], h) (qm_Gi r) := by
  unfold qX12_holdsAt at ho
  refine qm_Ret.sts 4 (f' := (6, [some (qm_r 0 12 a0), some (qm_i x1), some (qm_i x2), some (qm_i x3), some (qm_i x4), some (qm_i (0 : Int32)), some (qm_i (0 : Int32)), none], [], h)) rfl ?_
  exact rX12_holdsAt_6 ho
theorem cX12_holdsAt_ok : ∀ q ∈ ([(288, 0, 2, wX12_isOpen), (291, 0, 2, wX12_strength)] : List (Nat × Nat × Nat × qm_C)), qm_CallOK RX12 2 45 q.2.1 q.1 q.2.2.1 q.2.2.2 := List.forall_mem_cons.mpr ⟨Or.inl ⟨yX12_isOpen, cX12_isOpen, 2, (some .boolean), 1, 21, _, sX12_isOpen, ⟨by decide, by decide⟩, ⟨jX12_isOpen, kRX12_288, uRX12⟩, ⟨by decide, by decide, rfl⟩, Or.inl ⟨rfl, rfl, iX12_isOpen, recvX12_isOpen⟩⟩, List.forall_mem_cons.mpr ⟨Or.inl ⟨yX12_strength, cX12_strength, 5, (some .int), 1, 21, _, sX12_strength, ⟨by decide, by decide⟩, ⟨jX12_strength, kRX12_291, uRX12⟩, ⟨by decide, by decide, rfl⟩, Or.inl ⟨rfl, rfl, iX12_strength, recvX12_strength⟩⟩, fun _ h => absurd h List.not_mem_nil⟩⟩
theorem sX12_holdsAt : qm_Snd yX12_holdsAt cX12_holdsAt 8 (some .int) 2 45 wX12_holdsAt := qm_met (fld := fun k => qm_lk k pfRX12) (con := fun k => qm_lk k pcRX12) (call := fun k => qm_lk k [(288, 0, 2, wX12_isOpen), (291, 0, 2, wX12_strength)]) (tab := qm_tab aX12_holdsAt) (plainFor_of_name (by decide)) (qm_fld_ok pfRX12_ok) (qm_con_ok pcRX12_ok) (fun idx kd n f hc => cX12_holdsAt_ok (idx, kd, n, f) (qm_lk_mem hc)) (qm_tab_ok aX12_holdsAt_ok) (fun vs h o hw => by
  unfold wX12_holdsAt at hw
  split at hw
  · obtain ⟨r, hr, rfl⟩ := Option.map_eq_some_iff.mp hw
    exact ⟨Nat.le_of_ble_eq_true rfl, rX12_holdsAt_0 (hr)⟩
  · cases hw)
theorem recvX12_holdsAt : ∀ vs h o, wX12_holdsAt vs h = some o → ∃ ci a rest, vs = qm_r 0 ci a :: rest ∧ qm_R ci = yX12_holdsAt.cls := by
  intro vs h o hw
  unfold wX12_holdsAt at hw
  split at hw
  · exact ⟨_, _, _, rfl, rfl⟩
  · cases hw
-- RX12 slipsBy(II)I
theorem jX12_slipsBy : Jvm.Cond.code yX12_slipsBy cX12_slipsBy 4 (some .int) ∈ qm_all := List.mem_filter.mpr ⟨by decide +kernel, rfl⟩
theorem iX12_slipsBy : Jvm.Cond.instanceMethod yX12_slipsBy ∈ qm_all ∧ Jvm.Cond.selects yX12_slipsBy.cls yX12_slipsBy yX12_slipsBy ∈ qm_all := ⟨List.mem_filter.mpr ⟨by decide +kernel, rfl⟩, List.mem_filter.mpr ⟨by decide +kernel, rfl⟩⟩
def wX12_slipsBy : qm_C := fun vs h => match vs with
  | [.inr (.inr (some (0, 12, p0))), .inl p1, .inl p2] => (qX12_slipsBy p0 p1 p2 h).map qm_Gi
  | _ => none
def aX12_slipsBy : List (Option (Instr × Nat)) := [some (.iconst 0, 1), some (.istore_n 3, 1), some (.iload_n 3, 1), some (.aload_n 0, 1), some (.getfield 279, 3), none, none, some (.if_icmp .ge 32, 3), none, none, some (.aload_n 0, 1), some (.iload_n 3, 1), some (.iload_n 1, 1), some (.iload_n 2, 1), some (.invokevirtual 294, 3), none, none, some (.ifCond .eq 16, 3), none, none, some (.aload_n 0, 1), some (.iload_n 3, 1), some (.iload_n 1, 1), some (.iload_n 2, 1), some (.iconst 1, 1), some (.invokevirtual 297, 3), none, none, some (.ifCond .ne 5, 3), none, none, some (.iload_n 3, 1), some (.ireturn, 1), some (.iinc 3 1, 3), none, none, some (.goto (-34), 3), none, none, some (.iconst (-1), 1), some (.ireturn, 1)]
theorem aX12_slipsBy_ok : qm_tabok cX12_slipsBy aX12_slipsBy = true := by decide +kernel
def mX12_slipsBy : qm_M := ((some .int), (fun k => qm_lk k pfRX12), (fun k => qm_lk k pcRX12), (fun k => qm_lk k [(294, 0, 4, wX12_isPlace), (297, 0, 5, wX12_holdsAt)]), qm_tab aX12_slipsBy)
set_option maxRecDepth 20000 in
set_option maxHeartbeats 2000000 in
theorem rX12_slipsBy_2   : ∀ {fuel : Nat} {a0 : Nat} {x1 : Int32} {x2 : Int32} {x3 : Int32} {h : qm_H} {r : Int32 × qm_H}, qX12_slipsBy_2  fuel a0 x1 x2 x3 h = some r → qm_Ret mX12_slipsBy (2, [some (qm_r 0 12 a0), some (qm_i x1), some (qm_i x2), some (qm_i x3)], [], h) (qm_Gi r) := by
  intro fuel
  induction fuel with
  | zero => intros; rename_i ho; cases ho
  | succ n ih =>
    intro a0 x1 x2 x3 h r ho
    unfold qX12_slipsBy_2 at ho
    refine qm_Ret.sts 3 (f' := (7, [some (qm_r 0 12 a0), some (qm_i x1), some (qm_i x2), some (qm_i x3)], [qm_i (h.1 a0 27), qm_i x3], h)) rfl ?_
    refine qm_Ret.ge (t := 39) (e := 10) rfl (fun hc => ?_) (fun hc => ?_)
    · rw [if_pos hc] at ho
      refine qm_Ret.sts 4 (f' := (14, [some (qm_r 0 12 a0), some (qm_i x1), some (qm_i x2), some (qm_i x3)], [qm_i x2, qm_i x1, qm_i x3, qm_r 0 12 a0], h)) rfl ?_
      obtain ⟨r2, h1, hr, ho⟩ := qm_b2e ho
      refine qm_Ret.call (X := wX12_isPlace [qm_r 0 12 a0, qm_i x3, qm_i x1, qm_i x2] h) (o1 := (some (qm_i r2), h1)) (qm_mp (G := qm_Gi) hr) rfl ?_
      show qm_Ret _ (17, [some (qm_r 0 12 a0), some (qm_i x1), some (qm_i x2), some (qm_i x3)], [qm_i r2], h1) _
      refine qm_Ret.eq (t := 33) (e := 20) rfl (fun hc => ?_) (fun hc => ?_)
      · rw [if_pos hc] at ho
        refine qm_Ret.sts 2 (f' := (2, [some (qm_r 0 12 a0), some (qm_i x1), some (qm_i x2), some (qm_i (x3 + (1 : Int32)))], [], h1)) rfl ?_
        exact ih ho
      · rw [if_neg hc] at ho
        refine qm_Ret.sts 5 (f' := (25, [some (qm_r 0 12 a0), some (qm_i x1), some (qm_i x2), some (qm_i x3)], [qm_i (1 : Int32), qm_i x2, qm_i x1, qm_i x3, qm_r 0 12 a0], h1)) rfl ?_
        obtain ⟨r4, h3, hr, ho⟩ := qm_b2e ho
        refine qm_Ret.call (X := wX12_holdsAt [qm_r 0 12 a0, qm_i x3, qm_i x1, qm_i x2, qm_i (1 : Int32)] h1) (o1 := (some (qm_i r4), h3)) (qm_mp (G := qm_Gi) hr) rfl ?_
        show qm_Ret _ (28, [some (qm_r 0 12 a0), some (qm_i x1), some (qm_i x2), some (qm_i x3)], [qm_i r4], h3) _
        refine qm_Ret.ne (t := 33) (e := 31) rfl (fun hc => ?_) (fun hc => ?_)
        · rw [if_pos hc] at ho
          cases ho
          exact qm_Ret.ret 2 rfl
        · rw [if_neg hc] at ho
          refine qm_Ret.sts 2 (f' := (2, [some (qm_r 0 12 a0), some (qm_i x1), some (qm_i x2), some (qm_i (x3 + (1 : Int32)))], [], h3)) rfl ?_
          exact ih ho
    · rw [if_neg hc] at ho
      cases ho
      exact qm_Ret.ret 2 rfl
set_option maxRecDepth 20000 in
set_option maxHeartbeats 2000000 in
theorem rX12_slipsBy_0   {a0 : Nat} {x1 : Int32} {x2 : Int32} {h : qm_H} {r : Int32 × qm_H} (ho : qX12_slipsBy  a0 x1 x2 h = some r) : qm_Ret mX12_slipsBy (0, [some (qm_r 0 12 a0), some (qm_i x1), some (qm_i x2), none], [], h) (qm_Gi r) := by
  unfold qX12_slipsBy at ho
  refine qm_Ret.sts 2 (f' := (2, [some (qm_r 0 12 a0), some (qm_i x1), some (qm_i x2), some (qm_i (0 : Int32))], [], h)) rfl ?_
  exact rX12_slipsBy_2 ho
theorem cX12_slipsBy_ok : ∀ q ∈ ([(294, 0, 4, wX12_isPlace), (297, 0, 5, wX12_holdsAt)] : List (Nat × Nat × Nat × qm_C)), qm_CallOK RX12 3 72 q.2.1 q.1 q.2.2.1 q.2.2.2 := List.forall_mem_cons.mpr ⟨Or.inl ⟨yX12_isPlace, cX12_isPlace, 4, (some .boolean), 0, 0, _, sX12_isPlace, ⟨by decide, by decide⟩, ⟨jX12_isPlace, kRX12_294, uRX12⟩, ⟨by decide, by decide, rfl⟩, Or.inl ⟨rfl, rfl, iX12_isPlace, recvX12_isPlace⟩⟩, List.forall_mem_cons.mpr ⟨Or.inl ⟨yX12_holdsAt, cX12_holdsAt, 8, (some .int), 2, 45, _, sX12_holdsAt, ⟨by decide, by decide⟩, ⟨jX12_holdsAt, kRX12_297, uRX12⟩, ⟨by decide, by decide, rfl⟩, Or.inl ⟨rfl, rfl, iX12_holdsAt, recvX12_holdsAt⟩⟩, fun _ h => absurd h List.not_mem_nil⟩⟩
theorem sX12_slipsBy : qm_Snd yX12_slipsBy cX12_slipsBy 4 (some .int) 3 72 wX12_slipsBy := qm_met (fld := fun k => qm_lk k pfRX12) (con := fun k => qm_lk k pcRX12) (call := fun k => qm_lk k [(294, 0, 4, wX12_isPlace), (297, 0, 5, wX12_holdsAt)]) (tab := qm_tab aX12_slipsBy) (plainFor_of_name (by decide)) (qm_fld_ok pfRX12_ok) (qm_con_ok pcRX12_ok) (fun idx kd n f hc => cX12_slipsBy_ok (idx, kd, n, f) (qm_lk_mem hc)) (qm_tab_ok aX12_slipsBy_ok) (fun vs h o hw => by
  unfold wX12_slipsBy at hw
  split at hw
  · obtain ⟨r, hr, rfl⟩ := Option.map_eq_some_iff.mp hw
    exact ⟨Nat.le_of_ble_eq_true rfl, rX12_slipsBy_0 (hr)⟩
  · cases hw)
theorem recvX12_slipsBy : ∀ vs h o, wX12_slipsBy vs h = some o → ∃ ci a rest, vs = qm_r 0 ci a :: rest ∧ qm_R ci = yX12_slipsBy.cls := by
  intro vs h o hw
  unfold wX12_slipsBy at hw
  split at hw
  · exact ⟨_, _, _, rfl, rfl⟩
  · cases hw
-- RX12 weakest(IIZ)I
theorem jX12_weakest : Jvm.Cond.code yX12_weakest cX12_weakest 7 (some .int) ∈ qm_all := List.mem_filter.mpr ⟨by decide +kernel, rfl⟩
theorem iX12_weakest : Jvm.Cond.instanceMethod yX12_weakest ∈ qm_all ∧ Jvm.Cond.selects yX12_weakest.cls yX12_weakest yX12_weakest ∈ qm_all := ⟨List.mem_filter.mpr ⟨by decide +kernel, rfl⟩, List.mem_filter.mpr ⟨by decide +kernel, rfl⟩⟩
def wX12_weakest : qm_C := fun vs h => match vs with
  | [.inr (.inr (some (0, 12, p0))), .inl p1, .inl p2, .inl p3] => (qX12_weakest p0 p1 p2 p3 h).map qm_Gi
  | _ => none
def aX12_weakest : List (Option (Instr × Nat)) := [some (.iconst (-1), 1), some (.istore 4, 2), none, some (.iconst 0, 1), some (.istore 5, 2), none, some (.iload 5, 2), none, some (.aload_n 0, 1), some (.getfield 279, 3), none, none, some (.if_icmp .ge 68, 3), none, none, some (.aload_n 0, 1), some (.iload 5, 2), none, some (.iload_n 1, 1), some (.iload_n 2, 1), some (.invokevirtual 294, 3), none, none, some (.ifCond .eq 34, 3), none, none, some (.iload 4, 2), none, some (.iconst (-1), 1), some (.if_icmp .eq 24, 3), none, none, some (.aload_n 0, 1), some (.iload 5, 2), none, some (.iload_n 1, 1), some (.iload_n 2, 1), some (.iload_n 3, 1), some (.invokevirtual 297, 3), none, none, some (.aload_n 0, 1), some (.iload 4, 2), none, some (.iload_n 1, 1), some (.iload_n 2, 1), some (.iload_n 3, 1), some (.invokevirtual 297, 3), none, none, some (.if_icmp .ge 7, 3), none, none, some (.iconst 1, 1), some (.goto 4, 3), none, none, some (.iconst 0, 1), some (.istore 6, 2), none, some (.iload 6, 2), none, some (.ifCond .eq 8, 3), none, none, some (.iload 5, 2), none, some (.goto 5, 3), none, none, some (.iload 4, 2), none, some (.istore 4, 2), none, some (.iinc 5 1, 3), none, none, some (.goto (-71), 3), none, none, some (.iload 4, 2), none, some (.ireturn, 1)]
theorem aX12_weakest_ok : qm_tabok cX12_weakest aX12_weakest = true := by decide +kernel
def mX12_weakest : qm_M := ((some .int), (fun k => qm_lk k pfRX12), (fun k => qm_lk k pcRX12), (fun k => qm_lk k [(294, 0, 4, wX12_isPlace), (297, 0, 5, wX12_holdsAt)]), qm_tab aX12_weakest)
set_option maxRecDepth 20000 in
set_option maxHeartbeats 2000000 in
theorem rX12_weakest_6   : ∀ {fuel : Nat} {a0 : Nat} {x1 : Int32} {x2 : Int32} {x3 : Int32} {x4 : Int32} {x5 : Int32} {d6 : Option qm_V} {h : qm_H} {r : Int32 × qm_H}, qX12_weakest_6  fuel a0 x1 x2 x3 x4 x5 h = some r → qm_Ret mX12_weakest (6, [some (qm_r 0 12 a0), some (qm_i x1), some (qm_i x2), some (qm_i x3), some (qm_i x4), some (qm_i x5), d6], [], h) (qm_Gi r) := by
  intro fuel
  induction fuel with
  | zero => intros; rename_i ho; cases ho
  | succ n ih =>
    intro a0 x1 x2 x3 x4 x5 d6 h r ho
    unfold qX12_weakest_6 at ho
    refine qm_Ret.sts 3 (f' := (12, [some (qm_r 0 12 a0), some (qm_i x1), some (qm_i x2), some (qm_i x3), some (qm_i x4), some (qm_i x5), d6], [qm_i (h.1 a0 27), qm_i x5], h)) rfl ?_
    refine qm_Ret.ge (t := 80) (e := 15) rfl (fun hc => ?_) (fun hc => ?_)
    · rw [if_pos hc] at ho
      refine qm_Ret.sts 4 (f' := (20, [some (qm_r 0 12 a0), some (qm_i x1), some (qm_i x2), some (qm_i x3), some (qm_i x4), some (qm_i x5), d6], [qm_i x2, qm_i x1, qm_i x5, qm_r 0 12 a0], h)) rfl ?_
      obtain ⟨r2, h1, hr, ho⟩ := qm_b2e ho
      refine qm_Ret.call (X := wX12_isPlace [qm_r 0 12 a0, qm_i x5, qm_i x1, qm_i x2] h) (o1 := (some (qm_i r2), h1)) (qm_mp (G := qm_Gi) hr) rfl ?_
      show qm_Ret _ (23, [some (qm_r 0 12 a0), some (qm_i x1), some (qm_i x2), some (qm_i x3), some (qm_i x4), some (qm_i x5), d6], [qm_i r2], h1) _
      refine qm_Ret.eq (t := 57) (e := 26) rfl (fun hc => ?_) (fun hc => ?_)
      · rw [if_pos hc] at ho
        refine qm_Ret.sts 3 (f' := (62, [some (qm_r 0 12 a0), some (qm_i x1), some (qm_i x2), some (qm_i x3), some (qm_i x4), some (qm_i x5), some (qm_i (0 : Int32))], [qm_i (0 : Int32)], h1)) rfl ?_
        refine qm_Ret.eq (t := 70) (e := 65) rfl (fun hc => ?_) (fun hc => ?_)
        · rw [if_pos hc] at ho
          refine qm_Ret.sts 4 (f' := (6, [some (qm_r 0 12 a0), some (qm_i x1), some (qm_i x2), some (qm_i x3), some (qm_i x4), some (qm_i (x5 + (1 : Int32))), some (qm_i (0 : Int32))], [], h1)) rfl ?_
          exact ih ho
        · rw [if_neg hc] at ho
          refine qm_Ret.sts 5 (f' := (6, [some (qm_r 0 12 a0), some (qm_i x1), some (qm_i x2), some (qm_i x3), some (qm_i x5), some (qm_i (x5 + (1 : Int32))), some (qm_i (0 : Int32))], [], h1)) rfl ?_
          exact ih ho
      · rw [if_neg hc] at ho
        refine qm_Ret.sts 2 (f' := (29, [some (qm_r 0 12 a0), some (qm_i x1), some (qm_i x2), some (qm_i x3), some (qm_i x4), some (qm_i x5), d6], [qm_i (-1 : Int32), qm_i x4], h1)) rfl ?_
        refine qm_Ret.eq (t := 53) (e := 32) rfl (fun hc => ?_) (fun hc => ?_)
        · rw [if_pos hc] at ho
          refine qm_Ret.sts 4 (f' := (62, [some (qm_r 0 12 a0), some (qm_i x1), some (qm_i x2), some (qm_i x3), some (qm_i x4), some (qm_i x5), some (qm_i (1 : Int32))], [qm_i (1 : Int32)], h1)) rfl ?_
          refine qm_Ret.eq (t := 70) (e := 65) rfl (fun hc => ?_) (fun hc => ?_)
          · rw [if_pos hc] at ho
            refine qm_Ret.sts 4 (f' := (6, [some (qm_r 0 12 a0), some (qm_i x1), some (qm_i x2), some (qm_i x3), some (qm_i x4), some (qm_i (x5 + (1 : Int32))), some (qm_i (1 : Int32))], [], h1)) rfl ?_
            exact ih ho
          · rw [if_neg hc] at ho
            refine qm_Ret.sts 5 (f' := (6, [some (qm_r 0 12 a0), some (qm_i x1), some (qm_i x2), some (qm_i x3), some (qm_i x5), some (qm_i (x5 + (1 : Int32))), some (qm_i (1 : Int32))], [], h1)) rfl ?_
            exact ih ho
        · rw [if_neg hc] at ho
          refine qm_Ret.sts 5 (f' := (38, [some (qm_r 0 12 a0), some (qm_i x1), some (qm_i x2), some (qm_i x3), some (qm_i x4), some (qm_i x5), d6], [qm_i x3, qm_i x2, qm_i x1, qm_i x5, qm_r 0 12 a0], h1)) rfl ?_
          obtain ⟨r4, h3, hr, ho⟩ := qm_b2e ho
          refine qm_Ret.call (X := wX12_holdsAt [qm_r 0 12 a0, qm_i x5, qm_i x1, qm_i x2, qm_i x3] h1) (o1 := (some (qm_i r4), h3)) (qm_mp (G := qm_Gi) hr) rfl ?_
          show qm_Ret _ (41, [some (qm_r 0 12 a0), some (qm_i x1), some (qm_i x2), some (qm_i x3), some (qm_i x4), some (qm_i x5), d6], [qm_i r4], h3) _
          refine qm_Ret.sts 5 (f' := (47, [some (qm_r 0 12 a0), some (qm_i x1), some (qm_i x2), some (qm_i x3), some (qm_i x4), some (qm_i x5), d6], [qm_i x3, qm_i x2, qm_i x1, qm_i x4, qm_r 0 12 a0, qm_i r4], h3)) rfl ?_
          obtain ⟨r6, h5, hr, ho⟩ := qm_b2e ho
          refine qm_Ret.call (X := wX12_holdsAt [qm_r 0 12 a0, qm_i x4, qm_i x1, qm_i x2, qm_i x3] h3) (o1 := (some (qm_i r6), h5)) (qm_mp (G := qm_Gi) hr) rfl ?_
          show qm_Ret _ (50, [some (qm_r 0 12 a0), some (qm_i x1), some (qm_i x2), some (qm_i x3), some (qm_i x4), some (qm_i x5), d6], [qm_i r6, qm_i r4], h5) _
          refine qm_Ret.ge (t := 57) (e := 53) rfl (fun hc => ?_) (fun hc => ?_)
          · rw [if_pos hc] at ho
            refine qm_Ret.sts 4 (f' := (62, [some (qm_r 0 12 a0), some (qm_i x1), some (qm_i x2), some (qm_i x3), some (qm_i x4), some (qm_i x5), some (qm_i (1 : Int32))], [qm_i (1 : Int32)], h5)) rfl ?_
            refine qm_Ret.eq (t := 70) (e := 65) rfl (fun hc => ?_) (fun hc => ?_)
            · rw [if_pos hc] at ho
              refine qm_Ret.sts 4 (f' := (6, [some (qm_r 0 12 a0), some (qm_i x1), some (qm_i x2), some (qm_i x3), some (qm_i x4), some (qm_i (x5 + (1 : Int32))), some (qm_i (1 : Int32))], [], h5)) rfl ?_
              exact ih ho
            · rw [if_neg hc] at ho
              refine qm_Ret.sts 5 (f' := (6, [some (qm_r 0 12 a0), some (qm_i x1), some (qm_i x2), some (qm_i x3), some (qm_i x5), some (qm_i (x5 + (1 : Int32))), some (qm_i (1 : Int32))], [], h5)) rfl ?_
              exact ih ho
          · rw [if_neg hc] at ho
            refine qm_Ret.sts 3 (f' := (62, [some (qm_r 0 12 a0), some (qm_i x1), some (qm_i x2), some (qm_i x3), some (qm_i x4), some (qm_i x5), some (qm_i (0 : Int32))], [qm_i (0 : Int32)], h5)) rfl ?_
            refine qm_Ret.eq (t := 70) (e := 65) rfl (fun hc => ?_) (fun hc => ?_)
            · rw [if_pos hc] at ho
              refine qm_Ret.sts 4 (f' := (6, [some (qm_r 0 12 a0), some (qm_i x1), some (qm_i x2), some (qm_i x3), some (qm_i x4), some (qm_i (x5 + (1 : Int32))), some (qm_i (0 : Int32))], [], h5)) rfl ?_
              exact ih ho
            · rw [if_neg hc] at ho
              refine qm_Ret.sts 5 (f' := (6, [some (qm_r 0 12 a0), some (qm_i x1), some (qm_i x2), some (qm_i x3), some (qm_i x5), some (qm_i (x5 + (1 : Int32))), some (qm_i (0 : Int32))], [], h5)) rfl ?_
              exact ih ho
    · rw [if_neg hc] at ho
      cases ho
      exact qm_Ret.ret 2 rfl
set_option maxRecDepth 20000 in
set_option maxHeartbeats 2000000 in
theorem rX12_weakest_0   {a0 : Nat} {x1 : Int32} {x2 : Int32} {x3 : Int32} {h : qm_H} {r : Int32 × qm_H} (ho : qX12_weakest  a0 x1 x2 x3 h = some r) : qm_Ret mX12_weakest (0, [some (qm_r 0 12 a0), some (qm_i x1), some (qm_i x2), some (qm_i x3), none, none, none], [], h) (qm_Gi r) := by
  unfold qX12_weakest at ho
  refine qm_Ret.sts 4 (f' := (6, [some (qm_r 0 12 a0), some (qm_i x1), some (qm_i x2), some (qm_i x3), some (qm_i (-1 : Int32)), some (qm_i (0 : Int32)), none], [], h)) rfl ?_
  exact rX12_weakest_6 ho
theorem cX12_weakest_ok : ∀ q ∈ ([(294, 0, 4, wX12_isPlace), (297, 0, 5, wX12_holdsAt)] : List (Nat × Nat × Nat × qm_C)), qm_CallOK RX12 3 72 q.2.1 q.1 q.2.2.1 q.2.2.2 := List.forall_mem_cons.mpr ⟨Or.inl ⟨yX12_isPlace, cX12_isPlace, 4, (some .boolean), 0, 0, _, sX12_isPlace, ⟨by decide, by decide⟩, ⟨jX12_isPlace, kRX12_294, uRX12⟩, ⟨by decide, by decide, rfl⟩, Or.inl ⟨rfl, rfl, iX12_isPlace, recvX12_isPlace⟩⟩, List.forall_mem_cons.mpr ⟨Or.inl ⟨yX12_holdsAt, cX12_holdsAt, 8, (some .int), 2, 45, _, sX12_holdsAt, ⟨by decide, by decide⟩, ⟨jX12_holdsAt, kRX12_297, uRX12⟩, ⟨by decide, by decide, rfl⟩, Or.inl ⟨rfl, rfl, iX12_holdsAt, recvX12_holdsAt⟩⟩, fun _ h => absurd h List.not_mem_nil⟩⟩
theorem sX12_weakest : qm_Snd yX12_weakest cX12_weakest 7 (some .int) 3 72 wX12_weakest := qm_met (fld := fun k => qm_lk k pfRX12) (con := fun k => qm_lk k pcRX12) (call := fun k => qm_lk k [(294, 0, 4, wX12_isPlace), (297, 0, 5, wX12_holdsAt)]) (tab := qm_tab aX12_weakest) (plainFor_of_name (by decide)) (qm_fld_ok pfRX12_ok) (qm_con_ok pcRX12_ok) (fun idx kd n f hc => cX12_weakest_ok (idx, kd, n, f) (qm_lk_mem hc)) (qm_tab_ok aX12_weakest_ok) (fun vs h o hw => by
  unfold wX12_weakest at hw
  split at hw
  · obtain ⟨r, hr, rfl⟩ := Option.map_eq_some_iff.mp hw
    exact ⟨Nat.le_of_ble_eq_true rfl, rX12_weakest_0 (hr)⟩
  · cases hw)
theorem recvX12_weakest : ∀ vs h o, wX12_weakest vs h = some o → ∃ ci a rest, vs = qm_r 0 ci a :: rest ∧ qm_R ci = yX12_weakest.cls := by
  intro vs h o hw
  unfold wX12_weakest at hw
  split at hw
  · exact ⟨_, _, _, rfl, rfl⟩
  · cases hw
-- RX12 ofRods(I)I
theorem jX12_ofRods : Jvm.Cond.code yX12_ofRods cX12_ofRods 3 (some .int) ∈ qm_all := List.mem_filter.mpr ⟨by decide +kernel, rfl⟩
theorem iX12_ofRods : Jvm.Cond.instanceMethod yX12_ofRods ∈ qm_all ∧ Jvm.Cond.selects yX12_ofRods.cls yX12_ofRods yX12_ofRods ∈ qm_all := ⟨List.mem_filter.mpr ⟨by decide +kernel, rfl⟩, List.mem_filter.mpr ⟨by decide +kernel, rfl⟩⟩
def wX12_ofRods : qm_C := fun vs h => match vs with
  | [.inr (.inr (some (0, 12, p0))), .inl p1] => (qX12_ofRods p0 p1 h).map qm_Gi
  | _ => none
def aX12_ofRods : List (Option (Instr × Nat)) := [some (.iload_n 1, 1), some (.bipush 10, 2), none, some (.irem, 1), some (.istore_n 2, 1), some (.iload_n 1, 1), some (.bipush 10, 2), none, some (.idiv, 1), some (.tableswitch 117 1 4 #[31, 51, 71, 94], 31), none, none, none, none, none, none, none, none, none, none, none, none, none, none, none, none, none, none, none, none, none, none, none, none, none, none, none, none, none, none, some (.iload_n 2, 1), some (.aload_n 0, 1), some (.getfield 276, 3), none, none, some (.if_icmp .ge 12, 3), none, none, some (.aload_n 0, 1), some (.getfield 44, 3), none, none, some (.iload_n 2, 1), some (.iaload, 1), some (.goto 5, 3), none, none, some (.bipush (-2), 2), none, some (.ireturn, 1), some (.iload_n 2, 1), some (.aload_n 0, 1), some (.getfield 276, 3), none, none, some (.if_icmp .ge 12, 3), none, none, some (.aload_n 0, 1), some (.getfield 47, 3), none, none, some (.iload_n 2, 1), some (.iaload, 1), some (.goto 5, 3), none, none, some (.bipush (-2), 2), none, some (.ireturn, 1), some (.iload_n 2, 1), some (.aload_n 0, 1), some (.getfield 273, 3), none, none, some (.if_icmp .ge 15, 3), none, none, some (.aload_n 0, 1), some (.getfield 44, 3), none, none, some (.bipush 8, 2), none, some (.iload_n 2, 1), some (.iadd, 1), some (.iaload, 1), some (.goto 5, 3), none, none, some (.bipush (-2), 2), none, some (.ireturn, 1), some (.iload_n 2, 1), some (.aload_n 0, 1), some (.getfield 273, 3), none, none, some (.if_icmp .ge 15, 3), none, none, some (.aload_n 0, 1), some (.getfield 47, 3), none, none, some (.bipush 8, 2), none, some (.iload_n 2, 1), some (.iadd, 1), some (.iaload, 1), some (.goto 5, 3), none, none, some (.bipush (-2), 2), none, some (.ireturn, 1), some (.iload_n 1, 1), some (.bipush 100, 2), none, some (.bipush 99, 2), none, some (.aload_n 0, 1), some (.getfield 279, 3), none, none, some (.iadd, 1), some (.invokestatic 100, 3), none, none, some (.ifCond .ne 8, 3), none, none, some (.bipush (-2), 2), none, some (.goto 26, 3), none, none, some (.aload_n 0, 1), some (.iload_n 1, 1), some (.bipush 100, 2), none, some (.isub, 1), some (.invokevirtual 288, 3), none, none, some (.ifCond .eq 7, 3), none, none, some (.iconst (-1), 1), some (.goto 11, 3), none, none, some (.aload_n 0, 1), some (.iload_n 1, 1), some (.bipush 100, 2), none, some (.isub, 1), some (.invokevirtual 291, 3), none, none, some (.ireturn, 1)]
theorem aX12_ofRods_ok : qm_tabok cX12_ofRods aX12_ofRods = true := by decide +kernel
def mX12_ofRods : qm_M := ((some .int), (fun k => qm_lk k pfRX12), (fun k => qm_lk k pcRX12), (fun k => qm_lk k [(100, 2, 3, wX12_in), (288, 0, 2, wX12_isOpen), (291, 0, 2, wX12_strength)]), qm_tab aX12_ofRods)
set_option maxRecDepth 20000 in
set_option maxHeartbeats 2000000 in
theorem rX12_ofRods_0   {a0 : Nat} {x1 : Int32} {h : qm_H} {r : Int32 × qm_H} (ho : qX12_ofRods  a0 x1 h = some r) : qm_Ret mX12_ofRods (0, [some (qm_r 0 12 a0), some (qm_i x1), none], [], h) (qm_Gi r) := by
  unfold qX12_ofRods at ho
  refine qm_Ret.sts 3 (f' := (4, [some (qm_r 0 12 a0), some (qm_i x1), none], [qm_i (qm_irem x1 (10 : Int32))], h)) rfl ?_
  refine qm_Ret.lets (F := fun v1 => (4, [some (qm_r 0 12 a0), some (qm_i x1), none], [qm_i v1], h)) (G := qm_Gi) ho (fun v1 ho => ?_)
  refine qm_Ret.sts 4 (f' := (9, [some (qm_r 0 12 a0), some (qm_i x1), some (qm_i v1)], [qm_i (x1 / (10 : Int32))], h)) rfl ?_
  by_cases hc0 : (x1 / (10 : Int32)) = (1 : Int32)
  · rw [if_pos hc0] at ho
    refine qm_Ret.sw (z := (1 : Int32)) (f1 := (40, [some (qm_r 0 12 a0), some (qm_i x1), some (qm_i v1)], [], h)) hc0 rfl rfl ?_
    refine qm_Ret.sts 3 (f' := (45, [some (qm_r 0 12 a0), some (qm_i x1), some (qm_i v1)], [qm_i (h.1 a0 26), qm_i v1], h)) rfl ?_
    refine qm_Ret.ge (t := 57) (e := 48) rfl (fun hc => ?_) (fun hc => ?_)
    · rw [if_pos hc] at ho
      refine qm_Ret.sts 3 (f' := (53, [some (qm_r 0 12 a0), some (qm_i x1), some (qm_i v1)], [qm_i v1, qm_r 1 16 (a0 + 12)], h)) rfl ?_
      obtain ⟨hg, ho⟩ := qm_ifn ho
      refine qm_Ret.gn (f1 := (54, [some (qm_r 0 12 a0), some (qm_i x1), some (qm_i v1)], [qm_i (h.1 (a0 + 12) (v1).toNatClampNeg)], h)) hg rfl ?_
      cases ho
      exact qm_Ret.ret 2 rfl
    · rw [if_neg hc] at ho
      cases ho
      exact qm_Ret.ret 2 rfl
  · rw [if_neg hc0] at ho
    by_cases hc1 : (x1 / (10 : Int32)) = (2 : Int32)
    · rw [if_pos hc1] at ho
      refine qm_Ret.sw (z := (2 : Int32)) (f1 := (60, [some (qm_r 0 12 a0), some (qm_i x1), some (qm_i v1)], [], h)) hc1 rfl rfl ?_
      refine qm_Ret.sts 3 (f' := (65, [some (qm_r 0 12 a0), some (qm_i x1), some (qm_i v1)], [qm_i (h.1 a0 26), qm_i v1], h)) rfl ?_
      refine qm_Ret.ge (t := 77) (e := 68) rfl (fun hc => ?_) (fun hc => ?_)
      · rw [if_pos hc] at ho
        refine qm_Ret.sts 3 (f' := (73, [some (qm_r 0 12 a0), some (qm_i x1), some (qm_i v1)], [qm_i v1, qm_r 1 16 (a0 + 13)], h)) rfl ?_
        obtain ⟨hg, ho⟩ := qm_ifn ho
        refine qm_Ret.gn (f1 := (74, [some (qm_r 0 12 a0), some (qm_i x1), some (qm_i v1)], [qm_i (h.1 (a0 + 13) (v1).toNatClampNeg)], h)) hg rfl ?_
        cases ho
        exact qm_Ret.ret 2 rfl
      · rw [if_neg hc] at ho
        cases ho
        exact qm_Ret.ret 2 rfl
    · rw [if_neg hc1] at ho
      by_cases hc2 : (x1 / (10 : Int32)) = (3 : Int32)
      · rw [if_pos hc2] at ho
        refine qm_Ret.sw (z := (3 : Int32)) (f1 := (80, [some (qm_r 0 12 a0), some (qm_i x1), some (qm_i v1)], [], h)) hc2 rfl rfl ?_
        refine qm_Ret.sts 3 (f' := (85, [some (qm_r 0 12 a0), some (qm_i x1), some (qm_i v1)], [qm_i (h.1 a0 25), qm_i v1], h)) rfl ?_
        refine qm_Ret.ge (t := 100) (e := 88) rfl (fun hc => ?_) (fun hc => ?_)
        · rw [if_pos hc] at ho
          refine qm_Ret.sts 5 (f' := (96, [some (qm_r 0 12 a0), some (qm_i x1), some (qm_i v1)], [qm_i ((8 : Int32) + v1), qm_r 1 16 (a0 + 12)], h)) rfl ?_
          obtain ⟨hg, ho⟩ := qm_ifn ho
          refine qm_Ret.gn (f1 := (97, [some (qm_r 0 12 a0), some (qm_i x1), some (qm_i v1)], [qm_i (h.1 (a0 + 12) ((8 : Int32) + v1).toNatClampNeg)], h)) hg rfl ?_
          cases ho
          exact qm_Ret.ret 2 rfl
        · rw [if_neg hc] at ho
          cases ho
          exact qm_Ret.ret 2 rfl
      · rw [if_neg hc2] at ho
        by_cases hc3 : (x1 / (10 : Int32)) = (4 : Int32)
        · rw [if_pos hc3] at ho
          refine qm_Ret.sw (z := (4 : Int32)) (f1 := (103, [some (qm_r 0 12 a0), some (qm_i x1), some (qm_i v1)], [], h)) hc3 rfl rfl ?_
          refine qm_Ret.sts 3 (f' := (108, [some (qm_r 0 12 a0), some (qm_i x1), some (qm_i v1)], [qm_i (h.1 a0 25), qm_i v1], h)) rfl ?_
          refine qm_Ret.ge (t := 123) (e := 111) rfl (fun hc => ?_) (fun hc => ?_)
          · rw [if_pos hc] at ho
            refine qm_Ret.sts 5 (f' := (119, [some (qm_r 0 12 a0), some (qm_i x1), some (qm_i v1)], [qm_i ((8 : Int32) + v1), qm_r 1 16 (a0 + 13)], h)) rfl ?_
            obtain ⟨hg, ho⟩ := qm_ifn ho
            refine qm_Ret.gn (f1 := (120, [some (qm_r 0 12 a0), some (qm_i x1), some (qm_i v1)], [qm_i (h.1 (a0 + 13) ((8 : Int32) + v1).toNatClampNeg)], h)) hg rfl ?_
            cases ho
            exact qm_Ret.ret 2 rfl
          · rw [if_neg hc] at ho
            cases ho
            exact qm_Ret.ret 2 rfl
        · rw [if_neg hc3] at ho
          have nhc0 := lv_neT hc0 (show (1 : Int32).toInt = 1 by decide)
          have nhc1 := lv_neT hc1 (show (2 : Int32).toInt = 2 by decide)
          have nhc2 := lv_neT hc2 (show (3 : Int32).toInt = 3 by decide)
          have nhc3 := lv_neT hc3 (show (4 : Int32).toInt = 4 by decide)
          refine qm_Ret.swd (d := 117) (lo := 1) (hi := 4) (pc := 9) (by omega) (by decide) rfl ?_
          show qm_Ret _ (126, [some (qm_r 0 12 a0), some (qm_i x1), some (qm_i v1)], [], h) _
          refine qm_Ret.sts 6 (f' := (136, [some (qm_r 0 12 a0), some (qm_i x1), some (qm_i v1)], [qm_i ((99 : Int32) + (h.1 a0 27)), qm_i (100 : Int32), qm_i x1], h)) rfl ?_
          obtain ⟨r3, h2, hr, ho⟩ := qm_b2e ho
          refine qm_Ret.call (X := wX12_in [qm_i x1, qm_i (100 : Int32), qm_i ((99 : Int32) + (h.1 a0 27))] h) (o1 := (some (qm_i r3), h2)) (qm_mp (G := qm_Gi) hr) rfl ?_
          show qm_Ret _ (139, [some (qm_r 0 12 a0), some (qm_i x1), some (qm_i v1)], [qm_i r3], h2) _
          refine qm_Ret.ne (t := 147) (e := 142) rfl (fun hc => ?_) (fun hc => ?_)
          · rw [if_pos hc] at ho
            cases ho
            exact qm_Ret.ret 3 rfl
          · rw [if_neg hc] at ho
            refine qm_Ret.sts 4 (f' := (152, [some (qm_r 0 12 a0), some (qm_i x1), some (qm_i v1)], [qm_i (x1 - (100 : Int32)), qm_r 0 12 a0], h2)) rfl ?_
            obtain ⟨r5, h4, hr, ho⟩ := qm_b2e ho
            refine qm_Ret.call (X := wX12_isOpen [qm_r 0 12 a0, qm_i (x1 - (100 : Int32))] h2) (o1 := (some (qm_i r5), h4)) (qm_mp (G := qm_Gi) hr) rfl ?_
            show qm_Ret _ (155, [some (qm_r 0 12 a0), some (qm_i x1), some (qm_i v1)], [qm_i r5], h4) _
            refine qm_Ret.eq (t := 162) (e := 158) rfl (fun hc => ?_) (fun hc => ?_)
            · rw [if_pos hc] at ho
              refine qm_Ret.sts 4 (f' := (167, [some (qm_r 0 12 a0), some (qm_i x1), some (qm_i v1)], [qm_i (x1 - (100 : Int32)), qm_r 0 12 a0], h4)) rfl ?_
              obtain ⟨r7, h6, hr, ho⟩ := qm_b2e ho
              refine qm_Ret.call (X := wX12_strength [qm_r 0 12 a0, qm_i (x1 - (100 : Int32))] h4) (o1 := (some (qm_i r7), h6)) (qm_mp (G := qm_Gi) hr) rfl ?_
              show qm_Ret _ (170, [some (qm_r 0 12 a0), some (qm_i x1), some (qm_i v1)], [qm_i r7], h6) _
              cases ho
              exact qm_Ret.ret 1 rfl
            · rw [if_neg hc] at ho
              cases ho
              exact qm_Ret.ret 3 rfl
theorem cX12_ofRods_ok : ∀ q ∈ ([(100, 2, 3, wX12_in), (288, 0, 2, wX12_isOpen), (291, 0, 2, wX12_strength)] : List (Nat × Nat × Nat × qm_C)), qm_CallOK RX12 2 45 q.2.1 q.1 q.2.2.1 q.2.2.2 := List.forall_mem_cons.mpr ⟨Or.inl ⟨yX12_in, cX12_in, 3, (some .boolean), 0, 0, _, sX12_in, ⟨by decide, by decide⟩, ⟨jX12_in, kRX12_100, uRX12⟩, ⟨by decide, by decide, rfl⟩, Or.inr (Or.inl ⟨rfl, rfl, iX12_in⟩)⟩, List.forall_mem_cons.mpr ⟨Or.inl ⟨yX12_isOpen, cX12_isOpen, 2, (some .boolean), 1, 21, _, sX12_isOpen, ⟨by decide, by decide⟩, ⟨jX12_isOpen, kRX12_288, uRX12⟩, ⟨by decide, by decide, rfl⟩, Or.inl ⟨rfl, rfl, iX12_isOpen, recvX12_isOpen⟩⟩, List.forall_mem_cons.mpr ⟨Or.inl ⟨yX12_strength, cX12_strength, 5, (some .int), 1, 21, _, sX12_strength, ⟨by decide, by decide⟩, ⟨jX12_strength, kRX12_291, uRX12⟩, ⟨by decide, by decide, rfl⟩, Or.inl ⟨rfl, rfl, iX12_strength, recvX12_strength⟩⟩, fun _ h => absurd h List.not_mem_nil⟩⟩⟩
theorem sX12_ofRods : qm_Snd yX12_ofRods cX12_ofRods 3 (some .int) 2 45 wX12_ofRods := qm_met (fld := fun k => qm_lk k pfRX12) (con := fun k => qm_lk k pcRX12) (call := fun k => qm_lk k [(100, 2, 3, wX12_in), (288, 0, 2, wX12_isOpen), (291, 0, 2, wX12_strength)]) (tab := qm_tab aX12_ofRods) (plainFor_of_name (by decide)) (qm_fld_ok pfRX12_ok) (qm_con_ok pcRX12_ok) (fun idx kd n f hc => cX12_ofRods_ok (idx, kd, n, f) (qm_lk_mem hc)) (qm_tab_ok aX12_ofRods_ok) (fun vs h o hw => by
  unfold wX12_ofRods at hw
  split at hw
  · obtain ⟨r, hr, rfl⟩ := Option.map_eq_some_iff.mp hw
    exact ⟨Nat.le_of_ble_eq_true rfl, rX12_ofRods_0 (hr)⟩
  · cases hw)
theorem recvX12_ofRods : ∀ vs h o, wX12_ofRods vs h = some o → ∃ ci a rest, vs = qm_r 0 ci a :: rest ∧ qm_R ci = yX12_ofRods.cls := by
  intro vs h o hw
  unfold wX12_ofRods at hw
  split at hw
  · exact ⟨_, _, _, rfl, rfl⟩
  · cases hw
-- RX12 basket(II)I
theorem jX12_basket : Jvm.Cond.code yX12_basket cX12_basket 3 (some .int) ∈ qm_all := List.mem_filter.mpr ⟨by decide +kernel, rfl⟩
theorem iX12_basket : Jvm.Cond.instanceMethod yX12_basket ∈ qm_all ∧ Jvm.Cond.selects yX12_basket.cls yX12_basket yX12_basket ∈ qm_all := ⟨List.mem_filter.mpr ⟨by decide +kernel, rfl⟩, List.mem_filter.mpr ⟨by decide +kernel, rfl⟩⟩
def wX12_basket : qm_C := fun vs h => match vs with
  | [.inr (.inr (some (0, 12, p0))), .inl p1, .inl p2] => (qX12_basket p0 p1 p2 h).map qm_Gi
  | _ => none
def aX12_basket : List (Option (Instr × Nat)) := [some (.aload_n 0, 1), some (.iconst 0, 1), some (.putfield 88, 3), none, none, some (.aload_n 0, 1), some (.iload_n 1, 1), some (.invokevirtual 301, 3), none, none, some (.ifCond .ne 6, 3), none, none, some (.bipush (-2), 2), none, some (.ireturn, 1), some (.iload_n 2, 1), some (.iconst 0, 1), some (.iconst 2, 1), some (.invokestatic 100, 3), none, none, some (.ifCond .eq 11, 3), none, none, some (.aload_n 0, 1), some (.iload_n 2, 1), some (.invokevirtual 269, 3), none, none, some (.goto 31, 3), none, none, some (.iload_n 2, 1), some (.iconst 3, 1), some (.if_icmp .ne 10, 3), none, none, some (.aload_n 0, 1), some (.invokevirtual 304, 3), none, none, some (.goto 19, 3), none, none, some (.iload_n 2, 1), some (.bipush 10, 2), none, some (.if_icmp .ge 8, 3), none, none, some (.bipush (-2), 2), none, some (.goto 8, 3), none, none, some (.aload_n 0, 1), some (.iload_n 2, 1), some (.invokevirtual 307, 3), none, none, some (.ireturn, 1)]
theorem aX12_basket_ok : qm_tabok cX12_basket aX12_basket = true := by decide +kernel
def mX12_basket : qm_M := ((some .int), (fun k => qm_lk k pfRX12), (fun k => qm_lk k pcRX12), (fun k => qm_lk k [(301, 0, 2, wX12_hand), (100, 2, 3, wX12_in), (307, 0, 2, wX12_ofRods), (304, 0, 1, wX12_openMany), (269, 0, 2, wX12_of)]), qm_tab aX12_basket)
set_option maxRecDepth 20000 in
set_option maxHeartbeats 2000000 in
theorem rX12_basket_0   {a0 : Nat} {x1 : Int32} {x2 : Int32} {h : qm_H} {r : Int32 × qm_H} (ho : qX12_basket  a0 x1 x2 h = some r) : qm_Ret mX12_basket (0, [some (qm_r 0 12 a0), some (qm_i x1), some (qm_i x2)], [], h) (qm_Gi r) := by
  unfold qX12_basket at ho
  refine qm_Ret.sts 3 (f' := (5, [some (qm_r 0 12 a0), some (qm_i x1), some (qm_i x2)], [], (qm_seti h a0 0 (0 : Int32)))) rfl ?_
  refine qm_Ret.lets (F := fun h1 => (5, [some (qm_r 0 12 a0), some (qm_i x1), some (qm_i x2)], [], h1)) (G := qm_Gi) ho (fun h1 ho => ?_)
  refine qm_Ret.sts 2 (f' := (7, [some (qm_r 0 12 a0), some (qm_i x1), some (qm_i x2)], [qm_i x1, qm_r 0 12 a0], h1)) rfl ?_
  obtain ⟨r3, h2, hr, ho⟩ := qm_b2e ho
  refine qm_Ret.call (X := wX12_hand [qm_r 0 12 a0, qm_i x1] h1) (o1 := (some (qm_i r3), h2)) (qm_mp (G := qm_Gi) hr) rfl ?_
  show qm_Ret _ (10, [some (qm_r 0 12 a0), some (qm_i x1), some (qm_i x2)], [qm_i r3], h2) _
  refine qm_Ret.ne (t := 16) (e := 13) rfl (fun hc => ?_) (fun hc => ?_)
  · rw [if_pos hc] at ho
    cases ho
    exact qm_Ret.ret 2 rfl
  · rw [if_neg hc] at ho
    refine qm_Ret.sts 3 (f' := (19, [some (qm_r 0 12 a0), some (qm_i x1), some (qm_i x2)], [qm_i (2 : Int32), qm_i (0 : Int32), qm_i x2], h2)) rfl ?_
    obtain ⟨r5, h4, hr, ho⟩ := qm_b2e ho
    refine qm_Ret.call (X := wX12_in [qm_i x2, qm_i (0 : Int32), qm_i (2 : Int32)] h2) (o1 := (some (qm_i r5), h4)) (qm_mp (G := qm_Gi) hr) rfl ?_
    show qm_Ret _ (22, [some (qm_r 0 12 a0), some (qm_i x1), some (qm_i x2)], [qm_i r5], h4) _
    refine qm_Ret.eq (t := 33) (e := 25) rfl (fun hc => ?_) (fun hc => ?_)
    · rw [if_pos hc] at ho
      refine qm_Ret.sts 2 (f' := (35, [some (qm_r 0 12 a0), some (qm_i x1), some (qm_i x2)], [qm_i (3 : Int32), qm_i x2], h4)) rfl ?_
      refine qm_Ret.ne (t := 45) (e := 38) rfl (fun hc => ?_) (fun hc => ?_)
      · rw [if_pos hc] at ho
        refine qm_Ret.sts 1 (f' := (39, [some (qm_r 0 12 a0), some (qm_i x1), some (qm_i x2)], [qm_r 0 12 a0], h4)) rfl ?_
        obtain ⟨r9, h8, hr, ho⟩ := qm_b2e ho
        refine qm_Ret.call (X := wX12_openMany [qm_r 0 12 a0] h4) (o1 := (some (qm_i r9), h8)) (qm_mp (G := qm_Gi) hr) rfl ?_
        show qm_Ret _ (42, [some (qm_r 0 12 a0), some (qm_i x1), some (qm_i x2)], [qm_i r9], h8) _
        cases ho
        exact qm_Ret.ret 2 rfl
      · rw [if_neg hc] at ho
        refine qm_Ret.sts 2 (f' := (48, [some (qm_r 0 12 a0), some (qm_i x1), some (qm_i x2)], [qm_i (10 : Int32), qm_i x2], h4)) rfl ?_
        refine qm_Ret.ge (t := 56) (e := 51) rfl (fun hc => ?_) (fun hc => ?_)
        · rw [if_pos hc] at ho
          cases ho
          exact qm_Ret.ret 3 rfl
        · rw [if_neg hc] at ho
          refine qm_Ret.sts 2 (f' := (58, [some (qm_r 0 12 a0), some (qm_i x1), some (qm_i x2)], [qm_i x2, qm_r 0 12 a0], h4)) rfl ?_
          obtain ⟨r7, h6, hr, ho⟩ := qm_b2e ho
          refine qm_Ret.call (X := wX12_ofRods [qm_r 0 12 a0, qm_i x2] h4) (o1 := (some (qm_i r7), h6)) (qm_mp (G := qm_Gi) hr) rfl ?_
          show qm_Ret _ (61, [some (qm_r 0 12 a0), some (qm_i x1), some (qm_i x2)], [qm_i r7], h6) _
          cases ho
          exact qm_Ret.ret 1 rfl
    · rw [if_neg hc] at ho
      refine qm_Ret.sts 2 (f' := (27, [some (qm_r 0 12 a0), some (qm_i x1), some (qm_i x2)], [qm_i x2, qm_r 0 12 a0], h4)) rfl ?_
      obtain ⟨r11, h10, hr, ho⟩ := qm_b2e ho
      refine qm_Ret.call (X := wX12_of [qm_r 0 12 a0, qm_i x2] h4) (o1 := (some (qm_i r11), h10)) (qm_mp (G := qm_Gi) hr) rfl ?_
      show qm_Ret _ (30, [some (qm_r 0 12 a0), some (qm_i x1), some (qm_i x2)], [qm_i r11], h10) _
      cases ho
      exact qm_Ret.ret 2 rfl
theorem cX12_basket_ok : ∀ q ∈ ([(301, 0, 2, wX12_hand), (100, 2, 3, wX12_in), (307, 0, 2, wX12_ofRods), (304, 0, 1, wX12_openMany), (269, 0, 2, wX12_of)] : List (Nat × Nat × Nat × qm_C)), qm_CallOK RX12 3 67 q.2.1 q.1 q.2.2.1 q.2.2.2 := List.forall_mem_cons.mpr ⟨Or.inl ⟨yX12_hand, cX12_hand, 3, (some .boolean), 2, 44, _, sX12_hand, ⟨by decide, by decide⟩, ⟨jX12_hand, kRX12_301, uRX12⟩, ⟨by decide, by decide, rfl⟩, Or.inl ⟨rfl, rfl, iX12_hand, recvX12_hand⟩⟩, List.forall_mem_cons.mpr ⟨Or.inl ⟨yX12_in, cX12_in, 3, (some .boolean), 0, 0, _, sX12_in, ⟨by decide, by decide⟩, ⟨jX12_in, kRX12_100, uRX12⟩, ⟨by decide, by decide, rfl⟩, Or.inr (Or.inl ⟨rfl, rfl, iX12_in⟩)⟩, List.forall_mem_cons.mpr ⟨Or.inl ⟨yX12_ofRods, cX12_ofRods, 3, (some .int), 2, 45, _, sX12_ofRods, ⟨by decide, by decide⟩, ⟨jX12_ofRods, kRX12_307, uRX12⟩, ⟨by decide, by decide, rfl⟩, Or.inl ⟨rfl, rfl, iX12_ofRods, recvX12_ofRods⟩⟩, List.forall_mem_cons.mpr ⟨Or.inl ⟨yX12_openMany, cX12_openMany, 3, (some .int), 2, 43, _, sX12_openMany, ⟨by decide, by decide⟩, ⟨jX12_openMany, kRX12_304, uRX12⟩, ⟨by decide, by decide, rfl⟩, Or.inl ⟨rfl, rfl, iX12_openMany, recvX12_openMany⟩⟩, List.forall_mem_cons.mpr ⟨Or.inl ⟨yX12_of, cX12_of, 2, (some .int), 0, 0, _, sX12_of, ⟨by decide, by decide⟩, ⟨jX12_of, kRX12_269, uRX12⟩, ⟨by decide, by decide, rfl⟩, Or.inl ⟨rfl, rfl, iX12_of, recvX12_of⟩⟩, fun _ h => absurd h List.not_mem_nil⟩⟩⟩⟩⟩
theorem sX12_basket : qm_Snd yX12_basket cX12_basket 3 (some .int) 3 67 wX12_basket := qm_met (fld := fun k => qm_lk k pfRX12) (con := fun k => qm_lk k pcRX12) (call := fun k => qm_lk k [(301, 0, 2, wX12_hand), (100, 2, 3, wX12_in), (307, 0, 2, wX12_ofRods), (304, 0, 1, wX12_openMany), (269, 0, 2, wX12_of)]) (tab := qm_tab aX12_basket) (plainFor_of_name (by decide)) (qm_fld_ok pfRX12_ok) (qm_con_ok pcRX12_ok) (fun idx kd n f hc => cX12_basket_ok (idx, kd, n, f) (qm_lk_mem hc)) (qm_tab_ok aX12_basket_ok) (fun vs h o hw => by
  unfold wX12_basket at hw
  split at hw
  · obtain ⟨r, hr, rfl⟩ := Option.map_eq_some_iff.mp hw
    exact ⟨Nat.le_of_ble_eq_true rfl, rX12_basket_0 (hr)⟩
  · cases hw)
theorem recvX12_basket : ∀ vs h o, wX12_basket vs h = some o → ∃ ci a rest, vs = qm_r 0 ci a :: rest ∧ qm_R ci = yX12_basket.cls := by
  intro vs h o hw
  unfold wX12_basket at hw
  split at hw
  · exact ⟨_, _, _, rfl, rfl⟩
  · cases hw
-- RX12 slips(IIIZ)I
theorem jX12_slips : Jvm.Cond.code yX12_slips cX12_slips 6 (some .int) ∈ qm_all := List.mem_filter.mpr ⟨by decide +kernel, rfl⟩
theorem iX12_slips : Jvm.Cond.instanceMethod yX12_slips ∈ qm_all ∧ Jvm.Cond.selects yX12_slips.cls yX12_slips yX12_slips ∈ qm_all := ⟨List.mem_filter.mpr ⟨by decide +kernel, rfl⟩, List.mem_filter.mpr ⟨by decide +kernel, rfl⟩⟩
def wX12_slips : qm_C := fun vs h => match vs with
  | [.inr (.inr (some (0, 12, p0))), .inl p1, .inl p2, .inl p3, .inl p4] => (qX12_slips p0 p1 p2 p3 p4 h).map qm_Gi
  | _ => none
def aX12_slips : List (Option (Instr × Nat)) := [some (.aload_n 0, 1), some (.iconst 0, 1), some (.putfield 88, 3), none, none, some (.iload_n 2, 1), some (.iload_n 3, 1), some (.invokestatic 310, 3), none, none, some (.ifCond .eq 11, 3), none, none, some (.aload_n 0, 1), some (.iload_n 1, 1), some (.invokevirtual 301, 3), none, none, some (.ifCond .ne 6, 3), none, none, some (.bipush (-2), 2), none, some (.ireturn, 1), some (.aload_n 0, 1), some (.iload_n 2, 1), some (.iload_n 3, 1), some (.invokevirtual 313, 3), none, none, some (.istore 5, 2), none, some (.iload 4, 2), none, some (.ifCond .ne 8, 3), none, none, some (.iload 5, 2), none, some (.goto 36, 3), none, none, some (.iload 5, 2), none, some (.iconst (-1), 1), some (.if_icmp .ne 12, 3), none, none, some (.aload_n 0, 1), some (.iload_n 2, 1), some (.iload_n 3, 1), some (.invokevirtual 316, 3), none, none, some (.ifCond .ne 7, 3), none, none, some (.iconst (-1), 1), some (.goto 17, 3), none, none, some (.aload_n 0, 1), some (.aload_n 0, 1), some (.iload_n 2, 1), some (.iload_n 3, 1), some (.iconst 0, 1), some (.invokevirtual 319, 3), none, none, some (.iload_n 2, 1), some (.iload_n 3, 1), some (.iconst 0, 1), some (.invokevirtual 297, 3), none, none, some (.ireturn, 1)]
theorem aX12_slips_ok : qm_tabok cX12_slips aX12_slips = true := by decide +kernel
def mX12_slips : qm_M := ((some .int), (fun k => qm_lk k pfRX12), (fun k => qm_lk k pcRX12), (fun k => qm_lk k [(310, 2, 2, wX12_isSize), (301, 0, 2, wX12_hand), (313, 0, 3, wX12_slipsBy), (316, 0, 3, wX12_isWithin), (319, 0, 4, wX12_weakest), (297, 0, 5, wX12_holdsAt)]), qm_tab aX12_slips)
set_option maxRecDepth 20000 in
set_option maxHeartbeats 2000000 in
theorem rX12_slips_0   {a0 : Nat} {x1 : Int32} {x2 : Int32} {x3 : Int32} {x4 : Int32} {h : qm_H} {r : Int32 × qm_H} (ho : qX12_slips  a0 x1 x2 x3 x4 h = some r) : qm_Ret mX12_slips (0, [some (qm_r 0 12 a0), some (qm_i x1), some (qm_i x2), some (qm_i x3), some (qm_i x4), none], [], h) (qm_Gi r) := by
  unfold qX12_slips at ho
  refine qm_Ret.sts 3 (f' := (5, [some (qm_r 0 12 a0), some (qm_i x1), some (qm_i x2), some (qm_i x3), some (qm_i x4), none], [], (qm_seti h a0 0 (0 : Int32)))) rfl ?_
  refine qm_Ret.lets (F := fun h1 => (5, [some (qm_r 0 12 a0), some (qm_i x1), some (qm_i x2), some (qm_i x3), some (qm_i x4), none], [], h1)) (G := qm_Gi) ho (fun h1 ho => ?_)
  refine qm_Ret.sts 2 (f' := (7, [some (qm_r 0 12 a0), some (qm_i x1), some (qm_i x2), some (qm_i x3), some (qm_i x4), none], [qm_i x3, qm_i x2], h1)) rfl ?_
  obtain ⟨r3, h2, hr, ho⟩ := qm_b2e ho
  refine qm_Ret.call (X := wX12_isSize [qm_i x2, qm_i x3] h1) (o1 := (some (qm_i r3), h2)) (qm_mp (G := qm_Gi) hr) rfl ?_
  show qm_Ret _ (10, [some (qm_r 0 12 a0), some (qm_i x1), some (qm_i x2), some (qm_i x3), some (qm_i x4), none], [qm_i r3], h2) _
  refine qm_Ret.eq (t := 21) (e := 13) rfl (fun hc => ?_) (fun hc => ?_)
  · rw [if_pos hc] at ho
    cases ho
    exact qm_Ret.ret 2 rfl
  · rw [if_neg hc] at ho
    refine qm_Ret.sts 2 (f' := (15, [some (qm_r 0 12 a0), some (qm_i x1), some (qm_i x2), some (qm_i x3), some (qm_i x4), none], [qm_i x1, qm_r 0 12 a0], h2)) rfl ?_
    obtain ⟨r5, h4, hr, ho⟩ := qm_b2e ho
    refine qm_Ret.call (X := wX12_hand [qm_r 0 12 a0, qm_i x1] h2) (o1 := (some (qm_i r5), h4)) (qm_mp (G := qm_Gi) hr) rfl ?_
    show qm_Ret _ (18, [some (qm_r 0 12 a0), some (qm_i x1), some (qm_i x2), some (qm_i x3), some (qm_i x4), none], [qm_i r5], h4) _
    refine qm_Ret.ne (t := 24) (e := 21) rfl (fun hc => ?_) (fun hc => ?_)
    · rw [if_pos hc] at ho
      cases ho
      exact qm_Ret.ret 2 rfl
    · rw [if_neg hc] at ho
      refine qm_Ret.sts 3 (f' := (27, [some (qm_r 0 12 a0), some (qm_i x1), some (qm_i x2), some (qm_i x3), some (qm_i x4), none], [qm_i x3, qm_i x2, qm_r 0 12 a0], h4)) rfl ?_
      obtain ⟨r7, h6, hr, ho⟩ := qm_b2e ho
      refine qm_Ret.call (X := wX12_slipsBy [qm_r 0 12 a0, qm_i x2, qm_i x3] h4) (o1 := (some (qm_i r7), h6)) (qm_mp (G := qm_Gi) hr) rfl ?_
      show qm_Ret _ (30, [some (qm_r 0 12 a0), some (qm_i x1), some (qm_i x2), some (qm_i x3), some (qm_i x4), none], [qm_i r7], h6) _
      refine qm_Ret.sts 2 (f' := (34, [some (qm_r 0 12 a0), some (qm_i x1), some (qm_i x2), some (qm_i x3), some (qm_i x4), some (qm_i r7)], [qm_i x4], h6)) rfl ?_
      refine qm_Ret.ne (t := 42) (e := 37) rfl (fun hc => ?_) (fun hc => ?_)
      · rw [if_pos hc] at ho
        cases ho
        exact qm_Ret.ret 3 rfl
      · rw [if_neg hc] at ho
        refine qm_Ret.sts 2 (f' := (45, [some (qm_r 0 12 a0), some (qm_i x1), some (qm_i x2), some (qm_i x3), some (qm_i x4), some (qm_i r7)], [qm_i (-1 : Int32), qm_i r7], h6)) rfl ?_
        refine qm_Ret.ne (t := 57) (e := 48) rfl (fun hc => ?_) (fun hc => ?_)
        · rw [if_pos hc] at ho
          refine qm_Ret.sts 3 (f' := (51, [some (qm_r 0 12 a0), some (qm_i x1), some (qm_i x2), some (qm_i x3), some (qm_i x4), some (qm_i r7)], [qm_i x3, qm_i x2, qm_r 0 12 a0], h6)) rfl ?_
          obtain ⟨r9, h8, hr, ho⟩ := qm_b2e ho
          refine qm_Ret.call (X := wX12_isWithin [qm_r 0 12 a0, qm_i x2, qm_i x3] h6) (o1 := (some (qm_i r9), h8)) (qm_mp (G := qm_Gi) hr) rfl ?_
          show qm_Ret _ (54, [some (qm_r 0 12 a0), some (qm_i x1), some (qm_i x2), some (qm_i x3), some (qm_i x4), some (qm_i r7)], [qm_i r9], h8) _
          refine qm_Ret.ne (t := 61) (e := 57) rfl (fun hc => ?_) (fun hc => ?_)
          · rw [if_pos hc] at ho
            cases ho
            exact qm_Ret.ret 3 rfl
          · rw [if_neg hc] at ho
            refine qm_Ret.sts 5 (f' := (66, [some (qm_r 0 12 a0), some (qm_i x1), some (qm_i x2), some (qm_i x3), some (qm_i x4), some (qm_i r7)], [qm_i (0 : Int32), qm_i x3, qm_i x2, qm_r 0 12 a0, qm_r 0 12 a0], h8)) rfl ?_
            obtain ⟨r11, h10, hr, ho⟩ := qm_b2e ho
            refine qm_Ret.call (X := wX12_weakest [qm_r 0 12 a0, qm_i x2, qm_i x3, qm_i (0 : Int32)] h8) (o1 := (some (qm_i r11), h10)) (qm_mp (G := qm_Gi) hr) rfl ?_
            show qm_Ret _ (69, [some (qm_r 0 12 a0), some (qm_i x1), some (qm_i x2), some (qm_i x3), some (qm_i x4), some (qm_i r7)], [qm_i r11, qm_r 0 12 a0], h10) _
            refine qm_Ret.sts 3 (f' := (72, [some (qm_r 0 12 a0), some (qm_i x1), some (qm_i x2), some (qm_i x3), some (qm_i x4), some (qm_i r7)], [qm_i (0 : Int32), qm_i x3, qm_i x2, qm_i r11, qm_r 0 12 a0], h10)) rfl ?_
            obtain ⟨r13, h12, hr, ho⟩ := qm_b2e ho
            refine qm_Ret.call (X := wX12_holdsAt [qm_r 0 12 a0, qm_i r11, qm_i x2, qm_i x3, qm_i (0 : Int32)] h10) (o1 := (some (qm_i r13), h12)) (qm_mp (G := qm_Gi) hr) rfl ?_
            show qm_Ret _ (75, [some (qm_r 0 12 a0), some (qm_i x1), some (qm_i x2), some (qm_i x3), some (qm_i x4), some (qm_i r7)], [qm_i r13], h12) _
            cases ho
            exact qm_Ret.ret 1 rfl
        · rw [if_neg hc] at ho
          cases ho
          exact qm_Ret.ret 3 rfl
theorem cX12_slips_ok : ∀ q ∈ ([(310, 2, 2, wX12_isSize), (301, 0, 2, wX12_hand), (313, 0, 3, wX12_slipsBy), (316, 0, 3, wX12_isWithin), (319, 0, 4, wX12_weakest), (297, 0, 5, wX12_holdsAt)] : List (Nat × Nat × Nat × qm_C)), qm_CallOK RX12 4 98 q.2.1 q.1 q.2.2.1 q.2.2.2 := List.forall_mem_cons.mpr ⟨Or.inl ⟨yX12_isSize, cX12_isSize, 2, (some .boolean), 1, 22, _, sX12_isSize, ⟨by decide, by decide⟩, ⟨jX12_isSize, kRX12_310, uRX12⟩, ⟨by decide, by decide, rfl⟩, Or.inr (Or.inl ⟨rfl, rfl, iX12_isSize⟩)⟩, List.forall_mem_cons.mpr ⟨Or.inl ⟨yX12_hand, cX12_hand, 3, (some .boolean), 2, 44, _, sX12_hand, ⟨by decide, by decide⟩, ⟨jX12_hand, kRX12_301, uRX12⟩, ⟨by decide, by decide, rfl⟩, Or.inl ⟨rfl, rfl, iX12_hand, recvX12_hand⟩⟩, List.forall_mem_cons.mpr ⟨Or.inl ⟨yX12_slipsBy, cX12_slipsBy, 4, (some .int), 3, 72, _, sX12_slipsBy, ⟨by decide, by decide⟩, ⟨jX12_slipsBy, kRX12_313, uRX12⟩, ⟨by decide, by decide, rfl⟩, Or.inl ⟨rfl, rfl, iX12_slipsBy, recvX12_slipsBy⟩⟩, List.forall_mem_cons.mpr ⟨Or.inl ⟨yX12_isWithin, cX12_isWithin, 3, (some .boolean), 0, 0, _, sX12_isWithin, ⟨by decide, by decide⟩, ⟨jX12_isWithin, kRX12_316, uRX12⟩, ⟨by decide, by decide, rfl⟩, Or.inl ⟨rfl, rfl, iX12_isWithin, recvX12_isWithin⟩⟩, List.forall_mem_cons.mpr ⟨Or.inl ⟨yX12_weakest, cX12_weakest, 7, (some .int), 3, 72, _, sX12_weakest, ⟨by decide, by decide⟩, ⟨jX12_weakest, kRX12_319, uRX12⟩, ⟨by decide, by decide, rfl⟩, Or.inl ⟨rfl, rfl, iX12_weakest, recvX12_weakest⟩⟩, List.forall_mem_cons.mpr ⟨Or.inl ⟨yX12_holdsAt, cX12_holdsAt, 8, (some .int), 2, 45, _, sX12_holdsAt, ⟨by decide, by decide⟩, ⟨jX12_holdsAt, kRX12_297, uRX12⟩, ⟨by decide, by decide, rfl⟩, Or.inl ⟨rfl, rfl, iX12_holdsAt, recvX12_holdsAt⟩⟩, fun _ h => absurd h List.not_mem_nil⟩⟩⟩⟩⟩⟩
theorem sX12_slips : qm_Snd yX12_slips cX12_slips 6 (some .int) 4 98 wX12_slips := qm_met (fld := fun k => qm_lk k pfRX12) (con := fun k => qm_lk k pcRX12) (call := fun k => qm_lk k [(310, 2, 2, wX12_isSize), (301, 0, 2, wX12_hand), (313, 0, 3, wX12_slipsBy), (316, 0, 3, wX12_isWithin), (319, 0, 4, wX12_weakest), (297, 0, 5, wX12_holdsAt)]) (tab := qm_tab aX12_slips) (plainFor_of_name (by decide)) (qm_fld_ok pfRX12_ok) (qm_con_ok pcRX12_ok) (fun idx kd n f hc => cX12_slips_ok (idx, kd, n, f) (qm_lk_mem hc)) (qm_tab_ok aX12_slips_ok) (fun vs h o hw => by
  unfold wX12_slips at hw
  split at hw
  · obtain ⟨r, hr, rfl⟩ := Option.map_eq_some_iff.mp hw
    exact ⟨Nat.le_of_ble_eq_true rfl, rX12_slips_0 (hr)⟩
  · cases hw)
theorem recvX12_slips : ∀ vs h o, wX12_slips vs h = some o → ∃ ci a rest, vs = qm_r 0 ci a :: rest ∧ qm_R ci = yX12_slips.cls := by
  intro vs h o hw
  unfold wX12_slips at hw
  split at hw
  · exact ⟨_, _, _, rfl, rfl⟩
  · cases hw
-- RX12 deeds()I
theorem jX12_deeds : Jvm.Cond.code yX12_deeds cX12_deeds 1 (some .int) ∈ qm_all := List.mem_filter.mpr ⟨by decide +kernel, rfl⟩
theorem iX12_deeds : Jvm.Cond.instanceMethod yX12_deeds ∈ qm_all ∧ Jvm.Cond.selects yX12_deeds.cls yX12_deeds yX12_deeds ∈ qm_all := ⟨List.mem_filter.mpr ⟨by decide +kernel, rfl⟩, List.mem_filter.mpr ⟨by decide +kernel, rfl⟩⟩
def wX12_deeds : qm_C := fun vs h => match vs with
  | [.inr (.inr (some (0, 12, p0)))] => (qX12_deeds p0 h).map qm_Gi
  | _ => none
def aX12_deeds : List (Option (Instr × Nat)) := [some (.aload_n 0, 1), some (.getfield 29, 3), none, none, some (.sipush 161, 3), none, none, some (.aload_n 0, 1), some (.getfield 323, 3), none, none, some (.imul, 1), some (.iaload, 1), some (.ireturn, 1)]
theorem aX12_deeds_ok : qm_tabok cX12_deeds aX12_deeds = true := by decide +kernel
def mX12_deeds : qm_M := ((some .int), (fun k => qm_lk k pfRX12), (fun k => qm_lk k pcRX12), (fun k => qm_lk k []), qm_tab aX12_deeds)
set_option maxRecDepth 20000 in
set_option maxHeartbeats 2000000 in
theorem rX12_deeds_0   {a0 : Nat} {h : qm_H} {r : Int32 × qm_H} (ho : qX12_deeds  a0 h = some r) : qm_Ret mX12_deeds (0, [some (qm_r 0 12 a0)], [], h) (qm_Gi r) := by
  unfold qX12_deeds at ho
  refine qm_Ret.sts 6 (f' := (12, [some (qm_r 0 12 a0)], [qm_i ((161 : Int32) * (h.1 a0 32)), qm_r 1 1288 (a0 + 7)], h)) rfl ?_
  obtain ⟨hg, ho⟩ := qm_ifn ho
  refine qm_Ret.gn (f1 := (13, [some (qm_r 0 12 a0)], [qm_i (h.1 (a0 + 7) ((161 : Int32) * (h.1 a0 32)).toNatClampNeg)], h)) hg rfl ?_
  cases ho
  exact qm_Ret.ret 1 rfl
theorem cX12_deeds_ok : ∀ q ∈ ([] : List (Nat × Nat × Nat × qm_C)), qm_CallOK RX12 0 0 q.2.1 q.1 q.2.2.1 q.2.2.2 := fun _ h => absurd h List.not_mem_nil
theorem sX12_deeds : qm_Snd yX12_deeds cX12_deeds 1 (some .int) 0 0 wX12_deeds := qm_met (fld := fun k => qm_lk k pfRX12) (con := fun k => qm_lk k pcRX12) (call := fun k => qm_lk k []) (tab := qm_tab aX12_deeds) (plainFor_of_name (by decide)) (qm_fld_ok pfRX12_ok) (qm_con_ok pcRX12_ok) (fun idx kd n f hc => cX12_deeds_ok (idx, kd, n, f) (qm_lk_mem hc)) (qm_tab_ok aX12_deeds_ok) (fun vs h o hw => by
  unfold wX12_deeds at hw
  split at hw
  · obtain ⟨r, hr, rfl⟩ := Option.map_eq_some_iff.mp hw
    exact ⟨Nat.le_of_ble_eq_true rfl, rX12_deeds_0 (hr)⟩
  · cases hw)
theorem recvX12_deeds : ∀ vs h o, wX12_deeds vs h = some o → ∃ ci a rest, vs = qm_r 0 ci a :: rest ∧ qm_R ci = yX12_deeds.cls := by
  intro vs h o hw
  unfold wX12_deeds at hw
  split at hw
  · exact ⟨_, _, _, rfl, rfl⟩
  · cases hw
-- RX12 deedOf(II)I
theorem jX12_deedOf : Jvm.Cond.code yX12_deedOf cX12_deedOf 3 (some .int) ∈ qm_all := List.mem_filter.mpr ⟨by decide +kernel, rfl⟩
theorem iX12_deedOf : Jvm.Cond.instanceMethod yX12_deedOf ∈ qm_all ∧ Jvm.Cond.selects yX12_deedOf.cls yX12_deedOf yX12_deedOf ∈ qm_all := ⟨List.mem_filter.mpr ⟨by decide +kernel, rfl⟩, List.mem_filter.mpr ⟨by decide +kernel, rfl⟩⟩
def wX12_deedOf : qm_C := fun vs h => match vs with
  | [.inr (.inr (some (0, 12, p0))), .inl p1, .inl p2] => (qX12_deedOf p0 p1 p2 h).map qm_Gi
  | _ => none
def aX12_deedOf : List (Option (Instr × Nat)) := [some (.aload_n 0, 1), some (.getfield 29, 3), none, none, some (.sipush 161, 3), none, none, some (.aload_n 0, 1), some (.getfield 323, 3), none, none, some (.imul, 1), some (.iconst 1, 1), some (.iadd, 1), some (.iconst 4, 1), some (.iload_n 1, 1), some (.imul, 1), some (.iadd, 1), some (.iload_n 2, 1), some (.iadd, 1), some (.iaload, 1), some (.ireturn, 1)]
theorem aX12_deedOf_ok : qm_tabok cX12_deedOf aX12_deedOf = true := by decide +kernel
def mX12_deedOf : qm_M := ((some .int), (fun k => qm_lk k pfRX12), (fun k => qm_lk k pcRX12), (fun k => qm_lk k []), qm_tab aX12_deedOf)
set_option maxRecDepth 20000 in
set_option maxHeartbeats 2000000 in
theorem rX12_deedOf_0   {a0 : Nat} {x1 : Int32} {x2 : Int32} {h : qm_H} {r : Int32 × qm_H} (ho : qX12_deedOf  a0 x1 x2 h = some r) : qm_Ret mX12_deedOf (0, [some (qm_r 0 12 a0), some (qm_i x1), some (qm_i x2)], [], h) (qm_Gi r) := by
  unfold qX12_deedOf at ho
  refine qm_Ret.sts 14 (f' := (20, [some (qm_r 0 12 a0), some (qm_i x1), some (qm_i x2)], [qm_i (((((161 : Int32) * (h.1 a0 32)) + (1 : Int32)) + ((4 : Int32) * x1)) + x2), qm_r 1 1288 (a0 + 7)], h)) rfl ?_
  obtain ⟨hg, ho⟩ := qm_ifn ho
  refine qm_Ret.gn (f1 := (21, [some (qm_r 0 12 a0), some (qm_i x1), some (qm_i x2)], [qm_i (h.1 (a0 + 7) (((((161 : Int32) * (h.1 a0 32)) + (1 : Int32)) + ((4 : Int32) * x1)) + x2).toNatClampNeg)], h)) hg rfl ?_
  cases ho
  exact qm_Ret.ret 1 rfl
theorem cX12_deedOf_ok : ∀ q ∈ ([] : List (Nat × Nat × Nat × qm_C)), qm_CallOK RX12 0 0 q.2.1 q.1 q.2.2.1 q.2.2.2 := fun _ h => absurd h List.not_mem_nil
theorem sX12_deedOf : qm_Snd yX12_deedOf cX12_deedOf 3 (some .int) 0 0 wX12_deedOf := qm_met (fld := fun k => qm_lk k pfRX12) (con := fun k => qm_lk k pcRX12) (call := fun k => qm_lk k []) (tab := qm_tab aX12_deedOf) (plainFor_of_name (by decide)) (qm_fld_ok pfRX12_ok) (qm_con_ok pcRX12_ok) (fun idx kd n f hc => cX12_deedOf_ok (idx, kd, n, f) (qm_lk_mem hc)) (qm_tab_ok aX12_deedOf_ok) (fun vs h o hw => by
  unfold wX12_deedOf at hw
  split at hw
  · obtain ⟨r, hr, rfl⟩ := Option.map_eq_some_iff.mp hw
    exact ⟨Nat.le_of_ble_eq_true rfl, rX12_deedOf_0 (hr)⟩
  · cases hw)
theorem recvX12_deedOf : ∀ vs h o, wX12_deedOf vs h = some o → ∃ ci a rest, vs = qm_r 0 ci a :: rest ∧ qm_R ci = yX12_deedOf.cls := by
  intro vs h o hw
  unfold wX12_deedOf at hw
  split at hw
  · exact ⟨_, _, _, rfl, rfl⟩
  · cases hw
-- RX12 hasYear(I)Z
theorem jX12_hasYear : Jvm.Cond.code yX12_hasYear cX12_hasYear 2 (some .boolean) ∈ qm_all := List.mem_filter.mpr ⟨by decide +kernel, rfl⟩
theorem iX12_hasYear : Jvm.Cond.instanceMethod yX12_hasYear ∈ qm_all ∧ Jvm.Cond.selects yX12_hasYear.cls yX12_hasYear yX12_hasYear ∈ qm_all := ⟨List.mem_filter.mpr ⟨by decide +kernel, rfl⟩, List.mem_filter.mpr ⟨by decide +kernel, rfl⟩⟩
def wX12_hasYear : qm_C := fun vs h => match vs with
  | [.inr (.inr (some (0, 12, p0))), .inl p1] => (qX12_hasYear p0 p1 h).map qm_Gi
  | _ => none
def aX12_hasYear : List (Option (Instr × Nat)) := [some (.aload_n 0, 1), some (.iload_n 1, 1), some (.putfield 323, 3), none, none, some (.aload_n 0, 1), some (.iconst 1, 1), some (.iload_n 1, 1), some (.invokevirtual 257, 3), none, none, some (.ireturn, 1)]
theorem aX12_hasYear_ok : qm_tabok cX12_hasYear aX12_hasYear = true := by decide +kernel
def mX12_hasYear : qm_M := ((some .boolean), (fun k => qm_lk k pfRX12), (fun k => qm_lk k pcRX12), (fun k => qm_lk k [(257, 0, 3, wX12_is)]), qm_tab aX12_hasYear)
set_option maxRecDepth 20000 in
set_option maxHeartbeats 2000000 in
theorem rX12_hasYear_0   {a0 : Nat} {x1 : Int32} {h : qm_H} {r : Int32 × qm_H} (ho : qX12_hasYear  a0 x1 h = some r) : qm_Ret mX12_hasYear (0, [some (qm_r 0 12 a0), some (qm_i x1)], [], h) (qm_Gi r) := by
  unfold qX12_hasYear at ho
  refine qm_Ret.sts 6 (f' := (8, [some (qm_r 0 12 a0), some (qm_i x1)], [qm_i x1, qm_i (1 : Int32), qm_r 0 12 a0], (qm_seti h a0 32 x1))) rfl ?_
  obtain ⟨r2, h1, hr, ho⟩ := qm_b2e ho
  refine qm_Ret.call (X := wX12_is [qm_r 0 12 a0, qm_i (1 : Int32), qm_i x1] (qm_seti h a0 32 x1)) (o1 := (some (qm_i r2), h1)) (qm_mp (G := qm_Gi) hr) rfl ?_
  show qm_Ret _ (11, [some (qm_r 0 12 a0), some (qm_i x1)], [qm_i r2], h1) _
  obtain ⟨hz, ho⟩ := qm_if ho
  cases ho
  exact qm_Ret.gr hz rfl
theorem cX12_hasYear_ok : ∀ q ∈ ([(257, 0, 3, wX12_is)] : List (Nat × Nat × Nat × qm_C)), qm_CallOK RX12 2 44 q.2.1 q.1 q.2.2.1 q.2.2.2 := List.forall_mem_cons.mpr ⟨Or.inl ⟨yX12_is, cX12_is, 3, (some .boolean), 1, 22, _, sX12_is, ⟨by decide, by decide⟩, ⟨jX12_is, kRX12_257, uRX12⟩, ⟨by decide, by decide, rfl⟩, Or.inl ⟨rfl, rfl, iX12_is, recvX12_is⟩⟩, fun _ h => absurd h List.not_mem_nil⟩
theorem sX12_hasYear : qm_Snd yX12_hasYear cX12_hasYear 2 (some .boolean) 2 44 wX12_hasYear := qm_met (fld := fun k => qm_lk k pfRX12) (con := fun k => qm_lk k pcRX12) (call := fun k => qm_lk k [(257, 0, 3, wX12_is)]) (tab := qm_tab aX12_hasYear) (plainFor_of_name (by decide)) (qm_fld_ok pfRX12_ok) (qm_con_ok pcRX12_ok) (fun idx kd n f hc => cX12_hasYear_ok (idx, kd, n, f) (qm_lk_mem hc)) (qm_tab_ok aX12_hasYear_ok) (fun vs h o hw => by
  unfold wX12_hasYear at hw
  split at hw
  · obtain ⟨r, hr, rfl⟩ := Option.map_eq_some_iff.mp hw
    exact ⟨Nat.le_of_ble_eq_true rfl, rX12_hasYear_0 (hr)⟩
  · cases hw)
theorem recvX12_hasYear : ∀ vs h o, wX12_hasYear vs h = some o → ∃ ci a rest, vs = qm_r 0 ci a :: rest ∧ qm_R ci = yX12_hasYear.cls := by
  intro vs h o hw
  unfold wX12_hasYear at hw
  split at hw
  · exact ⟨_, _, _, rfl, rfl⟩
  · cases hw
-- RX12 deed(III)I
theorem jX12_deed : Jvm.Cond.code yX12_deed cX12_deed 4 (some .int) ∈ qm_all := List.mem_filter.mpr ⟨by decide +kernel, rfl⟩
theorem iX12_deed : Jvm.Cond.instanceMethod yX12_deed ∈ qm_all ∧ Jvm.Cond.selects yX12_deed.cls yX12_deed yX12_deed ∈ qm_all := ⟨List.mem_filter.mpr ⟨by decide +kernel, rfl⟩, List.mem_filter.mpr ⟨by decide +kernel, rfl⟩⟩
def wX12_deed : qm_C := fun vs h => match vs with
  | [.inr (.inr (some (0, 12, p0))), .inl p1, .inl p2, .inl p3] => (qX12_deed p0 p1 p2 p3 h).map qm_Gi
  | _ => none
def aX12_deed : List (Option (Instr × Nat)) := [some (.aload_n 0, 1), some (.iconst 0, 1), some (.putfield 88, 3), none, none, some (.aload_n 0, 1), some (.iload_n 1, 1), some (.invokevirtual 326, 3), none, none, some (.ifCond .ne 6, 3), none, none, some (.bipush (-2), 2), none, some (.ireturn, 1), some (.iload_n 2, 1), some (.iconst (-1), 1), some (.if_icmp .ne 17, 3), none, none, some (.iload_n 3, 1), some (.ifCond .ne 10, 3), none, none, some (.aload_n 0, 1), some (.invokevirtual 329, 3), none, none, some (.goto 5, 3), none, none, some (.bipush (-2), 2), none, some (.ireturn, 1), some (.iload_n 2, 1), some (.iconst 0, 1), some (.aload_n 0, 1), some (.invokevirtual 329, 3), none, none, some (.iconst 1, 1), some (.isub, 1), some (.invokestatic 100, 3), none, none, some (.ifCond .eq 21, 3), none, none, some (.iload_n 3, 1), some (.iconst 0, 1), some (.iconst 3, 1), some (.invokestatic 100, 3), none, none, some (.ifCond .eq 12, 3), none, none, some (.aload_n 0, 1), some (.iload_n 2, 1), some (.iload_n 3, 1), some (.invokevirtual 332, 3), none, none, some (.goto 5, 3), none, none, some (.bipush (-2), 2), none, some (.ireturn, 1)]
theorem aX12_deed_ok : qm_tabok cX12_deed aX12_deed = true := by decide +kernel
def mX12_deed : qm_M := ((some .int), (fun k => qm_lk k pfRX12), (fun k => qm_lk k pcRX12), (fun k => qm_lk k [(326, 0, 2, wX12_hasYear), (329, 0, 1, wX12_deeds), (100, 2, 3, wX12_in), (332, 0, 3, wX12_deedOf)]), qm_tab aX12_deed)
set_option maxRecDepth 20000 in
set_option maxHeartbeats 2000000 in
theorem rX12_deed_0   {a0 : Nat} {x1 : Int32} {x2 : Int32} {x3 : Int32} {h : qm_H} {r : Int32 × qm_H} (ho : qX12_deed  a0 x1 x2 x3 h = some r) : qm_Ret mX12_deed (0, [some (qm_r 0 12 a0), some (qm_i x1), some (qm_i x2), some (qm_i x3)], [], h) (qm_Gi r) := by
  unfold qX12_deed at ho
  refine qm_Ret.sts 3 (f' := (5, [some (qm_r 0 12 a0), some (qm_i x1), some (qm_i x2), some (qm_i x3)], [], (qm_seti h a0 0 (0 : Int32)))) rfl ?_
  refine qm_Ret.lets (F := fun h1 => (5, [some (qm_r 0 12 a0), some (qm_i x1), some (qm_i x2), some (qm_i x3)], [], h1)) (G := qm_Gi) ho (fun h1 ho => ?_)
  refine qm_Ret.sts 2 (f' := (7, [some (qm_r 0 12 a0), some (qm_i x1), some (qm_i x2), some (qm_i x3)], [qm_i x1, qm_r 0 12 a0], h1)) rfl ?_
  obtain ⟨r3, h2, hr, ho⟩ := qm_b2e ho
  refine qm_Ret.call (X := wX12_hasYear [qm_r 0 12 a0, qm_i x1] h1) (o1 := (some (qm_i r3), h2)) (qm_mp (G := qm_Gi) hr) rfl ?_
  show qm_Ret _ (10, [some (qm_r 0 12 a0), some (qm_i x1), some (qm_i x2), some (qm_i x3)], [qm_i r3], h2) _
  refine qm_Ret.ne (t := 16) (e := 13) rfl (fun hc => ?_) (fun hc => ?_)
  · rw [if_pos hc] at ho
    cases ho
    exact qm_Ret.ret 2 rfl
  · rw [if_neg hc] at ho
    refine qm_Ret.sts 2 (f' := (18, [some (qm_r 0 12 a0), some (qm_i x1), some (qm_i x2), some (qm_i x3)], [qm_i (-1 : Int32), qm_i x2], h2)) rfl ?_
    refine qm_Ret.ne (t := 35) (e := 21) rfl (fun hc => ?_) (fun hc => ?_)
    · rw [if_pos hc] at ho
      refine qm_Ret.sts 1 (f' := (22, [some (qm_r 0 12 a0), some (qm_i x1), some (qm_i x2), some (qm_i x3)], [qm_i x3], h2)) rfl ?_
      refine qm_Ret.ne (t := 32) (e := 25) rfl (fun hc => ?_) (fun hc => ?_)
      · rw [if_pos hc] at ho
        refine qm_Ret.sts 1 (f' := (26, [some (qm_r 0 12 a0), some (qm_i x1), some (qm_i x2), some (qm_i x3)], [qm_r 0 12 a0], h2)) rfl ?_
        obtain ⟨r13, h12, hr, ho⟩ := qm_b2e ho
        refine qm_Ret.call (X := wX12_deeds [qm_r 0 12 a0] h2) (o1 := (some (qm_i r13), h12)) (qm_mp (G := qm_Gi) hr) rfl ?_
        show qm_Ret _ (29, [some (qm_r 0 12 a0), some (qm_i x1), some (qm_i x2), some (qm_i x3)], [qm_i r13], h12) _
        cases ho
        exact qm_Ret.ret 2 rfl
      · rw [if_neg hc] at ho
        cases ho
        exact qm_Ret.ret 2 rfl
    · rw [if_neg hc] at ho
      refine qm_Ret.sts 3 (f' := (38, [some (qm_r 0 12 a0), some (qm_i x1), some (qm_i x2), some (qm_i x3)], [qm_r 0 12 a0, qm_i (0 : Int32), qm_i x2], h2)) rfl ?_
      obtain ⟨r5, h4, hr, ho⟩ := qm_b2e ho
      refine qm_Ret.call (X := wX12_deeds [qm_r 0 12 a0] h2) (o1 := (some (qm_i r5), h4)) (qm_mp (G := qm_Gi) hr) rfl ?_
      show qm_Ret _ (41, [some (qm_r 0 12 a0), some (qm_i x1), some (qm_i x2), some (qm_i x3)], [qm_i r5, qm_i (0 : Int32), qm_i x2], h4) _
      refine qm_Ret.sts 2 (f' := (43, [some (qm_r 0 12 a0), some (qm_i x1), some (qm_i x2), some (qm_i x3)], [qm_i (r5 - (1 : Int32)), qm_i (0 : Int32), qm_i x2], h4)) rfl ?_
      obtain ⟨r7, h6, hr, ho⟩ := qm_b2e ho
      refine qm_Ret.call (X := wX12_in [qm_i x2, qm_i (0 : Int32), qm_i (r5 - (1 : Int32))] h4) (o1 := (some (qm_i r7), h6)) (qm_mp (G := qm_Gi) hr) rfl ?_
      show qm_Ret _ (46, [some (qm_r 0 12 a0), some (qm_i x1), some (qm_i x2), some (qm_i x3)], [qm_i r7], h6) _
      refine qm_Ret.eq (t := 67) (e := 49) rfl (fun hc => ?_) (fun hc => ?_)
      · rw [if_pos hc] at ho
        cases ho
        exact qm_Ret.ret 2 rfl
      · rw [if_neg hc] at ho
        refine qm_Ret.sts 3 (f' := (52, [some (qm_r 0 12 a0), some (qm_i x1), some (qm_i x2), some (qm_i x3)], [qm_i (3 : Int32), qm_i (0 : Int32), qm_i x3], h6)) rfl ?_
        obtain ⟨r9, h8, hr, ho⟩ := qm_b2e ho
        refine qm_Ret.call (X := wX12_in [qm_i x3, qm_i (0 : Int32), qm_i (3 : Int32)] h6) (o1 := (some (qm_i r9), h8)) (qm_mp (G := qm_Gi) hr) rfl ?_
        show qm_Ret _ (55, [some (qm_r 0 12 a0), some (qm_i x1), some (qm_i x2), some (qm_i x3)], [qm_i r9], h8) _
        refine qm_Ret.eq (t := 67) (e := 58) rfl (fun hc => ?_) (fun hc => ?_)
        · rw [if_pos hc] at ho
          cases ho
          exact qm_Ret.ret 2 rfl
        · rw [if_neg hc] at ho
          refine qm_Ret.sts 3 (f' := (61, [some (qm_r 0 12 a0), some (qm_i x1), some (qm_i x2), some (qm_i x3)], [qm_i x3, qm_i x2, qm_r 0 12 a0], h8)) rfl ?_
          obtain ⟨r11, h10, hr, ho⟩ := qm_b2e ho
          refine qm_Ret.call (X := wX12_deedOf [qm_r 0 12 a0, qm_i x2, qm_i x3] h8) (o1 := (some (qm_i r11), h10)) (qm_mp (G := qm_Gi) hr) rfl ?_
          show qm_Ret _ (64, [some (qm_r 0 12 a0), some (qm_i x1), some (qm_i x2), some (qm_i x3)], [qm_i r11], h10) _
          cases ho
          exact qm_Ret.ret 2 rfl
theorem cX12_deed_ok : ∀ q ∈ ([(326, 0, 2, wX12_hasYear), (329, 0, 1, wX12_deeds), (100, 2, 3, wX12_in), (332, 0, 3, wX12_deedOf)] : List (Nat × Nat × Nat × qm_C)), qm_CallOK RX12 3 65 q.2.1 q.1 q.2.2.1 q.2.2.2 := List.forall_mem_cons.mpr ⟨Or.inl ⟨yX12_hasYear, cX12_hasYear, 2, (some .boolean), 2, 44, _, sX12_hasYear, ⟨by decide, by decide⟩, ⟨jX12_hasYear, kRX12_326, uRX12⟩, ⟨by decide, by decide, rfl⟩, Or.inl ⟨rfl, rfl, iX12_hasYear, recvX12_hasYear⟩⟩, List.forall_mem_cons.mpr ⟨Or.inl ⟨yX12_deeds, cX12_deeds, 1, (some .int), 0, 0, _, sX12_deeds, ⟨by decide, by decide⟩, ⟨jX12_deeds, kRX12_329, uRX12⟩, ⟨by decide, by decide, rfl⟩, Or.inl ⟨rfl, rfl, iX12_deeds, recvX12_deeds⟩⟩, List.forall_mem_cons.mpr ⟨Or.inl ⟨yX12_in, cX12_in, 3, (some .boolean), 0, 0, _, sX12_in, ⟨by decide, by decide⟩, ⟨jX12_in, kRX12_100, uRX12⟩, ⟨by decide, by decide, rfl⟩, Or.inr (Or.inl ⟨rfl, rfl, iX12_in⟩)⟩, List.forall_mem_cons.mpr ⟨Or.inl ⟨yX12_deedOf, cX12_deedOf, 3, (some .int), 0, 0, _, sX12_deedOf, ⟨by decide, by decide⟩, ⟨jX12_deedOf, kRX12_332, uRX12⟩, ⟨by decide, by decide, rfl⟩, Or.inl ⟨rfl, rfl, iX12_deedOf, recvX12_deedOf⟩⟩, fun _ h => absurd h List.not_mem_nil⟩⟩⟩⟩
theorem sX12_deed : qm_Snd yX12_deed cX12_deed 4 (some .int) 3 65 wX12_deed := qm_met (fld := fun k => qm_lk k pfRX12) (con := fun k => qm_lk k pcRX12) (call := fun k => qm_lk k [(326, 0, 2, wX12_hasYear), (329, 0, 1, wX12_deeds), (100, 2, 3, wX12_in), (332, 0, 3, wX12_deedOf)]) (tab := qm_tab aX12_deed) (plainFor_of_name (by decide)) (qm_fld_ok pfRX12_ok) (qm_con_ok pcRX12_ok) (fun idx kd n f hc => cX12_deed_ok (idx, kd, n, f) (qm_lk_mem hc)) (qm_tab_ok aX12_deed_ok) (fun vs h o hw => by
  unfold wX12_deed at hw
  split at hw
  · obtain ⟨r, hr, rfl⟩ := Option.map_eq_some_iff.mp hw
    exact ⟨Nat.le_of_ble_eq_true rfl, rX12_deed_0 (hr)⟩
  · cases hw)
theorem recvX12_deed : ∀ vs h o, wX12_deed vs h = some o → ∃ ci a rest, vs = qm_r 0 ci a :: rest ∧ qm_R ci = yX12_deed.cls := by
  intro vs h o hw
  unfold wX12_deed at hw
  split at hw
  · exact ⟨_, _, _, rfl, rfl⟩
  · cases hw
-- RX12 begin()V
theorem jX12_begin : Jvm.Cond.code yX12_begin cX12_begin 2 none ∈ qm_all := List.mem_filter.mpr ⟨by decide +kernel, rfl⟩
theorem iX12_begin : Jvm.Cond.instanceMethod yX12_begin ∈ qm_all ∧ Jvm.Cond.selects yX12_begin.cls yX12_begin yX12_begin ∈ qm_all := ⟨List.mem_filter.mpr ⟨by decide +kernel, rfl⟩, List.mem_filter.mpr ⟨by decide +kernel, rfl⟩⟩
def wX12_begin : qm_C := fun vs h => match vs with
  | [.inr (.inr (some (0, 12, p0)))] => (qX12_begin p0 h).map qm_Gv
  | _ => none
def aX12_begin : List (Option (Instr × Nat)) := [some (.iconst 0, 1), some (.istore_n 1, 1), some (.iload_n 1, 1), some (.iconst 3, 1), some (.if_icmp .ge 16, 3), none, none, some (.aload_n 0, 1), some (.getfield 53, 3), none, none, some (.iload_n 1, 1), some (.iconst 0, 1), some (.iastore, 1), some (.iinc 1 1, 3), none, none, some (.goto (-15), 3), none, none, some (.return_, 1)]
theorem aX12_begin_ok : qm_tabok cX12_begin aX12_begin = true := by decide +kernel
def mX12_begin : qm_M := (none, (fun k => qm_lk k pfRX12), (fun k => qm_lk k pcRX12), (fun k => qm_lk k []), qm_tab aX12_begin)
set_option maxRecDepth 20000 in
set_option maxHeartbeats 2000000 in
theorem rX12_begin_2   : ∀ {fuel : Nat} {a0 : Nat} {x1 : Int32} {h : qm_H} {r : qm_H}, qX12_begin_2  fuel a0 x1 h = some r → qm_Ret mX12_begin (2, [some (qm_r 0 12 a0), some (qm_i x1)], [], h) (qm_Gv r) := by
  intro fuel
  induction fuel with
  | zero => intros; rename_i ho; cases ho
  | succ n ih =>
    intro a0 x1 h r ho
    unfold qX12_begin_2 at ho
    refine qm_Ret.sts 2 (f' := (4, [some (qm_r 0 12 a0), some (qm_i x1)], [qm_i (3 : Int32), qm_i x1], h)) rfl ?_
    refine qm_Ret.ge (t := 20) (e := 7) rfl (fun hc => ?_) (fun hc => ?_)
    · rw [if_pos hc] at ho
      refine qm_Ret.sts 4 (f' := (13, [some (qm_r 0 12 a0), some (qm_i x1)], [qm_i (0 : Int32), qm_i x1, qm_r 1 3 (a0 + 15)], h)) rfl ?_
      obtain ⟨hg, ho⟩ := qm_ifn ho
      refine qm_Ret.gn (f1 := (14, [some (qm_r 0 12 a0), some (qm_i x1)], [], (qm_seti h (a0 + 15) (x1).toNatClampNeg (0 : Int32)))) hg rfl ?_
      refine qm_Ret.lets (F := fun h1 => (14, [some (qm_r 0 12 a0), some (qm_i x1)], [], h1)) (G := qm_Gv) ho (fun h1 ho => ?_)
      refine qm_Ret.sts 2 (f' := (2, [some (qm_r 0 12 a0), some (qm_i (x1 + (1 : Int32)))], [], h1)) rfl ?_
      exact ih ho
    · rw [if_neg hc] at ho
      cases ho
      exact qm_Ret.ret 1 rfl
set_option maxRecDepth 20000 in
set_option maxHeartbeats 2000000 in
theorem rX12_begin_0   {a0 : Nat} {h : qm_H} {r : qm_H} (ho : qX12_begin  a0 h = some r) : qm_Ret mX12_begin (0, [some (qm_r 0 12 a0), none], [], h) (qm_Gv r) := by
  unfold qX12_begin at ho
  refine qm_Ret.sts 2 (f' := (2, [some (qm_r 0 12 a0), some (qm_i (0 : Int32))], [], h)) rfl ?_
  exact rX12_begin_2 ho
theorem cX12_begin_ok : ∀ q ∈ ([] : List (Nat × Nat × Nat × qm_C)), qm_CallOK RX12 0 0 q.2.1 q.1 q.2.2.1 q.2.2.2 := fun _ h => absurd h List.not_mem_nil
theorem sX12_begin : qm_Snd yX12_begin cX12_begin 2 none 0 0 wX12_begin := qm_met (fld := fun k => qm_lk k pfRX12) (con := fun k => qm_lk k pcRX12) (call := fun k => qm_lk k []) (tab := qm_tab aX12_begin) (plainFor_of_name (by decide)) (qm_fld_ok pfRX12_ok) (qm_con_ok pcRX12_ok) (fun idx kd n f hc => cX12_begin_ok (idx, kd, n, f) (qm_lk_mem hc)) (qm_tab_ok aX12_begin_ok) (fun vs h o hw => by
  unfold wX12_begin at hw
  split at hw
  · obtain ⟨r, hr, rfl⟩ := Option.map_eq_some_iff.mp hw
    exact ⟨Nat.le_of_ble_eq_true rfl, rX12_begin_0 (hr)⟩
  · cases hw)
theorem recvX12_begin : ∀ vs h o, wX12_begin vs h = some o → ∃ ci a rest, vs = qm_r 0 ci a :: rest ∧ qm_R ci = yX12_begin.cls := by
  intro vs h o hw
  unfold wX12_begin at hw
  split at hw
  · exact ⟨_, _, _, rfl, rfl⟩
  · cases hw
