-- RX0 gapIn(JII)I
theorem jX0_gapIn : Jvm.Cond.code yX0_gapIn cX0_gapIn 11 (some .int) ∈ qm_all := List.mem_filter.mpr ⟨by decide +kernel, rfl⟩
theorem iX0_gapIn : Jvm.Cond.instanceMethod yX0_gapIn ∈ qm_all ∧ Jvm.Cond.selects yX0_gapIn.cls yX0_gapIn yX0_gapIn ∈ qm_all := ⟨List.mem_filter.mpr ⟨by decide +kernel, rfl⟩, List.mem_filter.mpr ⟨by decide +kernel, rfl⟩⟩
def wX0_gapIn : qm_C := fun vs h => match vs with
  | [.inr (.inr (some (0, 0, p0))), .inr (.inl p1), .inl p2, .inl p3] => (qX0_gapIn p0 p1 p2 p3 h).map qm_Gi
  | _ => none
def aX0_gapIn : List (Option (Instr × Nat)) := [some (.iconst 0, 1), some (.iconst 0, 1), some (.iload_n 3, 1), some (.iload 4, 2), none, some (.invokestatic 84, 3), none, none, some (.lstore 5, 2), none, some (.iconst 0, 1), some (.istore 7, 2), none, some (.iload 7, 2), none, some (.iload 4, 2), none, some (.iadd, 1), some (.aload_n 0, 1), some (.getfield 25, 3), none, none, some (.if_icmp .gt 63, 3), none, none, some (.iconst 0, 1), some (.istore 8, 2), none, some (.iload 8, 2), none, some (.iload_n 3, 1), some (.iadd, 1), some (.aload_n 0, 1), some (.getfield 21, 3), none, none, some (.if_icmp .gt 43, 3), none, none, some (.lload 5, 2), none, some (.bipush 8, 2), none, some (.iload 7, 2), none, some (.imul, 1), some (.iload 8, 2), none, some (.iadd, 1), some (.lshl, 1), some (.lstore 9, 2), none, some (.lload_n 1, 1), some (.lload 9, 2), none, some (.land, 1), some (.lload 9, 2), none, some (.lcmp, 1), some (.ifCond .ne 14, 3), none, none, some (.aload_n 0, 1), some (.getfield 21, 3), none, none, some (.iload 7, 2), none, some (.imul, 1), some (.iload 8, 2), none, some (.iadd, 1), some (.ireturn, 1), some (.iinc 8 1, 3), none, none, some (.goto (-48), 3), none, none, some (.iinc 7 1, 3), none, none, some (.goto (-69), 3), none, none, some (.iconst (-1), 1), some (.ireturn, 1)]
theorem aX0_gapIn_ok : qm_tabok cX0_gapIn aX0_gapIn = true := by decide +kernel
def mX0_gapIn : qm_M := ((some .int), (fun k => qm_lk k pfRX0), (fun k => qm_lk k pcRX0), (fun k => qm_lk k [(84, 2, 4, wX0_block)]), qm_tab aX0_gapIn)
set_option maxRecDepth 20000 in
set_option maxHeartbeats 2000000 in
theorem rX0_gapIn_28 {K13 : Nat → Int64 → Int32 → Int32 → Int64 → Int32 → qm_H → Option (Int32 × qm_H)} (H13 : ∀ {a0 : Nat} {l1 : Int64} {x3 : Int32} {x4 : Int32} {l5 : Int64} {x7 : Int32} {d8 : Option qm_V} {d9 : Option qm_V} {h : qm_H} {r : Int32 × qm_H}, K13 a0 l1 x3 x4 l5 x7 h = some r → qm_Ret mX0_gapIn (13, [some (qm_r 0 0 a0), some (qm_l l1), none, some (qm_i x3), some (qm_i x4), some (qm_l l5), none, some (qm_i x7), d8, d9, none], [], h) (qm_Gi r)) : ∀ {fuel : Nat} {a0 : Nat} {l1 : Int64} {x3 : Int32} {x4 : Int32} {l5 : Int64} {x7 : Int32} {x8 : Int32} {d9 : Option qm_V} {h : qm_H} {r : Int32 × qm_H}, qX0_gapIn_28 K13 fuel a0 l1 x3 x4 l5 x7 x8 h = some r → qm_Ret mX0_gapIn (28, [some (qm_r 0 0 a0), some (qm_l l1), none, some (qm_i x3), some (qm_i x4), some (qm_l l5), none, some (qm_i x7), some (qm_i x8), d9, none], [], h) (qm_Gi r) := by
  intro fuel
  induction fuel with
  | zero => intros; rename_i ho; cases ho
  | succ n ih =>
    intro a0 l1 x3 x4 l5 x7 x8 d9 h r ho
    unfold qX0_gapIn_28 at ho
    refine qm_Ret.sts 5 (f' := (36, [some (qm_r 0 0 a0), some (qm_l l1), none, some (qm_i x3), some (qm_i x4), some (qm_l l5), none, some (qm_i x7), some (qm_i x8), d9, none], [qm_i (h.1 a0 3), qm_i (x8 + x3)], h)) rfl ?_
    refine qm_Ret.gt (t := 79) (e := 39) rfl (fun hc => ?_) (fun hc => ?_)
    · rw [if_pos hc] at ho
      refine qm_Ret.sts 2 (f' := (13, [some (qm_r 0 0 a0), some (qm_l l1), none, some (qm_i x3), some (qm_i x4), some (qm_l l5), none, some (qm_i (x7 + (1 : Int32))), some (qm_i x8), d9, none], [], h)) rfl ?_
      exact H13 ho
    · rw [if_neg hc] at ho
      refine qm_Ret.sts 7 (f' := (50, [some (qm_r 0 0 a0), some (qm_l l1), none, some (qm_i x3), some (qm_i x4), some (qm_l l5), none, some (qm_i x7), some (qm_i x8), d9, none], [qm_l (qm_lshl l5 (((8 : Int32) * x7) + x8))], h)) rfl ?_
      refine qm_Ret.lets (F := fun v1 => (50, [some (qm_r 0 0 a0), some (qm_l l1), none, some (qm_i x3), some (qm_i x4), some (qm_l l5), none, some (qm_i x7), some (qm_i x8), d9, none], [qm_l v1], h)) (G := qm_Gi) ho (fun v1 ho => ?_)
      refine qm_Ret.sts 6 (f' := (59, [some (qm_r 0 0 a0), some (qm_l l1), none, some (qm_i x3), some (qm_i x4), some (qm_l l5), none, some (qm_i x7), some (qm_i x8), some (qm_l v1), none], [qm_i (lg_cmp (l1 &&& v1) v1)], h)) rfl ?_
      refine qm_Ret.ne (t := 73) (e := 62) rfl (fun hc => ?_) (fun hc => ?_)
      · rw [if_pos hc] at ho
        cases ho
        exact qm_Ret.ret 7 rfl
      · rw [if_neg hc] at ho
        refine qm_Ret.sts 2 (f' := (28, [some (qm_r 0 0 a0), some (qm_l l1), none, some (qm_i x3), some (qm_i x4), some (qm_l l5), none, some (qm_i x7), some (qm_i (x8 + (1 : Int32))), some (qm_l v1), none], [], h)) rfl ?_
        exact ih ho
set_option maxRecDepth 20000 in
set_option maxHeartbeats 2000000 in
theorem rX0_gapIn_13   : ∀ {fuel : Nat} {a0 : Nat} {l1 : Int64} {x3 : Int32} {x4 : Int32} {l5 : Int64} {x7 : Int32} {d8 : Option qm_V} {d9 : Option qm_V} {h : qm_H} {r : Int32 × qm_H}, qX0_gapIn_13  fuel a0 l1 x3 x4 l5 x7 h = some r → qm_Ret mX0_gapIn (13, [some (qm_r 0 0 a0), some (qm_l l1), none, some (qm_i x3), some (qm_i x4), some (qm_l l5), none, some (qm_i x7), d8, d9, none], [], h) (qm_Gi r) := by
  intro fuel
  induction fuel with
  | zero => intros; rename_i ho; cases ho
  | succ n ih =>
    intro a0 l1 x3 x4 l5 x7 d8 d9 h r ho
    unfold qX0_gapIn_13 at ho
    refine qm_Ret.sts 5 (f' := (22, [some (qm_r 0 0 a0), some (qm_l l1), none, some (qm_i x3), some (qm_i x4), some (qm_l l5), none, some (qm_i x7), d8, d9, none], [qm_i (h.1 a0 4), qm_i (x7 + x4)], h)) rfl ?_
    refine qm_Ret.gt (t := 85) (e := 25) rfl (fun hc => ?_) (fun hc => ?_)
    · rw [if_pos hc] at ho
      cases ho
      exact qm_Ret.ret 2 rfl
    · rw [if_neg hc] at ho
      refine qm_Ret.sts 2 (f' := (28, [some (qm_r 0 0 a0), some (qm_l l1), none, some (qm_i x3), some (qm_i x4), some (qm_l l5), none, some (qm_i x7), some (qm_i (0 : Int32)), d9, none], [], h)) rfl ?_
      exact rX0_gapIn_28 (ih) ho
set_option maxRecDepth 20000 in
set_option maxHeartbeats 2000000 in
theorem rX0_gapIn_0   {a0 : Nat} {l1 : Int64} {x3 : Int32} {x4 : Int32} {h : qm_H} {r : Int32 × qm_H} (ho : qX0_gapIn  a0 l1 x3 x4 h = some r) : qm_Ret mX0_gapIn (0, [some (qm_r 0 0 a0), some (qm_l l1), none, some (qm_i x3), some (qm_i x4), none, none, none, none, none, none], [], h) (qm_Gi r) := by
  unfold qX0_gapIn at ho
  refine qm_Ret.sts 4 (f' := (5, [some (qm_r 0 0 a0), some (qm_l l1), none, some (qm_i x3), some (qm_i x4), none, none, none, none, none, none], [qm_i x4, qm_i x3, qm_i (0 : Int32), qm_i (0 : Int32)], h)) rfl ?_
  obtain ⟨r2, h1, hr, ho⟩ := qm_b2e ho
  refine qm_Ret.call (X := wX0_block [qm_i (0 : Int32), qm_i (0 : Int32), qm_i x3, qm_i x4] h) (o1 := (some (qm_l r2), h1)) (qm_mp (G := qm_Gl) hr) rfl ?_
  show qm_Ret _ (8, [some (qm_r 0 0 a0), some (qm_l l1), none, some (qm_i x3), some (qm_i x4), none, none, none, none, none, none], [qm_l r2], h1) _
  refine qm_Ret.sts 3 (f' := (13, [some (qm_r 0 0 a0), some (qm_l l1), none, some (qm_i x3), some (qm_i x4), some (qm_l r2), none, some (qm_i (0 : Int32)), none, none, none], [], h1)) rfl ?_
  exact rX0_gapIn_13 ho
theorem cX0_gapIn_ok : ∀ q ∈ ([(84, 2, 4, wX0_block)] : List (Nat × Nat × Nat × qm_C)), qm_CallOK RX0 1 28 q.2.1 q.1 q.2.2.1 q.2.2.2 := List.forall_mem_cons.mpr ⟨Or.inl ⟨yX0_block, cX0_block, 9, (some .long), 0, 0, _, sX0_block, ⟨by decide, by decide⟩, ⟨jX0_block, kRX0_84, uRX0⟩, ⟨by decide, by decide, rfl⟩, Or.inr (Or.inl ⟨rfl, rfl, iX0_block⟩)⟩, fun _ h => absurd h List.not_mem_nil⟩
theorem sX0_gapIn : qm_Snd yX0_gapIn cX0_gapIn 11 (some .int) 1 28 wX0_gapIn := qm_met (fld := fun k => qm_lk k pfRX0) (con := fun k => qm_lk k pcRX0) (call := fun k => qm_lk k [(84, 2, 4, wX0_block)]) (tab := qm_tab aX0_gapIn) (plainFor_of_name (by decide)) (qm_fld_ok pfRX0_ok) (qm_con_ok pcRX0_ok) (fun idx kd n f hc => cX0_gapIn_ok (idx, kd, n, f) (qm_lk_mem hc)) (qm_tab_ok aX0_gapIn_ok) (fun vs h o hw => by
  unfold wX0_gapIn at hw
  split at hw
  · obtain ⟨r, hr, rfl⟩ := Option.map_eq_some_iff.mp hw
    exact ⟨Nat.le_of_ble_eq_true rfl, rX0_gapIn_0 (hr)⟩
  · cases hw)
theorem recvX0_gapIn : ∀ vs h o, wX0_gapIn vs h = some o → ∃ ci a rest, vs = qm_r 0 ci a :: rest ∧ qm_R ci = yX0_gapIn.cls := by
  intro vs h o hw
  unfold wX0_gapIn at hw
  split at hw
  · exact ⟨_, _, _, rfl, rfl⟩
  · cases hw
-- RX0 gapFor(II)I
theorem jX0_gapFor : Jvm.Cond.code yX0_gapFor cX0_gapFor 3 (some .int) ∈ qm_all := List.mem_filter.mpr ⟨by decide +kernel, rfl⟩
theorem iX0_gapFor : Jvm.Cond.instanceMethod yX0_gapFor ∈ qm_all ∧ Jvm.Cond.selects yX0_gapFor.cls yX0_gapFor yX0_gapFor ∈ qm_all := ⟨List.mem_filter.mpr ⟨by decide +kernel, rfl⟩, List.mem_filter.mpr ⟨by decide +kernel, rfl⟩⟩
def wX0_gapFor : qm_C := fun vs h => match vs with
  | [.inr (.inr (some (0, 0, p0))), .inl p1, .inl p2] => (qX0_gapFor p0 p1 p2 h).map qm_Gi
  | _ => none
def aX0_gapFor : List (Option (Instr × Nat)) := [some (.aload_n 0, 1), some (.aload_n 0, 1), some (.getfield 32, 3), none, none, some (.iload_n 1, 1), some (.iload_n 2, 1), some (.invokevirtual 80, 3), none, none, some (.ireturn, 1)]
theorem aX0_gapFor_ok : qm_tabok cX0_gapFor aX0_gapFor = true := by decide +kernel
def mX0_gapFor : qm_M := ((some .int), (fun k => qm_lk k pfRX0), (fun k => qm_lk k pcRX0), (fun k => qm_lk k [(80, 0, 4, wX0_gapIn)]), qm_tab aX0_gapFor)
set_option maxRecDepth 20000 in
set_option maxHeartbeats 2000000 in
theorem rX0_gapFor_0   {a0 : Nat} {x1 : Int32} {x2 : Int32} {h : qm_H} {r : Int32 × qm_H} (ho : qX0_gapFor  a0 x1 x2 h = some r) : qm_Ret mX0_gapFor (0, [some (qm_r 0 0 a0), some (qm_i x1), some (qm_i x2)], [], h) (qm_Gi r) := by
  unfold qX0_gapFor at ho
  refine qm_Ret.sts 5 (f' := (7, [some (qm_r 0 0 a0), some (qm_i x1), some (qm_i x2)], [qm_i x2, qm_i x1, qm_l (h.2 a0 6), qm_r 0 0 a0], h)) rfl ?_
  obtain ⟨r2, h1, hr, ho⟩ := qm_b2e ho
  refine qm_Ret.call (X := wX0_gapIn [qm_r 0 0 a0, qm_l (h.2 a0 6), qm_i x1, qm_i x2] h) (o1 := (some (qm_i r2), h1)) (qm_mp (G := qm_Gi) hr) rfl ?_
  show qm_Ret _ (10, [some (qm_r 0 0 a0), some (qm_i x1), some (qm_i x2)], [qm_i r2], h1) _
  cases ho
  exact qm_Ret.ret 1 rfl
theorem cX0_gapFor_ok : ∀ q ∈ ([(80, 0, 4, wX0_gapIn)] : List (Nat × Nat × Nat × qm_C)), qm_CallOK RX0 2 58 q.2.1 q.1 q.2.2.1 q.2.2.2 := List.forall_mem_cons.mpr ⟨Or.inl ⟨yX0_gapIn, cX0_gapIn, 11, (some .int), 1, 28, _, sX0_gapIn, ⟨by decide, by decide⟩, ⟨jX0_gapIn, kRX0_80, uRX0⟩, ⟨by decide, by decide, rfl⟩, Or.inl ⟨rfl, rfl, iX0_gapIn, recvX0_gapIn⟩⟩, fun _ h => absurd h List.not_mem_nil⟩
theorem sX0_gapFor : qm_Snd yX0_gapFor cX0_gapFor 3 (some .int) 2 58 wX0_gapFor := qm_met (fld := fun k => qm_lk k pfRX0) (con := fun k => qm_lk k pcRX0) (call := fun k => qm_lk k [(80, 0, 4, wX0_gapIn)]) (tab := qm_tab aX0_gapFor) (plainFor_of_name (by decide)) (qm_fld_ok pfRX0_ok) (qm_con_ok pcRX0_ok) (fun idx kd n f hc => cX0_gapFor_ok (idx, kd, n, f) (qm_lk_mem hc)) (qm_tab_ok aX0_gapFor_ok) (fun vs h o hw => by
  unfold wX0_gapFor at hw
  split at hw
  · obtain ⟨r, hr, rfl⟩ := Option.map_eq_some_iff.mp hw
    exact ⟨Nat.le_of_ble_eq_true rfl, rX0_gapFor_0 (hr)⟩
  · cases hw)
theorem recvX0_gapFor : ∀ vs h o, wX0_gapFor vs h = some o → ∃ ci a rest, vs = qm_r 0 ci a :: rest ∧ qm_R ci = yX0_gapFor.cls := by
  intro vs h o hw
  unfold wX0_gapFor at hw
  split at hw
  · exact ⟨_, _, _, rfl, rfl⟩
  · cases hw
-- RX0 gapWithout(III)I
theorem jX0_gapWithout : Jvm.Cond.code yX0_gapWithout cX0_gapWithout 7 (some .int) ∈ qm_all := List.mem_filter.mpr ⟨by decide +kernel, rfl⟩
theorem iX0_gapWithout : Jvm.Cond.instanceMethod yX0_gapWithout ∈ qm_all ∧ Jvm.Cond.selects yX0_gapWithout.cls yX0_gapWithout yX0_gapWithout ∈ qm_all := ⟨List.mem_filter.mpr ⟨by decide +kernel, rfl⟩, List.mem_filter.mpr ⟨by decide +kernel, rfl⟩⟩
def wX0_gapWithout : qm_C := fun vs h => match vs with
  | [.inr (.inr (some (0, 0, p0))), .inl p1, .inl p2, .inl p3] => (qX0_gapWithout p0 p1 p2 p3 h).map qm_Gi
  | _ => none
def aX0_gapWithout : List (Option (Instr × Nat)) := [some (.aload_n 0, 1), some (.getfield 32, 3), none, none, some (.lstore 4, 2), none, some (.iconst 0, 1), some (.istore 6, 2), none, some (.iload 6, 2), none, some (.aload_n 0, 1), some (.getfield 25, 3), none, none, some (.if_icmp .ge 34, 3), none, none, some (.iload_n 1, 1), some (.iload 6, 2), none, some (.ishr, 1), some (.iconst 1, 1), some (.iand, 1), some (.ifCond .eq 19, 3), none, none, some (.lload 4, 2), none, some (.iload 6, 2), none, some (.iconst 0, 1), some (.aload_n 0, 1), some (.getfield 21, 3), none, none, some (.iconst 1, 1), some (.invokestatic 84, 3), none, none, some (.lor, 1), some (.lstore 4, 2), none, some (.iinc 6 1, 3), none, none, some (.goto (-37), 3), none, none, some (.aload_n 0, 1), some (.lload 4, 2), none, some (.iload_n 2, 1), some (.iload_n 3, 1), some (.invokevirtual 80, 3), none, none, some (.ireturn, 1)]
theorem aX0_gapWithout_ok : qm_tabok cX0_gapWithout aX0_gapWithout = true := by decide +kernel
def mX0_gapWithout : qm_M := ((some .int), (fun k => qm_lk k pfRX0), (fun k => qm_lk k pcRX0), (fun k => qm_lk k [(80, 0, 4, wX0_gapIn), (84, 2, 4, wX0_block)]), qm_tab aX0_gapWithout)
set_option maxRecDepth 20000 in
set_option maxHeartbeats 2000000 in
theorem rX0_gapWithout_9   : ∀ {fuel : Nat} {a0 : Nat} {x1 : Int32} {x2 : Int32} {x3 : Int32} {l4 : Int64} {x6 : Int32} {h : qm_H} {r : Int32 × qm_H}, qX0_gapWithout_9  fuel a0 x1 x2 x3 l4 x6 h = some r → qm_Ret mX0_gapWithout (9, [some (qm_r 0 0 a0), some (qm_i x1), some (qm_i x2), some (qm_i x3), some (qm_l l4), none, some (qm_i x6)], [], h) (qm_Gi r) := by
  intro fuel
  induction fuel with
  | zero => intros; rename_i ho; cases ho
  | succ n ih =>
    intro a0 x1 x2 x3 l4 x6 h r ho
    unfold qX0_gapWithout_9 at ho
    refine qm_Ret.sts 3 (f' := (15, [some (qm_r 0 0 a0), some (qm_i x1), some (qm_i x2), some (qm_i x3), some (qm_l l4), none, some (qm_i x6)], [qm_i (h.1 a0 4), qm_i x6], h)) rfl ?_
    refine qm_Ret.ge (t := 49) (e := 18) rfl (fun hc => ?_) (fun hc => ?_)
    · rw [if_pos hc] at ho
      refine qm_Ret.sts 5 (f' := (24, [some (qm_r 0 0 a0), some (qm_i x1), some (qm_i x2), some (qm_i x3), some (qm_l l4), none, some (qm_i x6)], [qm_i ((qm_ishr x1 x6) &&& (1 : Int32))], h)) rfl ?_
      refine qm_Ret.eq (t := 43) (e := 27) rfl (fun hc => ?_) (fun hc => ?_)
      · rw [if_pos hc] at ho
        refine qm_Ret.sts 2 (f' := (9, [some (qm_r 0 0 a0), some (qm_i x1), some (qm_i x2), some (qm_i x3), some (qm_l l4), none, some (qm_i (x6 + (1 : Int32)))], [], h)) rfl ?_
        exact ih ho
      · rw [if_neg hc] at ho
        refine qm_Ret.sts 6 (f' := (37, [some (qm_r 0 0 a0), some (qm_i x1), some (qm_i x2), some (qm_i x3), some (qm_l l4), none, some (qm_i x6)], [qm_i (1 : Int32), qm_i (h.1 a0 3), qm_i (0 : Int32), qm_i x6, qm_l l4], h)) rfl ?_
        obtain ⟨r4, h3, hr, ho⟩ := qm_b2e ho
        refine qm_Ret.call (X := wX0_block [qm_i x6, qm_i (0 : Int32), qm_i (h.1 a0 3), qm_i (1 : Int32)] h) (o1 := (some (qm_l r4), h3)) (qm_mp (G := qm_Gl) hr) rfl ?_
        show qm_Ret _ (40, [some (qm_r 0 0 a0), some (qm_i x1), some (qm_i x2), some (qm_i x3), some (qm_l l4), none, some (qm_i x6)], [qm_l r4, qm_l l4], h3) _
        refine qm_Ret.sts 4 (f' := (9, [some (qm_r 0 0 a0), some (qm_i x1), some (qm_i x2), some (qm_i x3), some (qm_l (l4 ||| r4)), none, some (qm_i (x6 + (1 : Int32)))], [], h3)) rfl ?_
        exact ih ho
    · rw [if_neg hc] at ho
      refine qm_Ret.sts 4 (f' := (54, [some (qm_r 0 0 a0), some (qm_i x1), some (qm_i x2), some (qm_i x3), some (qm_l l4), none, some (qm_i x6)], [qm_i x3, qm_i x2, qm_l l4, qm_r 0 0 a0], h)) rfl ?_
      obtain ⟨r2, h1, hr, ho⟩ := qm_b2e ho
      refine qm_Ret.call (X := wX0_gapIn [qm_r 0 0 a0, qm_l l4, qm_i x2, qm_i x3] h) (o1 := (some (qm_i r2), h1)) (qm_mp (G := qm_Gi) hr) rfl ?_
      show qm_Ret _ (57, [some (qm_r 0 0 a0), some (qm_i x1), some (qm_i x2), some (qm_i x3), some (qm_l l4), none, some (qm_i x6)], [qm_i r2], h1) _
      cases ho
      exact qm_Ret.ret 1 rfl
set_option maxRecDepth 20000 in
set_option maxHeartbeats 2000000 in
theorem rX0_gapWithout_0   {a0 : Nat} {x1 : Int32} {x2 : Int32} {x3 : Int32} {h : qm_H} {r : Int32 × qm_H} (ho : qX0_gapWithout  a0 x1 x2 x3 h = some r) : qm_Ret mX0_gapWithout (0, [some (qm_r 0 0 a0), some (qm_i x1), some (qm_i x2), some (qm_i x3), none, none, none], [], h) (qm_Gi r) := by
  unfold qX0_gapWithout at ho
  refine qm_Ret.sts 5 (f' := (9, [some (qm_r 0 0 a0), some (qm_i x1), some (qm_i x2), some (qm_i x3), some (qm_l (h.2 a0 6)), none, some (qm_i (0 : Int32))], [], h)) rfl ?_
  exact rX0_gapWithout_9 ho
theorem cX0_gapWithout_ok : ∀ q ∈ ([(80, 0, 4, wX0_gapIn), (84, 2, 4, wX0_block)] : List (Nat × Nat × Nat × qm_C)), qm_CallOK RX0 2 58 q.2.1 q.1 q.2.2.1 q.2.2.2 := List.forall_mem_cons.mpr ⟨Or.inl ⟨yX0_gapIn, cX0_gapIn, 11, (some .int), 1, 28, _, sX0_gapIn, ⟨by decide, by decide⟩, ⟨jX0_gapIn, kRX0_80, uRX0⟩, ⟨by decide, by decide, rfl⟩, Or.inl ⟨rfl, rfl, iX0_gapIn, recvX0_gapIn⟩⟩, List.forall_mem_cons.mpr ⟨Or.inl ⟨yX0_block, cX0_block, 9, (some .long), 0, 0, _, sX0_block, ⟨by decide, by decide⟩, ⟨jX0_block, kRX0_84, uRX0⟩, ⟨by decide, by decide, rfl⟩, Or.inr (Or.inl ⟨rfl, rfl, iX0_block⟩)⟩, fun _ h => absurd h List.not_mem_nil⟩⟩
theorem sX0_gapWithout : qm_Snd yX0_gapWithout cX0_gapWithout 7 (some .int) 2 58 wX0_gapWithout := qm_met (fld := fun k => qm_lk k pfRX0) (con := fun k => qm_lk k pcRX0) (call := fun k => qm_lk k [(80, 0, 4, wX0_gapIn), (84, 2, 4, wX0_block)]) (tab := qm_tab aX0_gapWithout) (plainFor_of_name (by decide)) (qm_fld_ok pfRX0_ok) (qm_con_ok pcRX0_ok) (fun idx kd n f hc => cX0_gapWithout_ok (idx, kd, n, f) (qm_lk_mem hc)) (qm_tab_ok aX0_gapWithout_ok) (fun vs h o hw => by
  unfold wX0_gapWithout at hw
  split at hw
  · obtain ⟨r, hr, rfl⟩ := Option.map_eq_some_iff.mp hw
    exact ⟨Nat.le_of_ble_eq_true rfl, rX0_gapWithout_0 (hr)⟩
  · cases hw)
theorem recvX0_gapWithout : ∀ vs h o, wX0_gapWithout vs h = some o → ∃ ci a rest, vs = qm_r 0 ci a :: rest ∧ qm_R ci = yX0_gapWithout.cls := by
  intro vs h o hw
  unfold wX0_gapWithout at hw
  split at hw
  · exact ⟨_, _, _, rfl, rfl⟩
  · cases hw
-- RX0 sumTo(II)I
theorem jX0_sumTo : Jvm.Cond.code yX0_sumTo cX0_sumTo 4 (some .int) ∈ qm_all := List.mem_filter.mpr ⟨by decide +kernel, rfl⟩
theorem iX0_sumTo : Jvm.Cond.instanceMethod yX0_sumTo ∈ qm_all ∧ Jvm.Cond.selects yX0_sumTo.cls yX0_sumTo yX0_sumTo ∈ qm_all := ⟨List.mem_filter.mpr ⟨by decide +kernel, rfl⟩, List.mem_filter.mpr ⟨by decide +kernel, rfl⟩⟩
def wX0_sumTo : qm_C := fun vs h => match vs with
  | [.inr (.inr (some (0, 0, p0))), .inl p1, .inl p2] => (qX0_sumTo p0 p1 p2 h).map qm_Gi
  | _ => none
def aX0_sumTo : List (Option (Instr × Nat)) := [some (.bipush 9, 2), none, some (.iload_n 1, 1), some (.imul, 1), some (.iload_n 2, 1), some (.iadd, 1), some (.istore_n 3, 1), some (.iload_n 3, 1), some (.ifCond .lt 21, 3), none, none, some (.iload_n 3, 1), some (.aload_n 0, 1), some (.getfield 18, 3), none, none, some (.arraylength, 1), some (.if_icmp .ge 12, 3), none, none, some (.aload_n 0, 1), some (.getfield 18, 3), none, none, some (.iload_n 3, 1), some (.iaload, 1), some (.goto 4, 3), none, none, some (.iconst 0, 1), some (.ireturn, 1)]
theorem aX0_sumTo_ok : qm_tabok cX0_sumTo aX0_sumTo = true := by decide +kernel
def mX0_sumTo : qm_M := ((some .int), (fun k => qm_lk k pfRX0), (fun k => qm_lk k pcRX0), (fun k => qm_lk k []), qm_tab aX0_sumTo)
set_option maxRecDepth 20000 in
set_option maxHeartbeats 2000000 in
theorem rX0_sumTo_0   {a0 : Nat} {x1 : Int32} {x2 : Int32} {h : qm_H} {r : Int32 × qm_H} (ho : qX0_sumTo  a0 x1 x2 h = some r) : qm_Ret mX0_sumTo (0, [some (qm_r 0 0 a0), some (qm_i x1), some (qm_i x2), none], [], h) (qm_Gi r) := by
  unfold qX0_sumTo at ho
  refine qm_Ret.sts 5 (f' := (6, [some (qm_r 0 0 a0), some (qm_i x1), some (qm_i x2), none], [qm_i (((9 : Int32) * x1) + x2)], h)) rfl ?_
  refine qm_Ret.lets (F := fun v1 => (6, [some (qm_r 0 0 a0), some (qm_i x1), some (qm_i x2), none], [qm_i v1], h)) (G := qm_Gi) ho (fun v1 ho => ?_)
  refine qm_Ret.sts 2 (f' := (8, [some (qm_r 0 0 a0), some (qm_i x1), some (qm_i x2), some (qm_i v1)], [qm_i v1], h)) rfl ?_
  refine qm_Ret.lt (t := 29) (e := 11) rfl (fun hc => ?_) (fun hc => ?_)
  · rw [if_pos hc] at ho
    cases ho
    exact qm_Ret.ret 2 rfl
  · rw [if_neg hc] at ho
    refine qm_Ret.sts 4 (f' := (17, [some (qm_r 0 0 a0), some (qm_i x1), some (qm_i x2), some (qm_i v1)], [qm_i (Int32.ofNat 81), qm_i v1], h)) rfl ?_
    refine qm_Ret.ge (t := 29) (e := 20) rfl (fun hc => ?_) (fun hc => ?_)
    · rw [if_pos hc] at ho
      refine qm_Ret.sts 3 (f' := (25, [some (qm_r 0 0 a0), some (qm_i x1), some (qm_i x2), some (qm_i v1)], [qm_i v1, qm_r 1 81 (a0 + 3)], h)) rfl ?_
      obtain ⟨hg, ho⟩ := qm_ifn ho
      refine qm_Ret.gn (f1 := (26, [some (qm_r 0 0 a0), some (qm_i x1), some (qm_i x2), some (qm_i v1)], [qm_i (h.1 (a0 + 3) (v1).toNatClampNeg)], h)) hg rfl ?_
      cases ho
      exact qm_Ret.ret 2 rfl
    · rw [if_neg hc] at ho
      cases ho
      exact qm_Ret.ret 2 rfl
theorem cX0_sumTo_ok : ∀ q ∈ ([] : List (Nat × Nat × Nat × qm_C)), qm_CallOK RX0 0 0 q.2.1 q.1 q.2.2.1 q.2.2.2 := fun _ h => absurd h List.not_mem_nil
theorem sX0_sumTo : qm_Snd yX0_sumTo cX0_sumTo 4 (some .int) 0 0 wX0_sumTo := qm_met (fld := fun k => qm_lk k pfRX0) (con := fun k => qm_lk k pcRX0) (call := fun k => qm_lk k []) (tab := qm_tab aX0_sumTo) (plainFor_of_name (by decide)) (qm_fld_ok pfRX0_ok) (qm_con_ok pcRX0_ok) (fun idx kd n f hc => cX0_sumTo_ok (idx, kd, n, f) (qm_lk_mem hc)) (qm_tab_ok aX0_sumTo_ok) (fun vs h o hw => by
  unfold wX0_sumTo at hw
  split at hw
  · obtain ⟨r, hr, rfl⟩ := Option.map_eq_some_iff.mp hw
    exact ⟨Nat.le_of_ble_eq_true rfl, rX0_sumTo_0 (hr)⟩
  · cases hw)
theorem recvX0_sumTo : ∀ vs h o, wX0_sumTo vs h = some o → ∃ ci a rest, vs = qm_r 0 ci a :: rest ∧ qm_R ci = yX0_sumTo.cls := by
  intro vs h o hw
  unfold wX0_sumTo at hw
  split at hw
  · exact ⟨_, _, _, rfl, rfl⟩
  · cases hw
-- RX0 sumUp()V
theorem jX0_sumUp : Jvm.Cond.code yX0_sumUp cX0_sumUp 4 none ∈ qm_all := List.mem_filter.mpr ⟨by decide +kernel, rfl⟩
theorem iX0_sumUp : Jvm.Cond.instanceMethod yX0_sumUp ∈ qm_all ∧ Jvm.Cond.selects yX0_sumUp.cls yX0_sumUp yX0_sumUp ∈ qm_all := ⟨List.mem_filter.mpr ⟨by decide +kernel, rfl⟩, List.mem_filter.mpr ⟨by decide +kernel, rfl⟩⟩
def wX0_sumUp : qm_C := fun vs h => match vs with
  | [.inr (.inr (some (0, 0, p0)))] => (qX0_sumUp p0 h).map qm_Gv
  | _ => none
def aX0_sumUp : List (Option (Instr × Nat)) := [some (.iconst 0, 1), some (.istore_n 1, 1), some (.iload_n 1, 1), some (.aload_n 0, 1), some (.getfield 25, 3), none, none, some (.if_icmp .ge 73, 3), none, none, some (.iload_n 1, 1), some (.bipush 8, 2), none, some (.if_icmp .ge 67, 3), none, none, some (.iconst 0, 1), some (.istore_n 2, 1), some (.iconst 0, 1), some (.istore_n 3, 1), some (.iload_n 3, 1), some (.aload_n 0, 1), some (.getfield 21, 3), none, none, some (.if_icmp .ge 49, 3), none, none, some (.iload_n 3, 1), some (.bipush 8, 2), none, some (.if_icmp .ge 43, 3), none, none, some (.iload_n 2, 1), some (.aload_n 0, 1), some (.iload_n 1, 1), some (.iload_n 3, 1), some (.invokevirtual 59, 3), none, none, some (.iadd, 1), some (.istore_n 2, 1), some (.aload_n 0, 1), some (.getfield 18, 3), none, none, some (.bipush 9, 2), none, some (.iload_n 1, 1), some (.iconst 1, 1), some (.iadd, 1), some (.imul, 1), some (.iload_n 3, 1), some (.iadd, 1), some (.iconst 1, 1), some (.iadd, 1), some (.aload_n 0, 1), some (.iload_n 1, 1), some (.iload_n 3, 1), some (.iconst 1, 1), some (.iadd, 1), some (.invokevirtual 91, 3), none, none, some (.iload_n 2, 1), some (.iadd, 1), some (.iastore, 1), some (.iinc 3 1, 3), none, none, some (.goto (-51), 3), none, none, some (.iinc 1 1, 3), none, none, some (.goto (-75), 3), none, none, some (.return_, 1)]
theorem aX0_sumUp_ok : qm_tabok cX0_sumUp aX0_sumUp = true := by decide +kernel
def mX0_sumUp : qm_M := (none, (fun k => qm_lk k pfRX0), (fun k => qm_lk k pcRX0), (fun k => qm_lk k [(59, 0, 3, wX0_strengthIn), (91, 0, 3, wX0_sumTo)]), qm_tab aX0_sumUp)
set_option maxRecDepth 20000 in
set_option maxHeartbeats 2000000 in
theorem rX0_sumUp_20 {K2 : Nat → Int32 → qm_H → Option (qm_H)} (H2 : ∀ {a0 : Nat} {x1 : Int32} {d2 : Option qm_V} {d3 : Option qm_V} {h : qm_H} {r : qm_H}, K2 a0 x1 h = some r → qm_Ret mX0_sumUp (2, [some (qm_r 0 0 a0), some (qm_i x1), d2, d3], [], h) (qm_Gv r)) : ∀ {fuel : Nat} {a0 : Nat} {x1 : Int32} {x2 : Int32} {x3 : Int32} {h : qm_H} {r : qm_H}, qX0_sumUp_20 K2 fuel a0 x1 x2 x3 h = some r → qm_Ret mX0_sumUp (20, [some (qm_r 0 0 a0), some (qm_i x1), some (qm_i x2), some (qm_i x3)], [], h) (qm_Gv r) := by
  intro fuel
  induction fuel with
  | zero => intros; rename_i ho; cases ho
  | succ n ih =>
    intro a0 x1 x2 x3 h r ho
    unfold qX0_sumUp_20 at ho
    refine qm_Ret.sts 3 (f' := (25, [some (qm_r 0 0 a0), some (qm_i x1), some (qm_i x2), some (qm_i x3)], [qm_i (h.1 a0 3), qm_i x3], h)) rfl ?_
    refine qm_Ret.ge (t := 74) (e := 28) rfl (fun hc => ?_) (fun hc => ?_)
    · rw [if_pos hc] at ho
      refine qm_Ret.sts 2 (f' := (31, [some (qm_r 0 0 a0), some (qm_i x1), some (qm_i x2), some (qm_i x3)], [qm_i (8 : Int32), qm_i x3], h)) rfl ?_
      refine qm_Ret.ge (t := 74) (e := 34) rfl (fun hc => ?_) (fun hc => ?_)
      · rw [if_pos hc] at ho
        refine qm_Ret.sts 4 (f' := (38, [some (qm_r 0 0 a0), some (qm_i x1), some (qm_i x2), some (qm_i x3)], [qm_i x3, qm_i x1, qm_r 0 0 a0, qm_i x2], h)) rfl ?_
        obtain ⟨r2, h1, hr, ho⟩ := qm_b2e ho
        refine qm_Ret.call (X := wX0_strengthIn [qm_r 0 0 a0, qm_i x1, qm_i x3] h) (o1 := (some (qm_i r2), h1)) (qm_mp (G := qm_Gi) hr) rfl ?_
        show qm_Ret _ (41, [some (qm_r 0 0 a0), some (qm_i x1), some (qm_i x2), some (qm_i x3)], [qm_i r2, qm_i x2], h1) _
        refine qm_Ret.sts 18 (f' := (62, [some (qm_r 0 0 a0), some (qm_i x1), some (qm_i (x2 + r2)), some (qm_i x3)], [qm_i (x3 + (1 : Int32)), qm_i x1, qm_r 0 0 a0, qm_i ((((9 : Int32) * (x1 + (1 : Int32))) + x3) + (1 : Int32)), qm_r 1 81 (a0 + 3)], h1)) rfl ?_
        obtain ⟨r4, h3, hr, ho⟩ := qm_b2e ho
        refine qm_Ret.call (X := wX0_sumTo [qm_r 0 0 a0, qm_i x1, qm_i (x3 + (1 : Int32))] h1) (o1 := (some (qm_i r4), h3)) (qm_mp (G := qm_Gi) hr) rfl ?_
        show qm_Ret _ (65, [some (qm_r 0 0 a0), some (qm_i x1), some (qm_i (x2 + r2)), some (qm_i x3)], [qm_i r4, qm_i ((((9 : Int32) * (x1 + (1 : Int32))) + x3) + (1 : Int32)), qm_r 1 81 (a0 + 3)], h3) _
        refine qm_Ret.sts 2 (f' := (67, [some (qm_r 0 0 a0), some (qm_i x1), some (qm_i (x2 + r2)), some (qm_i x3)], [qm_i (r4 + (x2 + r2)), qm_i ((((9 : Int32) * (x1 + (1 : Int32))) + x3) + (1 : Int32)), qm_r 1 81 (a0 + 3)], h3)) rfl ?_
        obtain ⟨hg, ho⟩ := qm_ifn ho
        refine qm_Ret.gn (f1 := (68, [some (qm_r 0 0 a0), some (qm_i x1), some (qm_i (x2 + r2)), some (qm_i x3)], [], (qm_seti h3 (a0 + 3) ((((9 : Int32) * (x1 + (1 : Int32))) + x3) + (1 : Int32)).toNatClampNeg (r4 + (x2 + r2))))) hg rfl ?_
        refine qm_Ret.lets (F := fun h5 => (68, [some (qm_r 0 0 a0), some (qm_i x1), some (qm_i (x2 + r2)), some (qm_i x3)], [], h5)) (G := qm_Gv) ho (fun h5 ho => ?_)
        refine qm_Ret.sts 2 (f' := (20, [some (qm_r 0 0 a0), some (qm_i x1), some (qm_i (x2 + r2)), some (qm_i (x3 + (1 : Int32)))], [], h5)) rfl ?_
        exact ih ho
      · rw [if_neg hc] at ho
        refine qm_Ret.sts 2 (f' := (2, [some (qm_r 0 0 a0), some (qm_i (x1 + (1 : Int32))), some (qm_i x2), some (qm_i x3)], [], h)) rfl ?_
        exact H2 ho
    · rw [if_neg hc] at ho
      refine qm_Ret.sts 2 (f' := (2, [some (qm_r 0 0 a0), some (qm_i (x1 + (1 : Int32))), some (qm_i x2), some (qm_i x3)], [], h)) rfl ?_
      exact H2 ho
set_option maxRecDepth 20000 in
set_option maxHeartbeats 2000000 in
theorem rX0_sumUp_2   : ∀ {fuel : Nat} {a0 : Nat} {x1 : Int32} {d2 : Option qm_V} {d3 : Option qm_V} {h : qm_H} {r : qm_H}, qX0_sumUp_2  fuel a0 x1 h = some r → qm_Ret mX0_sumUp (2, [some (qm_r 0 0 a0), some (qm_i x1), d2, d3], [], h) (qm_Gv r) := by
  intro fuel
  induction fuel with
  | zero => intros; rename_i ho; cases ho
  | succ n ih =>
    intro a0 x1 d2 d3 h r ho
    unfold qX0_sumUp_2 at ho
    refine qm_Ret.sts 3 (f' := (7, [some (qm_r 0 0 a0), some (qm_i x1), d2, d3], [qm_i (h.1 a0 4), qm_i x1], h)) rfl ?_
    refine qm_Ret.ge (t := 80) (e := 10) rfl (fun hc => ?_) (fun hc => ?_)
    · rw [if_pos hc] at ho
      refine qm_Ret.sts 2 (f' := (13, [some (qm_r 0 0 a0), some (qm_i x1), d2, d3], [qm_i (8 : Int32), qm_i x1], h)) rfl ?_
      refine qm_Ret.ge (t := 80) (e := 16) rfl (fun hc => ?_) (fun hc => ?_)
      · rw [if_pos hc] at ho
        refine qm_Ret.sts 4 (f' := (20, [some (qm_r 0 0 a0), some (qm_i x1), some (qm_i (0 : Int32)), some (qm_i (0 : Int32))], [], h)) rfl ?_
        exact rX0_sumUp_20 (ih) ho
      · rw [if_neg hc] at ho
        cases ho
        exact qm_Ret.ret 1 rfl
    · rw [if_neg hc] at ho
      cases ho
      exact qm_Ret.ret 1 rfl
set_option maxRecDepth 20000 in
set_option maxHeartbeats 2000000 in
theorem rX0_sumUp_0   {a0 : Nat} {h : qm_H} {r : qm_H} (ho : qX0_sumUp  a0 h = some r) : qm_Ret mX0_sumUp (0, [some (qm_r 0 0 a0), none, none, none], [], h) (qm_Gv r) := by
  unfold qX0_sumUp at ho
  refine qm_Ret.sts 2 (f' := (2, [some (qm_r 0 0 a0), some (qm_i (0 : Int32)), none, none], [], h)) rfl ?_
  exact rX0_sumUp_2 ho
theorem cX0_sumUp_ok : ∀ q ∈ ([(59, 0, 3, wX0_strengthIn), (91, 0, 3, wX0_sumTo)] : List (Nat × Nat × Nat × qm_C)), qm_CallOK RX0 2 46 q.2.1 q.1 q.2.2.1 q.2.2.2 := List.forall_mem_cons.mpr ⟨Or.inl ⟨yX0_strengthIn, cX0_strengthIn, 6, (some .int), 1, 21, _, sX0_strengthIn, ⟨by decide, by decide⟩, ⟨jX0_strengthIn, kRX0_59, uRX0⟩, ⟨by decide, by decide, rfl⟩, Or.inl ⟨rfl, rfl, iX0_strengthIn, recvX0_strengthIn⟩⟩, List.forall_mem_cons.mpr ⟨Or.inl ⟨yX0_sumTo, cX0_sumTo, 4, (some .int), 0, 0, _, sX0_sumTo, ⟨by decide, by decide⟩, ⟨jX0_sumTo, kRX0_91, uRX0⟩, ⟨by decide, by decide, rfl⟩, Or.inl ⟨rfl, rfl, iX0_sumTo, recvX0_sumTo⟩⟩, fun _ h => absurd h List.not_mem_nil⟩⟩
theorem sX0_sumUp : qm_Snd yX0_sumUp cX0_sumUp 4 none 2 46 wX0_sumUp := qm_met (fld := fun k => qm_lk k pfRX0) (con := fun k => qm_lk k pcRX0) (call := fun k => qm_lk k [(59, 0, 3, wX0_strengthIn), (91, 0, 3, wX0_sumTo)]) (tab := qm_tab aX0_sumUp) (plainFor_of_name (by decide)) (qm_fld_ok pfRX0_ok) (qm_con_ok pcRX0_ok) (fun idx kd n f hc => cX0_sumUp_ok (idx, kd, n, f) (qm_lk_mem hc)) (qm_tab_ok aX0_sumUp_ok) (fun vs h o hw => by
  unfold wX0_sumUp at hw
  split at hw
  · obtain ⟨r, hr, rfl⟩ := Option.map_eq_some_iff.mp hw
    exact ⟨Nat.le_of_ble_eq_true rfl, rX0_sumUp_0 (hr)⟩
  · cases hw)
theorem recvX0_sumUp : ∀ vs h o, wX0_sumUp vs h = some o → ∃ ci a rest, vs = qm_r 0 ci a :: rest ∧ qm_R ci = yX0_sumUp.cls := by
  intro vs h o hw
  unfold wX0_sumUp at hw
  split at hw
  · exact ⟨_, _, _, rfl, rfl⟩
  · cases hw
-- RX0 softest(II)I
theorem jX0_softest : Jvm.Cond.code yX0_softest cX0_softest 8 (some .int) ∈ qm_all := List.mem_filter.mpr ⟨by decide +kernel, rfl⟩
theorem iX0_softest : Jvm.Cond.instanceMethod yX0_softest ∈ qm_all ∧ Jvm.Cond.selects yX0_softest.cls yX0_softest yX0_softest ∈ qm_all := ⟨List.mem_filter.mpr ⟨by decide +kernel, rfl⟩, List.mem_filter.mpr ⟨by decide +kernel, rfl⟩⟩
def wX0_softest : qm_C := fun vs h => match vs with
  | [.inr (.inr (some (0, 0, p0))), .inl p1, .inl p2] => (qX0_softest p0 p1 p2 h).map qm_Gi
  | _ => none
def aX0_softest : List (Option (Instr × Nat)) := [some (.aload_n 0, 1), some (.invokevirtual 88, 3), none, none, some (.iconst (-1), 1), some (.istore_n 3, 1), some (.iconst 0, 1), some (.istore 4, 2), none, some (.iconst 0, 1), some (.istore 5, 2), none, some (.iload 5, 2), none, some (.iload_n 2, 1), some (.iadd, 1), some (.aload_n 0, 1), some (.getfield 25, 3), none, none, some (.if_icmp .gt 101, 3), none, none, some (.iconst 0, 1), some (.istore 6, 2), none, some (.iload 6, 2), none, some (.iload_n 1, 1), some (.iadd, 1), some (.aload_n 0, 1), some (.getfield 21, 3), none, none, some (.if_icmp .gt 81, 3), none, none, some (.aload_n 0, 1), some (.iload 5, 2), none, some (.iload_n 2, 1), some (.iadd, 1), some (.iload 6, 2), none, some (.iload_n 1, 1), some (.iadd, 1), some (.invokevirtual 91, 3), none, none, some (.aload_n 0, 1), some (.iload 5, 2), none, some (.iload_n 2, 1), some (.iadd, 1), some (.iload 6, 2), none, some (.invokevirtual 91, 3), none, none, some (.isub, 1), some (.aload_n 0, 1), some (.iload 5, 2), none, some (.iload 6, 2), none, some (.iload_n 1, 1), some (.iadd, 1), some (.invokevirtual 91, 3), none, none, some (.isub, 1), some (.aload_n 0, 1), some (.iload 5, 2), none, some (.iload 6, 2), none, some (.invokevirtual 91, 3), none, none, some (.iadd, 1), some (.istore 7, 2), none, some (.iload_n 3, 1), some (.iconst (-1), 1), some (.if_icmp .eq 10, 3), none, none, some (.iload 7, 2), none, some (.iload 4, 2), none, some (.if_icmp .ge 18, 3), none, none, some (.aload_n 0, 1), some (.getfield 21, 3), none, none, some (.iload 5, 2), none, some (.imul, 1), some (.iload 6, 2), none, some (.iadd, 1), some (.istore_n 3, 1), some (.iload 7, 2), none, some (.istore 4, 2), none, some (.iinc 6 1, 3), none, none, some (.goto (-86), 3), none, none, some (.iinc 5 1, 3), none, none, some (.goto (-106), 3), none, none, some (.iload_n 3, 1), some (.ireturn, 1)]
theorem aX0_softest_ok : qm_tabok cX0_softest aX0_softest = true := by decide +kernel
def mX0_softest : qm_M := ((some .int), (fun k => qm_lk k pfRX0), (fun k => qm_lk k pcRX0), (fun k => qm_lk k [(91, 0, 3, wX0_sumTo), (88, 0, 1, wX0_sumUp)]), qm_tab aX0_softest)
set_option maxRecDepth 20000 in
set_option maxHeartbeats 2000000 in
theorem rX0_softest_26 {K12 : Nat → Int32 → Int32 → Int32 → Int32 → Int32 → qm_H → Option (Int32 × qm_H)} (H12 : ∀ {a0 : Nat} {x1 : Int32} {x2 : Int32} {x3 : Int32} {x4 : Int32} {x5 : Int32} {d6 : Option qm_V} {d7 : Option qm_V} {h : qm_H} {r : Int32 × qm_H}, K12 a0 x1 x2 x3 x4 x5 h = some r → qm_Ret mX0_softest (12, [some (qm_r 0 0 a0), some (qm_i x1), some (qm_i x2), some (qm_i x3), some (qm_i x4), some (qm_i x5), d6, d7], [], h) (qm_Gi r)) : ∀ {fuel : Nat} {a0 : Nat} {x1 : Int32} {x2 : Int32} {x3 : Int32} {x4 : Int32} {x5 : Int32} {x6 : Int32} {d7 : Option qm_V} {h : qm_H} {r : Int32 × qm_H}, qX0_softest_26 K12 fuel a0 x1 x2 x3 x4 x5 x6 h = some r → qm_Ret mX0_softest (26, [some (qm_r 0 0 a0), some (qm_i x1), some (qm_i x2), some (qm_i x3), some (qm_i x4), some (qm_i x5), some (qm_i x6), d7], [], h) (qm_Gi r) := by
  intro fuel
  induction fuel with
  | zero => intros; rename_i ho; cases ho
  | succ n ih =>
    intro a0 x1 x2 x3 x4 x5 x6 d7 h r ho
    unfold qX0_softest_26 at ho
    refine qm_Ret.sts 5 (f' := (34, [some (qm_r 0 0 a0), some (qm_i x1), some (qm_i x2), some (qm_i x3), some (qm_i x4), some (qm_i x5), some (qm_i x6), d7], [qm_i (h.1 a0 3), qm_i (x6 + x1)], h)) rfl ?_
    refine qm_Ret.gt (t := 115) (e := 37) rfl (fun hc => ?_) (fun hc => ?_)
    · rw [if_pos hc] at ho
      refine qm_Ret.sts 2 (f' := (12, [some (qm_r 0 0 a0), some (qm_i x1), some (qm_i x2), some (qm_i x3), some (qm_i x4), some (qm_i (x5 + (1 : Int32))), some (qm_i x6), d7], [], h)) rfl ?_
      exact H12 ho
    · rw [if_neg hc] at ho
      refine qm_Ret.sts 7 (f' := (46, [some (qm_r 0 0 a0), some (qm_i x1), some (qm_i x2), some (qm_i x3), some (qm_i x4), some (qm_i x5), some (qm_i x6), d7], [qm_i (x6 + x1), qm_i (x5 + x2), qm_r 0 0 a0], h)) rfl ?_
      obtain ⟨r2, h1, hr, ho⟩ := qm_b2e ho
      refine qm_Ret.call (X := wX0_sumTo [qm_r 0 0 a0, qm_i (x5 + x2), qm_i (x6 + x1)] h) (o1 := (some (qm_i r2), h1)) (qm_mp (G := qm_Gi) hr) rfl ?_
      show qm_Ret _ (49, [some (qm_r 0 0 a0), some (qm_i x1), some (qm_i x2), some (qm_i x3), some (qm_i x4), some (qm_i x5), some (qm_i x6), d7], [qm_i r2], h1) _
      refine qm_Ret.sts 5 (f' := (56, [some (qm_r 0 0 a0), some (qm_i x1), some (qm_i x2), some (qm_i x3), some (qm_i x4), some (qm_i x5), some (qm_i x6), d7], [qm_i x6, qm_i (x5 + x2), qm_r 0 0 a0, qm_i r2], h1)) rfl ?_
      obtain ⟨r4, h3, hr, ho⟩ := qm_b2e ho
      refine qm_Ret.call (X := wX0_sumTo [qm_r 0 0 a0, qm_i (x5 + x2), qm_i x6] h1) (o1 := (some (qm_i r4), h3)) (qm_mp (G := qm_Gi) hr) rfl ?_
      show qm_Ret _ (59, [some (qm_r 0 0 a0), some (qm_i x1), some (qm_i x2), some (qm_i x3), some (qm_i x4), some (qm_i x5), some (qm_i x6), d7], [qm_i r4, qm_i r2], h3) _
      refine qm_Ret.sts 6 (f' := (67, [some (qm_r 0 0 a0), some (qm_i x1), some (qm_i x2), some (qm_i x3), some (qm_i x4), some (qm_i x5), some (qm_i x6), d7], [qm_i (x6 + x1), qm_i x5, qm_r 0 0 a0, qm_i (r2 - r4)], h3)) rfl ?_
      obtain ⟨r6, h5, hr, ho⟩ := qm_b2e ho
      refine qm_Ret.call (X := wX0_sumTo [qm_r 0 0 a0, qm_i x5, qm_i (x6 + x1)] h3) (o1 := (some (qm_i r6), h5)) (qm_mp (G := qm_Gi) hr) rfl ?_
      show qm_Ret _ (70, [some (qm_r 0 0 a0), some (qm_i x1), some (qm_i x2), some (qm_i x3), some (qm_i x4), some (qm_i x5), some (qm_i x6), d7], [qm_i r6, qm_i (r2 - r4)], h5) _
      refine qm_Ret.sts 4 (f' := (76, [some (qm_r 0 0 a0), some (qm_i x1), some (qm_i x2), some (qm_i x3), some (qm_i x4), some (qm_i x5), some (qm_i x6), d7], [qm_i x6, qm_i x5, qm_r 0 0 a0, qm_i ((r2 - r4) - r6)], h5)) rfl ?_
      obtain ⟨r8, h7, hr, ho⟩ := qm_b2e ho
      refine qm_Ret.call (X := wX0_sumTo [qm_r 0 0 a0, qm_i x5, qm_i x6] h5) (o1 := (some (qm_i r8), h7)) (qm_mp (G := qm_Gi) hr) rfl ?_
      show qm_Ret _ (79, [some (qm_r 0 0 a0), some (qm_i x1), some (qm_i x2), some (qm_i x3), some (qm_i x4), some (qm_i x5), some (qm_i x6), d7], [qm_i r8, qm_i ((r2 - r4) - r6)], h7) _
      refine qm_Ret.sts 1 (f' := (80, [some (qm_r 0 0 a0), some (qm_i x1), some (qm_i x2), some (qm_i x3), some (qm_i x4), some (qm_i x5), some (qm_i x6), d7], [qm_i (((r2 - r4) - r6) + r8)], h7)) rfl ?_
      refine qm_Ret.lets (F := fun v9 => (80, [some (qm_r 0 0 a0), some (qm_i x1), some (qm_i x2), some (qm_i x3), some (qm_i x4), some (qm_i x5), some (qm_i x6), d7], [qm_i v9], h7)) (G := qm_Gi) ho (fun v9 ho => ?_)
      refine qm_Ret.sts 3 (f' := (84, [some (qm_r 0 0 a0), some (qm_i x1), some (qm_i x2), some (qm_i x3), some (qm_i x4), some (qm_i x5), some (qm_i x6), some (qm_i v9)], [qm_i (-1 : Int32), qm_i x3], h7)) rfl ?_
      refine qm_Ret.eq (t := 94) (e := 87) rfl (fun hc => ?_) (fun hc => ?_)
      · rw [if_pos hc] at ho
        refine qm_Ret.sts 6 (f' := (104, [some (qm_r 0 0 a0), some (qm_i x1), some (qm_i x2), some (qm_i x3), some (qm_i x4), some (qm_i x5), some (qm_i x6), some (qm_i v9)], [qm_i (((h7.1 a0 3) * x5) + x6)], h7)) rfl ?_
        refine qm_Ret.lets (F := fun v10 => (104, [some (qm_r 0 0 a0), some (qm_i x1), some (qm_i x2), some (qm_i x3), some (qm_i x4), some (qm_i x5), some (qm_i x6), some (qm_i v9)], [qm_i v10], h7)) (G := qm_Gi) ho (fun v10 ho => ?_)
        refine qm_Ret.sts 5 (f' := (26, [some (qm_r 0 0 a0), some (qm_i x1), some (qm_i x2), some (qm_i v10), some (qm_i v9), some (qm_i x5), some (qm_i (x6 + (1 : Int32))), some (qm_i v9)], [], h7)) rfl ?_
        exact ih ho
      · rw [if_neg hc] at ho
        refine qm_Ret.sts 2 (f' := (91, [some (qm_r 0 0 a0), some (qm_i x1), some (qm_i x2), some (qm_i x3), some (qm_i x4), some (qm_i x5), some (qm_i x6), some (qm_i v9)], [qm_i x4, qm_i v9], h7)) rfl ?_
        refine qm_Ret.ge (t := 109) (e := 94) rfl (fun hc => ?_) (fun hc => ?_)
        · rw [if_pos hc] at ho
          refine qm_Ret.sts 6 (f' := (104, [some (qm_r 0 0 a0), some (qm_i x1), some (qm_i x2), some (qm_i x3), some (qm_i x4), some (qm_i x5), some (qm_i x6), some (qm_i v9)], [qm_i (((h7.1 a0 3) * x5) + x6)], h7)) rfl ?_
          refine qm_Ret.lets (F := fun v11 => (104, [some (qm_r 0 0 a0), some (qm_i x1), some (qm_i x2), some (qm_i x3), some (qm_i x4), some (qm_i x5), some (qm_i x6), some (qm_i v9)], [qm_i v11], h7)) (G := qm_Gi) ho (fun v11 ho => ?_)
          refine qm_Ret.sts 5 (f' := (26, [some (qm_r 0 0 a0), some (qm_i x1), some (qm_i x2), some (qm_i v11), some (qm_i v9), some (qm_i x5), some (qm_i (x6 + (1 : Int32))), some (qm_i v9)], [], h7)) rfl ?_
          exact ih ho
        · rw [if_neg hc] at ho
          refine qm_Ret.sts 2 (f' := (26, [some (qm_r 0 0 a0), some (qm_i x1), some (qm_i x2), some (qm_i x3), some (qm_i x4), some (qm_i x5), some (qm_i (x6 + (1 : Int32))), some (qm_i v9)], [], h7)) rfl ?_
          exact ih ho
set_option maxRecDepth 20000 in
set_option maxHeartbeats 2000000 in
theorem rX0_softest_12   : ∀ {fuel : Nat} {a0 : Nat} {x1 : Int32} {x2 : Int32} {x3 : Int32} {x4 : Int32} {x5 : Int32} {d6 : Option qm_V} {d7 : Option qm_V} {h : qm_H} {r : Int32 × qm_H}, qX0_softest_12  fuel a0 x1 x2 x3 x4 x5 h = some r → qm_Ret mX0_softest (12, [some (qm_r 0 0 a0), some (qm_i x1), some (qm_i x2), some (qm_i x3), some (qm_i x4), some (qm_i x5), d6, d7], [], h) (qm_Gi r) := by
  intro fuel
  induction fuel with
  | zero => intros; rename_i ho; cases ho
  | succ n ih =>
    intro a0 x1 x2 x3 x4 x5 d6 d7 h r ho
    unfold qX0_softest_12 at ho
    refine qm_Ret.sts 5 (f' := (20, [some (qm_r 0 0 a0), some (qm_i x1), some (qm_i x2), some (qm_i x3), some (qm_i x4), some (qm_i x5), d6, d7], [qm_i (h.1 a0 4), qm_i (x5 + x2)], h)) rfl ?_
    refine qm_Ret.gt (t := 121) (e := 23) rfl (fun hc => ?_) (fun hc => ?_)
    · rw [if_pos hc] at ho
      cases ho
      exact qm_Ret.ret 2 rfl
    · rw [if_neg hc] at ho
      refine qm_Ret.sts 2 (f' := (26, [some (qm_r 0 0 a0), some (qm_i x1), some (qm_i x2), some (qm_i x3), some (qm_i x4), some (qm_i x5), some (qm_i (0 : Int32)), d7], [], h)) rfl ?_
      exact rX0_softest_26 (ih) ho
set_option maxRecDepth 20000 in
set_option maxHeartbeats 2000000 in
theorem rX0_softest_0   {a0 : Nat} {x1 : Int32} {x2 : Int32} {h : qm_H} {r : Int32 × qm_H} (ho : qX0_softest  a0 x1 x2 h = some r) : qm_Ret mX0_softest (0, [some (qm_r 0 0 a0), some (qm_i x1), some (qm_i x2), none, none, none, none, none], [], h) (qm_Gi r) := by
  unfold qX0_softest at ho
  refine qm_Ret.sts 1 (f' := (1, [some (qm_r 0 0 a0), some (qm_i x1), some (qm_i x2), none, none, none, none, none], [qm_r 0 0 a0], h)) rfl ?_
  obtain ⟨h1, hr, ho⟩ := qm_bd ho
  refine qm_Ret.call (X := wX0_sumUp [qm_r 0 0 a0] h) (o1 := (none, h1)) (qm_mp (G := qm_Gv) hr) rfl ?_
  show qm_Ret _ (4, [some (qm_r 0 0 a0), some (qm_i x1), some (qm_i x2), none, none, none, none, none], [], h1) _
  refine qm_Ret.sts 6 (f' := (12, [some (qm_r 0 0 a0), some (qm_i x1), some (qm_i x2), some (qm_i (-1 : Int32)), some (qm_i (0 : Int32)), some (qm_i (0 : Int32)), none, none], [], h1)) rfl ?_
  exact rX0_softest_12 ho
theorem cX0_softest_ok : ∀ q ∈ ([(91, 0, 3, wX0_sumTo), (88, 0, 1, wX0_sumUp)] : List (Nat × Nat × Nat × qm_C)), qm_CallOK RX0 3 69 q.2.1 q.1 q.2.2.1 q.2.2.2 := List.forall_mem_cons.mpr ⟨Or.inl ⟨yX0_sumTo, cX0_sumTo, 4, (some .int), 0, 0, _, sX0_sumTo, ⟨by decide, by decide⟩, ⟨jX0_sumTo, kRX0_91, uRX0⟩, ⟨by decide, by decide, rfl⟩, Or.inl ⟨rfl, rfl, iX0_sumTo, recvX0_sumTo⟩⟩, List.forall_mem_cons.mpr ⟨Or.inl ⟨yX0_sumUp, cX0_sumUp, 4, none, 2, 46, _, sX0_sumUp, ⟨by decide, by decide⟩, ⟨jX0_sumUp, kRX0_88, uRX0⟩, ⟨by decide, by decide, rfl⟩, Or.inl ⟨rfl, rfl, iX0_sumUp, recvX0_sumUp⟩⟩, fun _ h => absurd h List.not_mem_nil⟩⟩
theorem sX0_softest : qm_Snd yX0_softest cX0_softest 8 (some .int) 3 69 wX0_softest := qm_met (fld := fun k => qm_lk k pfRX0) (con := fun k => qm_lk k pcRX0) (call := fun k => qm_lk k [(91, 0, 3, wX0_sumTo), (88, 0, 1, wX0_sumUp)]) (tab := qm_tab aX0_softest) (plainFor_of_name (by decide)) (qm_fld_ok pfRX0_ok) (qm_con_ok pcRX0_ok) (fun idx kd n f hc => cX0_softest_ok (idx, kd, n, f) (qm_lk_mem hc)) (qm_tab_ok aX0_softest_ok) (fun vs h o hw => by
  unfold wX0_softest at hw
  split at hw
  · obtain ⟨r, hr, rfl⟩ := Option.map_eq_some_iff.mp hw
    exact ⟨Nat.le_of_ble_eq_true rfl, rX0_softest_0 (hr)⟩
  · cases hw)
theorem recvX0_softest : ∀ vs h o, wX0_softest vs h = some o → ∃ ci a rest, vs = qm_r 0 ci a :: rest ∧ qm_R ci = yX0_softest.cls := by
  intro vs h o hw
  unfold wX0_softest at hw
  split at hw
  · exact ⟨_, _, _, rfl, rfl⟩
  · cases hw
-- RX0 holdOf(II)I
theorem jX0_holdOf : Jvm.Cond.code yX0_holdOf cX0_holdOf 4 (some .int) ∈ qm_all := List.mem_filter.mpr ⟨by decide +kernel, rfl⟩
theorem iX0_holdOf : Jvm.Cond.instanceMethod yX0_holdOf ∈ qm_all ∧ Jvm.Cond.selects yX0_holdOf.cls yX0_holdOf yX0_holdOf ∈ qm_all := ⟨List.mem_filter.mpr ⟨by decide +kernel, rfl⟩, List.mem_filter.mpr ⟨by decide +kernel, rfl⟩⟩
def wX0_holdOf : qm_C := fun vs h => match vs with
  | [.inr (.inr (some (0, 0, p0))), .inl p1, .inl p2] => (qX0_holdOf p0 p1 p2 h).map qm_Gi
  | _ => none
def aX0_holdOf : List (Option (Instr × Nat)) := [some (.aload_n 0, 1), some (.iload_n 1, 1), some (.iload_n 2, 1), some (.invokevirtual 94, 3), none, none, some (.iconst (-1), 1), some (.if_icmp .eq 5, 3), none, none, some (.iconst (-1), 1), some (.ireturn, 1), some (.aload_n 0, 1), some (.iload_n 1, 1), some (.iload_n 2, 1), some (.invokevirtual 97, 3), none, none, some (.istore_n 3, 1), some (.iload_n 3, 1), some (.iconst (-1), 1), some (.if_icmp .ne 7, 3), none, none, some (.iconst (-1), 1), some (.goto 10, 3), none, none, some (.aload_n 0, 1), some (.iload_n 3, 1), some (.iload_n 1, 1), some (.iload_n 2, 1), some (.invokevirtual 62, 3), none, none, some (.ireturn, 1)]
theorem aX0_holdOf_ok : qm_tabok cX0_holdOf aX0_holdOf = true := by decide +kernel
def mX0_holdOf : qm_M := ((some .int), (fun k => qm_lk k pfRX0), (fun k => qm_lk k pcRX0), (fun k => qm_lk k [(94, 0, 3, wX0_gapFor), (97, 0, 3, wX0_softest), (62, 0, 4, wX0_strengthOfRectangle)]), qm_tab aX0_holdOf)
set_option maxRecDepth 20000 in
set_option maxHeartbeats 2000000 in
theorem rX0_holdOf_0   {a0 : Nat} {x1 : Int32} {x2 : Int32} {h : qm_H} {r : Int32 × qm_H} (ho : qX0_holdOf  a0 x1 x2 h = some r) : qm_Ret mX0_holdOf (0, [some (qm_r 0 0 a0), some (qm_i x1), some (qm_i x2), none], [], h) (qm_Gi r) := by
  unfold qX0_holdOf at ho
  refine qm_Ret.sts 3 (f' := (3, [some (qm_r 0 0 a0), some (qm_i x1), some (qm_i x2), none], [qm_i x2, qm_i x1, qm_r 0 0 a0], h)) rfl ?_
  obtain ⟨r2, h1, hr, ho⟩ := qm_b2e ho
  refine qm_Ret.call (X := wX0_gapFor [qm_r 0 0 a0, qm_i x1, qm_i x2] h) (o1 := (some (qm_i r2), h1)) (qm_mp (G := qm_Gi) hr) rfl ?_
  show qm_Ret _ (6, [some (qm_r 0 0 a0), some (qm_i x1), some (qm_i x2), none], [qm_i r2], h1) _
  refine qm_Ret.sts 1 (f' := (7, [some (qm_r 0 0 a0), some (qm_i x1), some (qm_i x2), none], [qm_i (-1 : Int32), qm_i r2], h1)) rfl ?_
  refine qm_Ret.eq (t := 12) (e := 10) rfl (fun hc => ?_) (fun hc => ?_)
  · rw [if_pos hc] at ho
    refine qm_Ret.sts 3 (f' := (15, [some (qm_r 0 0 a0), some (qm_i x1), some (qm_i x2), none], [qm_i x2, qm_i x1, qm_r 0 0 a0], h1)) rfl ?_
    obtain ⟨r4, h3, hr, ho⟩ := qm_b2e ho
    refine qm_Ret.call (X := wX0_softest [qm_r 0 0 a0, qm_i x1, qm_i x2] h1) (o1 := (some (qm_i r4), h3)) (qm_mp (G := qm_Gi) hr) rfl ?_
    show qm_Ret _ (18, [some (qm_r 0 0 a0), some (qm_i x1), some (qm_i x2), none], [qm_i r4], h3) _
    refine qm_Ret.sts 3 (f' := (21, [some (qm_r 0 0 a0), some (qm_i x1), some (qm_i x2), some (qm_i r4)], [qm_i (-1 : Int32), qm_i r4], h3)) rfl ?_
    refine qm_Ret.ne (t := 28) (e := 24) rfl (fun hc => ?_) (fun hc => ?_)
    · rw [if_pos hc] at ho
      cases ho
      exact qm_Ret.ret 3 rfl
    · rw [if_neg hc] at ho
      refine qm_Ret.sts 4 (f' := (32, [some (qm_r 0 0 a0), some (qm_i x1), some (qm_i x2), some (qm_i r4)], [qm_i x2, qm_i x1, qm_i r4, qm_r 0 0 a0], h3)) rfl ?_
      obtain ⟨r6, h5, hr, ho⟩ := qm_b2e ho
      refine qm_Ret.call (X := wX0_strengthOfRectangle [qm_r 0 0 a0, qm_i r4, qm_i x1, qm_i x2] h3) (o1 := (some (qm_i r6), h5)) (qm_mp (G := qm_Gi) hr) rfl ?_
      show qm_Ret _ (35, [some (qm_r 0 0 a0), some (qm_i x1), some (qm_i x2), some (qm_i r4)], [qm_i r6], h5) _
      cases ho
      exact qm_Ret.ret 1 rfl
  · rw [if_neg hc] at ho
    cases ho
    exact qm_Ret.ret 2 rfl
theorem cX0_holdOf_ok : ∀ q ∈ ([(94, 0, 3, wX0_gapFor), (97, 0, 3, wX0_softest), (62, 0, 4, wX0_strengthOfRectangle)] : List (Nat × Nat × Nat × qm_C)), qm_CallOK RX0 4 96 q.2.1 q.1 q.2.2.1 q.2.2.2 := List.forall_mem_cons.mpr ⟨Or.inl ⟨yX0_gapFor, cX0_gapFor, 3, (some .int), 2, 58, _, sX0_gapFor, ⟨by decide, by decide⟩, ⟨jX0_gapFor, kRX0_94, uRX0⟩, ⟨by decide, by decide, rfl⟩, Or.inl ⟨rfl, rfl, iX0_gapFor, recvX0_gapFor⟩⟩, List.forall_mem_cons.mpr ⟨Or.inl ⟨yX0_softest, cX0_softest, 8, (some .int), 3, 69, _, sX0_softest, ⟨by decide, by decide⟩, ⟨jX0_softest, kRX0_97, uRX0⟩, ⟨by decide, by decide, rfl⟩, Or.inl ⟨rfl, rfl, iX0_softest, recvX0_softest⟩⟩, List.forall_mem_cons.mpr ⟨Or.inl ⟨yX0_strengthOfRectangle, cX0_strengthOfRectangle, 9, (some .int), 2, 46, _, sX0_strengthOfRectangle, ⟨by decide, by decide⟩, ⟨jX0_strengthOfRectangle, kRX0_62, uRX0⟩, ⟨by decide, by decide, rfl⟩, Or.inl ⟨rfl, rfl, iX0_strengthOfRectangle, recvX0_strengthOfRectangle⟩⟩, fun _ h => absurd h List.not_mem_nil⟩⟩⟩
theorem sX0_holdOf : qm_Snd yX0_holdOf cX0_holdOf 4 (some .int) 4 96 wX0_holdOf := qm_met (fld := fun k => qm_lk k pfRX0) (con := fun k => qm_lk k pcRX0) (call := fun k => qm_lk k [(94, 0, 3, wX0_gapFor), (97, 0, 3, wX0_softest), (62, 0, 4, wX0_strengthOfRectangle)]) (tab := qm_tab aX0_holdOf) (plainFor_of_name (by decide)) (qm_fld_ok pfRX0_ok) (qm_con_ok pcRX0_ok) (fun idx kd n f hc => cX0_holdOf_ok (idx, kd, n, f) (qm_lk_mem hc)) (qm_tab_ok aX0_holdOf_ok) (fun vs h o hw => by
  unfold wX0_holdOf at hw
  split at hw
  · obtain ⟨r, hr, rfl⟩ := Option.map_eq_some_iff.mp hw
    exact ⟨Nat.le_of_ble_eq_true rfl, rX0_holdOf_0 (hr)⟩
  · cases hw)
theorem recvX0_holdOf : ∀ vs h o, wX0_holdOf vs h = some o → ∃ ci a rest, vs = qm_r 0 ci a :: rest ∧ qm_R ci = yX0_holdOf.cls := by
  intro vs h o hw
  unfold wX0_holdOf at hw
  split at hw
  · exact ⟨_, _, _, rfl, rfl⟩
  · cases hw
-- RX0 holdIfThicker(III)I
theorem jX0_holdIfThicker : Jvm.Cond.code yX0_holdIfThicker cX0_holdIfThicker 5 (some .int) ∈ qm_all := List.mem_filter.mpr ⟨by decide +kernel, rfl⟩
theorem iX0_holdIfThicker : Jvm.Cond.instanceMethod yX0_holdIfThicker ∈ qm_all ∧ Jvm.Cond.selects yX0_holdIfThicker.cls yX0_holdIfThicker yX0_holdIfThicker ∈ qm_all := ⟨List.mem_filter.mpr ⟨by decide +kernel, rfl⟩, List.mem_filter.mpr ⟨by decide +kernel, rfl⟩⟩
def wX0_holdIfThicker : qm_C := fun vs h => match vs with
  | [.inr (.inr (some (0, 0, p0))), .inl p1, .inl p2, .inl p3] => (qX0_holdIfThicker p0 p1 p2 p3 h).map qm_Gi
  | _ => none
def aX0_holdIfThicker : List (Option (Instr × Nat)) := [some (.iload_n 1, 1), some (.ifCond .lt 35, 3), none, none, some (.iload_n 1, 1), some (.bipush 16, 2), none, some (.if_icmp .ge 29, 3), none, none, some (.aload_n 0, 1), some (.iload_n 1, 1), some (.bipush 8, 2), none, some (.idiv, 1), some (.iload_n 1, 1), some (.bipush 8, 2), none, some (.irem, 1), some (.invokevirtual 77, 3), none, none, some (.ifCond .eq 14, 3), none, none, some (.aload_n 0, 1), some (.getfield 9, 3), none, none, some (.iload_n 1, 1), some (.iaload, 1), some (.bipush 9, 2), none, some (.if_icmp .lt 5, 3), none, none, some (.iconst (-1), 1), some (.ireturn, 1), some (.aload_n 0, 1), some (.getfield 9, 3), none, none, some (.iload_n 1, 1), some (.dup2, 1), some (.iaload, 1), some (.iconst 1, 1), some (.iadd, 1), some (.iastore, 1), some (.aload_n 0, 1), some (.iload_n 2, 1), some (.iload_n 3, 1), some (.invokevirtual 100, 3), none, none, some (.istore 4, 2), none, some (.aload_n 0, 1), some (.getfield 9, 3), none, none, some (.iload_n 1, 1), some (.dup2, 1), some (.iaload, 1), some (.iconst 1, 1), some (.isub, 1), some (.iastore, 1), some (.iload 4, 2), none, some (.ireturn, 1)]
theorem aX0_holdIfThicker_ok : qm_tabok cX0_holdIfThicker aX0_holdIfThicker = true := by decide +kernel
def mX0_holdIfThicker : qm_M := ((some .int), (fun k => qm_lk k pfRX0), (fun k => qm_lk k pcRX0), (fun k => qm_lk k [(77, 0, 3, wX0_hasTwig), (100, 0, 3, wX0_holdOf)]), qm_tab aX0_holdIfThicker)
set_option maxRecDepth 20000 in
set_option maxHeartbeats 2000000 in
theorem rX0_holdIfThicker_0   {a0 : Nat} {x1 : Int32} {x2 : Int32} {x3 : Int32} {h : qm_H} {r : Int32 × qm_H} (ho : qX0_holdIfThicker  a0 x1 x2 x3 h = some r) : qm_Ret mX0_holdIfThicker (0, [some (qm_r 0 0 a0), some (qm_i x1), some (qm_i x2), some (qm_i x3), none], [], h) (qm_Gi r) := by
  unfold qX0_holdIfThicker at ho
  refine qm_Ret.sts 1 (f' := (1, [some (qm_r 0 0 a0), some (qm_i x1), some (qm_i x2), some (qm_i x3), none], [qm_i x1], h)) rfl ?_
  refine qm_Ret.lt (t := 36) (e := 4) rfl (fun hc => ?_) (fun hc => ?_)
  · rw [if_pos hc] at ho
    cases ho
    exact qm_Ret.ret 2 rfl
  · rw [if_neg hc] at ho
    refine qm_Ret.sts 2 (f' := (7, [some (qm_r 0 0 a0), some (qm_i x1), some (qm_i x2), some (qm_i x3), none], [qm_i (16 : Int32), qm_i x1], h)) rfl ?_
    refine qm_Ret.ge (t := 36) (e := 10) rfl (fun hc => ?_) (fun hc => ?_)
    · rw [if_pos hc] at ho
      refine qm_Ret.sts 7 (f' := (19, [some (qm_r 0 0 a0), some (qm_i x1), some (qm_i x2), some (qm_i x3), none], [qm_i (qm_irem x1 (8 : Int32)), qm_i (x1 / (8 : Int32)), qm_r 0 0 a0], h)) rfl ?_
      obtain ⟨r2, h1, hr, ho⟩ := qm_b2e ho
      refine qm_Ret.call (X := wX0_hasTwig [qm_r 0 0 a0, qm_i (x1 / (8 : Int32)), qm_i (qm_irem x1 (8 : Int32))] h) (o1 := (some (qm_i r2), h1)) (qm_mp (G := qm_Gi) hr) rfl ?_
      show qm_Ret _ (22, [some (qm_r 0 0 a0), some (qm_i x1), some (qm_i x2), some (qm_i x3), none], [qm_i r2], h1) _
      refine qm_Ret.eq (t := 36) (e := 25) rfl (fun hc => ?_) (fun hc => ?_)
      · rw [if_pos hc] at ho
        cases ho
        exact qm_Ret.ret 2 rfl
      · rw [if_neg hc] at ho
        refine qm_Ret.sts 3 (f' := (30, [some (qm_r 0 0 a0), some (qm_i x1), some (qm_i x2), some (qm_i x3), none], [qm_i x1, qm_r 1 16 (a0 + 1)], h1)) rfl ?_
        obtain ⟨hg, ho⟩ := qm_ifn ho
        refine qm_Ret.gn (f1 := (31, [some (qm_r 0 0 a0), some (qm_i x1), some (qm_i x2), some (qm_i x3), none], [qm_i (h1.1 (a0 + 1) (x1).toNatClampNeg)], h1)) hg rfl ?_
        refine qm_Ret.sts 1 (f' := (33, [some (qm_r 0 0 a0), some (qm_i x1), some (qm_i x2), some (qm_i x3), none], [qm_i (9 : Int32), qm_i (h1.1 (a0 + 1) (x1).toNatClampNeg)], h1)) rfl ?_
        refine qm_Ret.lt (t := 38) (e := 36) rfl (fun hc => ?_) (fun hc => ?_)
        · rw [if_pos hc] at ho
          refine qm_Ret.sts 4 (f' := (44, [some (qm_r 0 0 a0), some (qm_i x1), some (qm_i x2), some (qm_i x3), none], [qm_i x1, qm_r 1 16 (a0 + 1), qm_i x1, qm_r 1 16 (a0 + 1)], h1)) rfl ?_
          obtain ⟨hg, ho⟩ := qm_ifn ho
          refine qm_Ret.gn (f1 := (45, [some (qm_r 0 0 a0), some (qm_i x1), some (qm_i x2), some (qm_i x3), none], [qm_i (h1.1 (a0 + 1) (x1).toNatClampNeg), qm_i x1, qm_r 1 16 (a0 + 1)], h1)) hg rfl ?_
          refine qm_Ret.sts 2 (f' := (47, [some (qm_r 0 0 a0), some (qm_i x1), some (qm_i x2), some (qm_i x3), none], [qm_i ((h1.1 (a0 + 1) (x1).toNatClampNeg) + (1 : Int32)), qm_i x1, qm_r 1 16 (a0 + 1)], h1)) rfl ?_
          obtain ⟨hg, ho⟩ := qm_ifn ho
          refine qm_Ret.gn (f1 := (48, [some (qm_r 0 0 a0), some (qm_i x1), some (qm_i x2), some (qm_i x3), none], [], (qm_seti h1 (a0 + 1) (x1).toNatClampNeg ((h1.1 (a0 + 1) (x1).toNatClampNeg) + (1 : Int32))))) hg rfl ?_
          refine qm_Ret.lets (F := fun h3 => (48, [some (qm_r 0 0 a0), some (qm_i x1), some (qm_i x2), some (qm_i x3), none], [], h3)) (G := qm_Gi) ho (fun h3 ho => ?_)
          refine qm_Ret.sts 3 (f' := (51, [some (qm_r 0 0 a0), some (qm_i x1), some (qm_i x2), some (qm_i x3), none], [qm_i x3, qm_i x2, qm_r 0 0 a0], h3)) rfl ?_
          obtain ⟨r5, h4, hr, ho⟩ := qm_b2e ho
          refine qm_Ret.call (X := wX0_holdOf [qm_r 0 0 a0, qm_i x2, qm_i x3] h3) (o1 := (some (qm_i r5), h4)) (qm_mp (G := qm_Gi) hr) rfl ?_
          show qm_Ret _ (54, [some (qm_r 0 0 a0), some (qm_i x1), some (qm_i x2), some (qm_i x3), none], [qm_i r5], h4) _
          refine qm_Ret.sts 5 (f' := (62, [some (qm_r 0 0 a0), some (qm_i x1), some (qm_i x2), some (qm_i x3), some (qm_i r5)], [qm_i x1, qm_r 1 16 (a0 + 1), qm_i x1, qm_r 1 16 (a0 + 1)], h4)) rfl ?_
          obtain ⟨hg, ho⟩ := qm_ifn ho
          refine qm_Ret.gn (f1 := (63, [some (qm_r 0 0 a0), some (qm_i x1), some (qm_i x2), some (qm_i x3), some (qm_i r5)], [qm_i (h4.1 (a0 + 1) (x1).toNatClampNeg), qm_i x1, qm_r 1 16 (a0 + 1)], h4)) hg rfl ?_
          refine qm_Ret.sts 2 (f' := (65, [some (qm_r 0 0 a0), some (qm_i x1), some (qm_i x2), some (qm_i x3), some (qm_i r5)], [qm_i ((h4.1 (a0 + 1) (x1).toNatClampNeg) - (1 : Int32)), qm_i x1, qm_r 1 16 (a0 + 1)], h4)) rfl ?_
          obtain ⟨hg, ho⟩ := qm_ifn ho
          refine qm_Ret.gn (f1 := (66, [some (qm_r 0 0 a0), some (qm_i x1), some (qm_i x2), some (qm_i x3), some (qm_i r5)], [], (qm_seti h4 (a0 + 1) (x1).toNatClampNeg ((h4.1 (a0 + 1) (x1).toNatClampNeg) - (1 : Int32))))) hg rfl ?_
          refine qm_Ret.lets (F := fun h6 => (66, [some (qm_r 0 0 a0), some (qm_i x1), some (qm_i x2), some (qm_i x3), some (qm_i r5)], [], h6)) (G := qm_Gi) ho (fun h6 ho => ?_)
          cases ho
          exact qm_Ret.ret 2 rfl
        · rw [if_neg hc] at ho
          cases ho
          exact qm_Ret.ret 2 rfl
    · rw [if_neg hc] at ho
      cases ho
      exact qm_Ret.ret 2 rfl
theorem cX0_holdIfThicker_ok : ∀ q ∈ ([(77, 0, 3, wX0_hasTwig), (100, 0, 3, wX0_holdOf)] : List (Nat × Nat × Nat × qm_C)), qm_CallOK RX0 5 119 q.2.1 q.1 q.2.2.1 q.2.2.2 := List.forall_mem_cons.mpr ⟨Or.inl ⟨yX0_hasTwig, cX0_hasTwig, 3, (some .boolean), 0, 0, _, sX0_hasTwig, ⟨by decide, by decide⟩, ⟨jX0_hasTwig, kRX0_77, uRX0⟩, ⟨by decide, by decide, rfl⟩, Or.inl ⟨rfl, rfl, iX0_hasTwig, recvX0_hasTwig⟩⟩, List.forall_mem_cons.mpr ⟨Or.inl ⟨yX0_holdOf, cX0_holdOf, 4, (some .int), 4, 96, _, sX0_holdOf, ⟨by decide, by decide⟩, ⟨jX0_holdOf, kRX0_100, uRX0⟩, ⟨by decide, by decide, rfl⟩, Or.inl ⟨rfl, rfl, iX0_holdOf, recvX0_holdOf⟩⟩, fun _ h => absurd h List.not_mem_nil⟩⟩
theorem sX0_holdIfThicker : qm_Snd yX0_holdIfThicker cX0_holdIfThicker 5 (some .int) 5 119 wX0_holdIfThicker := qm_met (fld := fun k => qm_lk k pfRX0) (con := fun k => qm_lk k pcRX0) (call := fun k => qm_lk k [(77, 0, 3, wX0_hasTwig), (100, 0, 3, wX0_holdOf)]) (tab := qm_tab aX0_holdIfThicker) (plainFor_of_name (by decide)) (qm_fld_ok pfRX0_ok) (qm_con_ok pcRX0_ok) (fun idx kd n f hc => cX0_holdIfThicker_ok (idx, kd, n, f) (qm_lk_mem hc)) (qm_tab_ok aX0_holdIfThicker_ok) (fun vs h o hw => by
  unfold wX0_holdIfThicker at hw
  split at hw
  · obtain ⟨r, hr, rfl⟩ := Option.map_eq_some_iff.mp hw
    exact ⟨Nat.le_of_ble_eq_true rfl, rX0_holdIfThicker_0 (hr)⟩
  · cases hw)
theorem recvX0_holdIfThicker : ∀ vs h o, wX0_holdIfThicker vs h = some o → ∃ ci a rest, vs = qm_r 0 ci a :: rest ∧ qm_R ci = yX0_holdIfThicker.cls := by
  intro vs h o hw
  unfold wX0_holdIfThicker at hw
  split at hw
  · exact ⟨_, _, _, rfl, rfl⟩
  · cases hw
-- RX0 openRectangle(III)V
theorem jX0_openRectangle : Jvm.Cond.code yX0_openRectangle cX0_openRectangle 4 none ∈ qm_all := List.mem_filter.mpr ⟨by decide +kernel, rfl⟩
theorem iX0_openRectangle : Jvm.Cond.instanceMethod yX0_openRectangle ∈ qm_all ∧ Jvm.Cond.selects yX0_openRectangle.cls yX0_openRectangle yX0_openRectangle ∈ qm_all := ⟨List.mem_filter.mpr ⟨by decide +kernel, rfl⟩, List.mem_filter.mpr ⟨by decide +kernel, rfl⟩⟩
def wX0_openRectangle : qm_C := fun vs h => match vs with
  | [.inr (.inr (some (0, 0, p0))), .inl p1, .inl p2, .inl p3] => (qX0_openRectangle p0 p1 p2 p3 h).map qm_Gv
  | _ => none
def aX0_openRectangle : List (Option (Instr × Nat)) := [some (.aload_n 0, 1), some (.dup, 1), some (.getfield 32, 3), none, none, some (.aload_n 0, 1), some (.iload_n 1, 1), some (.invokevirtual 52, 3), none, none, some (.aload_n 0, 1), some (.iload_n 1, 1), some (.invokevirtual 56, 3), none, none, some (.iload_n 2, 1), some (.iload_n 3, 1), some (.invokestatic 84, 3), none, none, some (.lor, 1), some (.putfield 32, 3), none, none, some (.return_, 1)]
theorem aX0_openRectangle_ok : qm_tabok cX0_openRectangle aX0_openRectangle = true := by decide +kernel
def mX0_openRectangle : qm_M := (none, (fun k => qm_lk k pfRX0), (fun k => qm_lk k pcRX0), (fun k => qm_lk k [(52, 0, 2, wX0_rowOf), (56, 0, 2, wX0_columnOf), (84, 2, 4, wX0_block)]), qm_tab aX0_openRectangle)
set_option maxRecDepth 20000 in
set_option maxHeartbeats 2000000 in
theorem rX0_openRectangle_0   {a0 : Nat} {x1 : Int32} {x2 : Int32} {x3 : Int32} {h : qm_H} {r : qm_H} (ho : qX0_openRectangle  a0 x1 x2 x3 h = some r) : qm_Ret mX0_openRectangle (0, [some (qm_r 0 0 a0), some (qm_i x1), some (qm_i x2), some (qm_i x3)], [], h) (qm_Gv r) := by
  unfold qX0_openRectangle at ho
  refine qm_Ret.sts 5 (f' := (7, [some (qm_r 0 0 a0), some (qm_i x1), some (qm_i x2), some (qm_i x3)], [qm_i x1, qm_r 0 0 a0, qm_l (h.2 a0 6), qm_r 0 0 a0], h)) rfl ?_
  obtain ⟨r2, h1, hr, ho⟩ := qm_b2e ho
  refine qm_Ret.call (X := wX0_rowOf [qm_r 0 0 a0, qm_i x1] h) (o1 := (some (qm_i r2), h1)) (qm_mp (G := qm_Gi) hr) rfl ?_
  show qm_Ret _ (10, [some (qm_r 0 0 a0), some (qm_i x1), some (qm_i x2), some (qm_i x3)], [qm_i r2, qm_l (h.2 a0 6), qm_r 0 0 a0], h1) _
  refine qm_Ret.sts 2 (f' := (12, [some (qm_r 0 0 a0), some (qm_i x1), some (qm_i x2), some (qm_i x3)], [qm_i x1, qm_r 0 0 a0, qm_i r2, qm_l (h.2 a0 6), qm_r 0 0 a0], h1)) rfl ?_
  obtain ⟨r4, h3, hr, ho⟩ := qm_b2e ho
  refine qm_Ret.call (X := wX0_columnOf [qm_r 0 0 a0, qm_i x1] h1) (o1 := (some (qm_i r4), h3)) (qm_mp (G := qm_Gi) hr) rfl ?_
  show qm_Ret _ (15, [some (qm_r 0 0 a0), some (qm_i x1), some (qm_i x2), some (qm_i x3)], [qm_i r4, qm_i r2, qm_l (h.2 a0 6), qm_r 0 0 a0], h3) _
  refine qm_Ret.sts 2 (f' := (17, [some (qm_r 0 0 a0), some (qm_i x1), some (qm_i x2), some (qm_i x3)], [qm_i x3, qm_i x2, qm_i r4, qm_i r2, qm_l (h.2 a0 6), qm_r 0 0 a0], h3)) rfl ?_
  obtain ⟨r6, h5, hr, ho⟩ := qm_b2e ho
  refine qm_Ret.call (X := wX0_block [qm_i r2, qm_i r4, qm_i x2, qm_i x3] h3) (o1 := (some (qm_l r6), h5)) (qm_mp (G := qm_Gl) hr) rfl ?_
  show qm_Ret _ (20, [some (qm_r 0 0 a0), some (qm_i x1), some (qm_i x2), some (qm_i x3)], [qm_l r6, qm_l (h.2 a0 6), qm_r 0 0 a0], h5) _
  refine qm_Ret.sts 2 (f' := (24, [some (qm_r 0 0 a0), some (qm_i x1), some (qm_i x2), some (qm_i x3)], [], (qm_setl h5 a0 6 ((h.2 a0 6) ||| r6)))) rfl ?_
  refine qm_Ret.lets (F := fun h7 => (24, [some (qm_r 0 0 a0), some (qm_i x1), some (qm_i x2), some (qm_i x3)], [], h7)) (G := qm_Gv) ho (fun h7 ho => ?_)
  cases ho
  exact qm_Ret.ret 1 rfl
theorem cX0_openRectangle_ok : ∀ q ∈ ([(52, 0, 2, wX0_rowOf), (56, 0, 2, wX0_columnOf), (84, 2, 4, wX0_block)] : List (Nat × Nat × Nat × qm_C)), qm_CallOK RX0 1 28 q.2.1 q.1 q.2.2.1 q.2.2.2 := List.forall_mem_cons.mpr ⟨Or.inl ⟨yX0_rowOf, cX0_rowOf, 2, (some .int), 0, 0, _, sX0_rowOf, ⟨by decide, by decide⟩, ⟨jX0_rowOf, kRX0_52, uRX0⟩, ⟨by decide, by decide, rfl⟩, Or.inl ⟨rfl, rfl, iX0_rowOf, recvX0_rowOf⟩⟩, List.forall_mem_cons.mpr ⟨Or.inl ⟨yX0_columnOf, cX0_columnOf, 2, (some .int), 0, 0, _, sX0_columnOf, ⟨by decide, by decide⟩, ⟨jX0_columnOf, kRX0_56, uRX0⟩, ⟨by decide, by decide, rfl⟩, Or.inl ⟨rfl, rfl, iX0_columnOf, recvX0_columnOf⟩⟩, List.forall_mem_cons.mpr ⟨Or.inl ⟨yX0_block, cX0_block, 9, (some .long), 0, 0, _, sX0_block, ⟨by decide, by decide⟩, ⟨jX0_block, kRX0_84, uRX0⟩, ⟨by decide, by decide, rfl⟩, Or.inr (Or.inl ⟨rfl, rfl, iX0_block⟩)⟩, fun _ h => absurd h List.not_mem_nil⟩⟩⟩
theorem sX0_openRectangle : qm_Snd yX0_openRectangle cX0_openRectangle 4 none 1 28 wX0_openRectangle := qm_met (fld := fun k => qm_lk k pfRX0) (con := fun k => qm_lk k pcRX0) (call := fun k => qm_lk k [(52, 0, 2, wX0_rowOf), (56, 0, 2, wX0_columnOf), (84, 2, 4, wX0_block)]) (tab := qm_tab aX0_openRectangle) (plainFor_of_name (by decide)) (qm_fld_ok pfRX0_ok) (qm_con_ok pcRX0_ok) (fun idx kd n f hc => cX0_openRectangle_ok (idx, kd, n, f) (qm_lk_mem hc)) (qm_tab_ok aX0_openRectangle_ok) (fun vs h o hw => by
  unfold wX0_openRectangle at hw
  split at hw
  · obtain ⟨r, hr, rfl⟩ := Option.map_eq_some_iff.mp hw
    exact ⟨Nat.le_of_ble_eq_true rfl, rX0_openRectangle_0 (hr)⟩
  · cases hw)
theorem recvX0_openRectangle : ∀ vs h o, wX0_openRectangle vs h = some o → ∃ ci a rest, vs = qm_r 0 ci a :: rest ∧ qm_R ci = yX0_openRectangle.cls := by
  intro vs h o hw
  unfold wX0_openRectangle at hw
  split at hw
  · exact ⟨_, _, _, rfl, rfl⟩
  · cases hw
-- RJ13 bitCount(J)I
theorem jJ13_bitCount_95d88 : Jvm.Cond.code yJ13_bitCount_95d88 cJ13_bitCount_95d88 2 (some .int) ∈ qm_all := List.mem_filter.mpr ⟨by decide +kernel, rfl⟩
theorem iJ13_bitCount_95d88 : Jvm.Cond.static yJ13_bitCount_95d88 ∈ qm_all := List.mem_filter.mpr ⟨by decide +kernel, rfl⟩
def wJ13_bitCount_95d88 : qm_C := fun vs h => match vs with
  | [.inr (.inl p0)] => (qJ13_bitCount_95d88 p0 h).map qm_Gi
  | _ => none
def aJ13_bitCount_95d88 : List (Option (Instr × Nat)) := [some (.lload_n 0, 1), some (.lload_n 0, 1), some (.iconst 1, 1), some (.lushr, 1), some (.ldc2_w 314, 3), none, none, some (.land, 1), some (.lsub, 1), some (.lstore_n 0, 1), some (.lload_n 0, 1), some (.ldc2_w 316, 3), none, none, some (.land, 1), some (.lload_n 0, 1), some (.iconst 2, 1), some (.lushr, 1), some (.ldc2_w 316, 3), none, none, some (.land, 1), some (.ladd, 1), some (.lstore_n 0, 1), some (.lload_n 0, 1), some (.lload_n 0, 1), some (.iconst 4, 1), some (.lushr, 1), some (.ladd, 1), some (.ldc2_w 318, 3), none, none, some (.land, 1), some (.lstore_n 0, 1), some (.lload_n 0, 1), some (.lload_n 0, 1), some (.bipush 8, 2), none, some (.lushr, 1), some (.ladd, 1), some (.lstore_n 0, 1), some (.lload_n 0, 1), some (.lload_n 0, 1), some (.bipush 16, 2), none, some (.lushr, 1), some (.ladd, 1), some (.lstore_n 0, 1), some (.lload_n 0, 1), some (.lload_n 0, 1), some (.bipush 32, 2), none, some (.lushr, 1), some (.ladd, 1), some (.lstore_n 0, 1), some (.lload_n 0, 1), some (.l2i, 1), some (.bipush 127, 2), none, some (.iand, 1), some (.ireturn, 1)]
theorem aJ13_bitCount_95d88_ok : qm_tabok cJ13_bitCount_95d88 aJ13_bitCount_95d88 = true := by decide +kernel
def mJ13_bitCount_95d88 : qm_M := ((some .int), (fun k => qm_lk k pfRJ13), (fun k => qm_lk k pcRJ13), (fun k => qm_lk k []), qm_tab aJ13_bitCount_95d88)
set_option maxRecDepth 20000 in
set_option maxHeartbeats 2000000 in
theorem rJ13_bitCount_95d88_0   {l0 : Int64} {h : qm_H} {r : Int32 × qm_H} (ho : qJ13_bitCount_95d88  l0 h = some r) : qm_Ret mJ13_bitCount_95d88 (0, [some (qm_l l0), none], [], h) (qm_Gi r) := by
  unfold qJ13_bitCount_95d88 at ho
  refine qm_Ret.sts 7 (f' := (9, [some (qm_l l0), none], [qm_l (l0 - ((qm_lushr l0 (1 : Int32)) &&& (6148914691236517205 : Int64)))], h)) rfl ?_
  refine qm_Ret.lets (F := fun v1 => (9, [some (qm_l l0), none], [qm_l v1], h)) (G := qm_Gi) ho (fun v1 ho => ?_)
  refine qm_Ret.sts 10 (f' := (23, [some (qm_l v1), none], [qm_l ((v1 &&& (3689348814741910323 : Int64)) + ((qm_lushr v1 (2 : Int32)) &&& (3689348814741910323 : Int64)))], h)) rfl ?_
  refine qm_Ret.lets (F := fun v2 => (23, [some (qm_l v1), none], [qm_l v2], h)) (G := qm_Gi) ho (fun v2 ho => ?_)
  refine qm_Ret.sts 8 (f' := (33, [some (qm_l v2), none], [qm_l ((v2 + (qm_lushr v2 (4 : Int32))) &&& (1085102592571150095 : Int64))], h)) rfl ?_
  refine qm_Ret.lets (F := fun v3 => (33, [some (qm_l v2), none], [qm_l v3], h)) (G := qm_Gi) ho (fun v3 ho => ?_)
  refine qm_Ret.sts 6 (f' := (40, [some (qm_l v3), none], [qm_l (v3 + (qm_lushr v3 (8 : Int32)))], h)) rfl ?_
  refine qm_Ret.lets (F := fun v4 => (40, [some (qm_l v3), none], [qm_l v4], h)) (G := qm_Gi) ho (fun v4 ho => ?_)
  refine qm_Ret.sts 6 (f' := (47, [some (qm_l v4), none], [qm_l (v4 + (qm_lushr v4 (16 : Int32)))], h)) rfl ?_
  refine qm_Ret.lets (F := fun v5 => (47, [some (qm_l v4), none], [qm_l v5], h)) (G := qm_Gi) ho (fun v5 ho => ?_)
  refine qm_Ret.sts 6 (f' := (54, [some (qm_l v5), none], [qm_l (v5 + (qm_lushr v5 (32 : Int32)))], h)) rfl ?_
  refine qm_Ret.lets (F := fun v6 => (54, [some (qm_l v5), none], [qm_l v6], h)) (G := qm_Gi) ho (fun v6 ho => ?_)
  cases ho
  exact qm_Ret.ret 6 rfl
theorem cJ13_bitCount_95d88_ok : ∀ q ∈ ([] : List (Nat × Nat × Nat × qm_C)), qm_CallOK RJ13 0 0 q.2.1 q.1 q.2.2.1 q.2.2.2 := fun _ h => absurd h List.not_mem_nil
theorem sJ13_bitCount_95d88 : qm_Snd yJ13_bitCount_95d88 cJ13_bitCount_95d88 2 (some .int) 0 0 wJ13_bitCount_95d88 := qm_met (fld := fun k => qm_lk k pfRJ13) (con := fun k => qm_lk k pcRJ13) (call := fun k => qm_lk k []) (tab := qm_tab aJ13_bitCount_95d88) (by decide +kernel) (qm_fld_ok pfRJ13_ok) (qm_con_ok pcRJ13_ok) (fun idx kd n f hc => cJ13_bitCount_95d88_ok (idx, kd, n, f) (qm_lk_mem hc)) (qm_tab_ok aJ13_bitCount_95d88_ok) (fun vs h o hw => by
  unfold wJ13_bitCount_95d88 at hw
  split at hw
  · obtain ⟨r, hr, rfl⟩ := Option.map_eq_some_iff.mp hw
    exact ⟨Nat.le_of_ble_eq_true rfl, rJ13_bitCount_95d88_0 (hr)⟩
  · cases hw)
-- RX0 shutIn(III)I
theorem jX0_shutIn : Jvm.Cond.code yX0_shutIn cX0_shutIn 4 (some .int) ∈ qm_all := List.mem_filter.mpr ⟨by decide +kernel, rfl⟩
theorem iX0_shutIn : Jvm.Cond.instanceMethod yX0_shutIn ∈ qm_all ∧ Jvm.Cond.selects yX0_shutIn.cls yX0_shutIn yX0_shutIn ∈ qm_all := ⟨List.mem_filter.mpr ⟨by decide +kernel, rfl⟩, List.mem_filter.mpr ⟨by decide +kernel, rfl⟩⟩
def wX0_shutIn : qm_C := fun vs h => match vs with
  | [.inr (.inr (some (0, 0, p0))), .inl p1, .inl p2, .inl p3] => (qX0_shutIn p0 p1 p2 p3 h).map qm_Gi
  | _ => none
def aX0_shutIn : List (Option (Instr × Nat)) := [some (.aload_n 0, 1), some (.iload_n 1, 1), some (.invokevirtual 52, 3), none, none, some (.aload_n 0, 1), some (.iload_n 1, 1), some (.invokevirtual 56, 3), none, none, some (.iload_n 2, 1), some (.iload_n 3, 1), some (.invokestatic 84, 3), none, none, some (.aload_n 0, 1), some (.getfield 32, 3), none, none, some (.ldc2_w 106, 3), none, none, some (.lxor, 1), some (.land, 1), some (.invokestatic 108, 3), none, none, some (.ireturn, 1)]
theorem aX0_shutIn_ok : qm_tabok cX0_shutIn aX0_shutIn = true := by decide +kernel
def mX0_shutIn : qm_M := ((some .int), (fun k => qm_lk k pfRX0), (fun k => qm_lk k pcRX0), (fun k => qm_lk k [(52, 0, 2, wX0_rowOf), (56, 0, 2, wX0_columnOf), (84, 2, 4, wX0_block), (108, 2, 1, wJ13_bitCount_95d88)]), qm_tab aX0_shutIn)
set_option maxRecDepth 20000 in
set_option maxHeartbeats 2000000 in
theorem rX0_shutIn_0   {a0 : Nat} {x1 : Int32} {x2 : Int32} {x3 : Int32} {h : qm_H} {r : Int32 × qm_H} (ho : qX0_shutIn  a0 x1 x2 x3 h = some r) : qm_Ret mX0_shutIn (0, [some (qm_r 0 0 a0), some (qm_i x1), some (qm_i x2), some (qm_i x3)], [], h) (qm_Gi r) := by
  unfold qX0_shutIn at ho
  refine qm_Ret.sts 2 (f' := (2, [some (qm_r 0 0 a0), some (qm_i x1), some (qm_i x2), some (qm_i x3)], [qm_i x1, qm_r 0 0 a0], h)) rfl ?_
  obtain ⟨r2, h1, hr, ho⟩ := qm_b2e ho
  refine qm_Ret.call (X := wX0_rowOf [qm_r 0 0 a0, qm_i x1] h) (o1 := (some (qm_i r2), h1)) (qm_mp (G := qm_Gi) hr) rfl ?_
  show qm_Ret _ (5, [some (qm_r 0 0 a0), some (qm_i x1), some (qm_i x2), some (qm_i x3)], [qm_i r2], h1) _
  refine qm_Ret.sts 2 (f' := (7, [some (qm_r 0 0 a0), some (qm_i x1), some (qm_i x2), some (qm_i x3)], [qm_i x1, qm_r 0 0 a0, qm_i r2], h1)) rfl ?_
  obtain ⟨r4, h3, hr, ho⟩ := qm_b2e ho
  refine qm_Ret.call (X := wX0_columnOf [qm_r 0 0 a0, qm_i x1] h1) (o1 := (some (qm_i r4), h3)) (qm_mp (G := qm_Gi) hr) rfl ?_
  show qm_Ret _ (10, [some (qm_r 0 0 a0), some (qm_i x1), some (qm_i x2), some (qm_i x3)], [qm_i r4, qm_i r2], h3) _
  refine qm_Ret.sts 2 (f' := (12, [some (qm_r 0 0 a0), some (qm_i x1), some (qm_i x2), some (qm_i x3)], [qm_i x3, qm_i x2, qm_i r4, qm_i r2], h3)) rfl ?_
  obtain ⟨r6, h5, hr, ho⟩ := qm_b2e ho
  refine qm_Ret.call (X := wX0_block [qm_i r2, qm_i r4, qm_i x2, qm_i x3] h3) (o1 := (some (qm_l r6), h5)) (qm_mp (G := qm_Gl) hr) rfl ?_
  show qm_Ret _ (15, [some (qm_r 0 0 a0), some (qm_i x1), some (qm_i x2), some (qm_i x3)], [qm_l r6], h5) _
  refine qm_Ret.sts 5 (f' := (24, [some (qm_r 0 0 a0), some (qm_i x1), some (qm_i x2), some (qm_i x3)], [qm_l (r6 &&& ((h5.2 a0 6) ^^^ (-1 : Int64)))], h5)) rfl ?_
  obtain ⟨r8, h7, hr, ho⟩ := qm_b2e ho
  refine qm_Ret.call (X := wJ13_bitCount_95d88 [qm_l (r6 &&& ((h5.2 a0 6) ^^^ (-1 : Int64)))] h5) (o1 := (some (qm_i r8), h7)) (qm_mp (G := qm_Gi) hr) rfl ?_
  show qm_Ret _ (27, [some (qm_r 0 0 a0), some (qm_i x1), some (qm_i x2), some (qm_i x3)], [qm_i r8], h7) _
  cases ho
  exact qm_Ret.ret 1 rfl
theorem cX0_shutIn_ok : ∀ q ∈ ([(52, 0, 2, wX0_rowOf), (56, 0, 2, wX0_columnOf), (84, 2, 4, wX0_block), (108, 2, 1, wJ13_bitCount_95d88)] : List (Nat × Nat × Nat × qm_C)), qm_CallOK RX0 1 28 q.2.1 q.1 q.2.2.1 q.2.2.2 := List.forall_mem_cons.mpr ⟨Or.inl ⟨yX0_rowOf, cX0_rowOf, 2, (some .int), 0, 0, _, sX0_rowOf, ⟨by decide, by decide⟩, ⟨jX0_rowOf, kRX0_52, uRX0⟩, ⟨by decide, by decide, rfl⟩, Or.inl ⟨rfl, rfl, iX0_rowOf, recvX0_rowOf⟩⟩, List.forall_mem_cons.mpr ⟨Or.inl ⟨yX0_columnOf, cX0_columnOf, 2, (some .int), 0, 0, _, sX0_columnOf, ⟨by decide, by decide⟩, ⟨jX0_columnOf, kRX0_56, uRX0⟩, ⟨by decide, by decide, rfl⟩, Or.inl ⟨rfl, rfl, iX0_columnOf, recvX0_columnOf⟩⟩, List.forall_mem_cons.mpr ⟨Or.inl ⟨yX0_block, cX0_block, 9, (some .long), 0, 0, _, sX0_block, ⟨by decide, by decide⟩, ⟨jX0_block, kRX0_84, uRX0⟩, ⟨by decide, by decide, rfl⟩, Or.inr (Or.inl ⟨rfl, rfl, iX0_block⟩)⟩, List.forall_mem_cons.mpr ⟨Or.inl ⟨yJ13_bitCount_95d88, cJ13_bitCount_95d88, 2, (some .int), 0, 0, _, sJ13_bitCount_95d88, ⟨by decide, by decide⟩, ⟨jJ13_bitCount_95d88, kRX0_108, uRJ13⟩, ⟨by decide, by decide, rfl⟩, Or.inr (Or.inl ⟨rfl, rfl, iJ13_bitCount_95d88⟩)⟩, fun _ h => absurd h List.not_mem_nil⟩⟩⟩⟩
theorem sX0_shutIn : qm_Snd yX0_shutIn cX0_shutIn 4 (some .int) 1 28 wX0_shutIn := qm_met (fld := fun k => qm_lk k pfRX0) (con := fun k => qm_lk k pcRX0) (call := fun k => qm_lk k [(52, 0, 2, wX0_rowOf), (56, 0, 2, wX0_columnOf), (84, 2, 4, wX0_block), (108, 2, 1, wJ13_bitCount_95d88)]) (tab := qm_tab aX0_shutIn) (plainFor_of_name (by decide)) (qm_fld_ok pfRX0_ok) (qm_con_ok pcRX0_ok) (fun idx kd n f hc => cX0_shutIn_ok (idx, kd, n, f) (qm_lk_mem hc)) (qm_tab_ok aX0_shutIn_ok) (fun vs h o hw => by
  unfold wX0_shutIn at hw
  split at hw
  · obtain ⟨r, hr, rfl⟩ := Option.map_eq_some_iff.mp hw
    exact ⟨Nat.le_of_ble_eq_true rfl, rX0_shutIn_0 (hr)⟩
  · cases hw)
theorem recvX0_shutIn : ∀ vs h o, wX0_shutIn vs h = some o → ∃ ci a rest, vs = qm_r 0 ci a :: rest ∧ qm_R ci = yX0_shutIn.cls := by
  intro vs h o hw
  unfold wX0_shutIn at hw
  split at hw
  · exact ⟨_, _, _, rfl, rfl⟩
  · cases hw
