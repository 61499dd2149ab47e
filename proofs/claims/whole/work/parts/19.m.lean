-- RX6 drawBelow(I)I
theorem jX6_drawBelow : Jvm.Cond.code yX6_drawBelow cX6_drawBelow 2 (some .int) ∈ qm_all := List.mem_filter.mpr ⟨by decide +kernel, rfl⟩
theorem iX6_drawBelow : Jvm.Cond.instanceMethod yX6_drawBelow ∈ qm_all ∧ Jvm.Cond.selects yX6_drawBelow.cls yX6_drawBelow yX6_drawBelow ∈ qm_all := ⟨List.mem_filter.mpr ⟨by decide +kernel, rfl⟩, List.mem_filter.mpr ⟨by decide +kernel, rfl⟩⟩
def wX6_drawBelow : qm_C := fun vs h => match vs with
  | [.inr (.inr (some (0, 6, p0))), .inl p1] => (qX6_drawBelow p0 p1 h).map qm_Gi
  | _ => none
def aX6_drawBelow : List (Option (Instr × Nat)) := [some (.aload_n 0, 1), some (.aload_n 0, 1), some (.getfield 125, 3), none, none, some (.ldc 145, 2), none, some (.imul, 1), some (.sipush 12345, 3), none, none, some (.iadd, 1), some (.putfield 125, 3), none, none, some (.iload_n 1, 1), some (.ifCond .le 15, 3), none, none, some (.aload_n 0, 1), some (.getfield 125, 3), none, none, some (.bipush 16, 2), none, some (.iushr, 1), some (.iload_n 1, 1), some (.irem, 1), some (.goto 4, 3), none, none, some (.iconst 0, 1), some (.ireturn, 1)]
theorem aX6_drawBelow_ok : qm_tabok cX6_drawBelow aX6_drawBelow = true := by decide +kernel
def mX6_drawBelow : qm_M := ((some .int), (fun k => qm_lk k pfRX6), (fun k => qm_lk k pcRX6), (fun k => qm_lk k []), qm_tab aX6_drawBelow)
set_option maxRecDepth 20000 in
set_option maxHeartbeats 2000000 in
theorem rX6_drawBelow_0   {a0 : Nat} {x1 : Int32} {h : qm_H} {r : Int32 × qm_H} (ho : qX6_drawBelow  a0 x1 h = some r) : qm_Ret mX6_drawBelow (0, [some (qm_r 0 6 a0), some (qm_i x1)], [], h) (qm_Gi r) := by
  unfold qX6_drawBelow at ho
  refine qm_Ret.sts 8 (f' := (15, [some (qm_r 0 6 a0), some (qm_i x1)], [], (qm_seti h a0 4 (((h.1 a0 4) * (1103515245 : Int32)) + (12345 : Int32))))) rfl ?_
  refine qm_Ret.lets (F := fun h1 => (15, [some (qm_r 0 6 a0), some (qm_i x1)], [], h1)) (G := qm_Gi) ho (fun h1 ho => ?_)
  refine qm_Ret.sts 1 (f' := (16, [some (qm_r 0 6 a0), some (qm_i x1)], [qm_i x1], h1)) rfl ?_
  refine qm_Ret.le (t := 31) (e := 19) rfl (fun hc => ?_) (fun hc => ?_)
  · rw [if_pos hc] at ho
    refine qm_Ret.sts 5 (f' := (27, [some (qm_r 0 6 a0), some (qm_i x1)], [qm_i x1, qm_i (qm_iushr (h1.1 a0 4) (16 : Int32))], h1)) rfl ?_
    obtain ⟨hg, ho⟩ := qm_ifn ho
    refine qm_Ret.gn (f1 := (28, [some (qm_r 0 6 a0), some (qm_i x1)], [qm_i (qm_irem (qm_iushr (h1.1 a0 4) (16 : Int32)) x1)], h1)) hg rfl ?_
    cases ho
    exact qm_Ret.ret 2 rfl
  · rw [if_neg hc] at ho
    cases ho
    exact qm_Ret.ret 2 rfl
theorem cX6_drawBelow_ok : ∀ q ∈ ([] : List (Nat × Nat × Nat × qm_C)), qm_CallOK RX6 0 0 q.2.1 q.1 q.2.2.1 q.2.2.2 := fun _ h => absurd h List.not_mem_nil
theorem sX6_drawBelow : qm_Snd yX6_drawBelow cX6_drawBelow 2 (some .int) 0 0 wX6_drawBelow := qm_met (fld := fun k => qm_lk k pfRX6) (con := fun k => qm_lk k pcRX6) (call := fun k => qm_lk k []) (tab := qm_tab aX6_drawBelow) (plainFor_of_name (by decide)) (qm_fld_ok pfRX6_ok) (qm_con_ok pcRX6_ok) (fun idx kd n f hc => cX6_drawBelow_ok (idx, kd, n, f) (qm_lk_mem hc)) (qm_tab_ok aX6_drawBelow_ok) (fun vs h o hw => by
  unfold wX6_drawBelow at hw
  split at hw
  · obtain ⟨r, hr, rfl⟩ := Option.map_eq_some_iff.mp hw
    exact ⟨Nat.le_of_ble_eq_true rfl, rX6_drawBelow_0 (hr)⟩
  · cases hw)
theorem recvX6_drawBelow : ∀ vs h o, wX6_drawBelow vs h = some o → ∃ ci a rest, vs = qm_r 0 ci a :: rest ∧ qm_R ci = yX6_drawBelow.cls := by
  intro vs h o hw
  unfold wX6_drawBelow at hw
  split at hw
  · exact ⟨_, _, _, rfl, rfl⟩
  · cases hw
-- RX6 drawWeave()V
theorem jX6_drawWeave : Jvm.Cond.code yX6_drawWeave cX6_drawWeave 2 none ∈ qm_all := List.mem_filter.mpr ⟨by decide +kernel, rfl⟩
theorem iX6_drawWeave : Jvm.Cond.instanceMethod yX6_drawWeave ∈ qm_all ∧ Jvm.Cond.selects yX6_drawWeave.cls yX6_drawWeave yX6_drawWeave ∈ qm_all := ⟨List.mem_filter.mpr ⟨by decide +kernel, rfl⟩, List.mem_filter.mpr ⟨by decide +kernel, rfl⟩⟩
def wX6_drawWeave : qm_C := fun vs h => match vs with
  | [.inr (.inr (some (0, 6, p0)))] => (qX6_drawWeave p0 h).map qm_Gv
  | _ => none
def aX6_drawWeave : List (Option (Instr × Nat)) := [some (.aload_n 0, 1), some (.aload_n 0, 1), some (.getfield 12, 3), none, none, some (.getfield 97, 3), none, none, some (.aload_n 0, 1), some (.getfield 12, 3), none, none, some (.getfield 100, 3), none, none, some (.imul, 1), some (.invokevirtual 128, 3), none, none, some (.istore_n 1, 1), some (.aload_n 0, 1), some (.aload_n 0, 1), some (.getfield 12, 3), none, none, some (.iload_n 1, 1), some (.invokevirtual 139, 3), none, none, some (.aload_n 0, 1), some (.getfield 12, 3), none, none, some (.iload_n 1, 1), some (.invokevirtual 142, 3), none, none, some (.invokevirtual 60, 3), none, none, some (.pop, 1), some (.return_, 1)]
theorem aX6_drawWeave_ok : qm_tabok cX6_drawWeave aX6_drawWeave = true := by decide +kernel
def mX6_drawWeave : qm_M := (none, (fun k => qm_lk k pfRX6), (fun k => qm_lk k pcRX6), (fun k => qm_lk k [(128, 0, 2, wX6_drawBelow), (139, 0, 2, wX0_columnOf), (142, 0, 2, wX0_rowOf), (60, 0, 3, wX6_weave)]), qm_tab aX6_drawWeave)
set_option maxRecDepth 20000 in
set_option maxHeartbeats 2000000 in
theorem rX6_drawWeave_0   {a0 : Nat} {h : qm_H} {r : qm_H} (ho : qX6_drawWeave  a0 h = some r) : qm_Ret mX6_drawWeave (0, [some (qm_r 0 6 a0), none], [], h) (qm_Gv r) := by
  unfold qX6_drawWeave at ho
  refine qm_Ret.sts 8 (f' := (16, [some (qm_r 0 6 a0), none], [qm_i ((h.1 (a0 + 1) 3) * (h.1 (a0 + 1) 4)), qm_r 0 6 a0], h)) rfl ?_
  obtain ⟨r2, h1, hr, ho⟩ := qm_b2e ho
  refine qm_Ret.call (X := wX6_drawBelow [qm_r 0 6 a0, qm_i ((h.1 (a0 + 1) 3) * (h.1 (a0 + 1) 4))] h) (o1 := (some (qm_i r2), h1)) (qm_mp (G := qm_Gi) hr) rfl ?_
  show qm_Ret _ (19, [some (qm_r 0 6 a0), none], [qm_i r2], h1) _
  refine qm_Ret.sts 5 (f' := (26, [some (qm_r 0 6 a0), some (qm_i r2)], [qm_i r2, qm_r 0 0 (a0 + 1), qm_r 0 6 a0], h1)) rfl ?_
  obtain ⟨r4, h3, hr, ho⟩ := qm_b2e ho
  refine qm_Ret.call (X := wX0_columnOf [qm_r 0 0 (a0 + 1), qm_i r2] h1) (o1 := (some (qm_i r4), h3)) (qm_mp (G := qm_Gi) hr) rfl ?_
  show qm_Ret _ (29, [some (qm_r 0 6 a0), some (qm_i r2)], [qm_i r4, qm_r 0 6 a0], h3) _
  refine qm_Ret.sts 3 (f' := (34, [some (qm_r 0 6 a0), some (qm_i r2)], [qm_i r2, qm_r 0 0 (a0 + 1), qm_i r4, qm_r 0 6 a0], h3)) rfl ?_
  obtain ⟨r6, h5, hr, ho⟩ := qm_b2e ho
  refine qm_Ret.call (X := wX0_rowOf [qm_r 0 0 (a0 + 1), qm_i r2] h3) (o1 := (some (qm_i r6), h5)) (qm_mp (G := qm_Gi) hr) rfl ?_
  show qm_Ret _ (37, [some (qm_r 0 6 a0), some (qm_i r2)], [qm_i r6, qm_i r4, qm_r 0 6 a0], h5) _
  obtain ⟨r8, h7, hr, ho⟩ := qm_b2e ho
  refine qm_Ret.call (X := wX6_weave [qm_r 0 6 a0, qm_i r4, qm_i r6] h5) (o1 := (some (qm_i r8), h7)) (qm_mp (G := qm_Gi) hr) rfl ?_
  show qm_Ret _ (40, [some (qm_r 0 6 a0), some (qm_i r2)], [qm_i r8], h7) _
  cases ho
  exact qm_Ret.ret 2 rfl
theorem cX6_drawWeave_ok : ∀ q ∈ ([(128, 0, 2, wX6_drawBelow), (139, 0, 2, wX0_columnOf), (142, 0, 2, wX0_rowOf), (60, 0, 3, wX6_weave)] : List (Nat × Nat × Nat × qm_C)), qm_CallOK RX6 3 66 q.2.1 q.1 q.2.2.1 q.2.2.2 := List.forall_mem_cons.mpr ⟨Or.inl ⟨yX6_drawBelow, cX6_drawBelow, 2, (some .int), 0, 0, _, sX6_drawBelow, ⟨by decide, by decide⟩, ⟨jX6_drawBelow, kRX6_128, uRX6⟩, ⟨by decide, by decide, rfl⟩, Or.inl ⟨rfl, rfl, iX6_drawBelow, recvX6_drawBelow⟩⟩, List.forall_mem_cons.mpr ⟨Or.inl ⟨yX0_columnOf, cX0_columnOf, 2, (some .int), 0, 0, _, sX0_columnOf, ⟨by decide, by decide⟩, ⟨jX0_columnOf, kRX6_139, uRX0⟩, ⟨by decide, by decide, rfl⟩, Or.inl ⟨rfl, rfl, iX0_columnOf, recvX0_columnOf⟩⟩, List.forall_mem_cons.mpr ⟨Or.inl ⟨yX0_rowOf, cX0_rowOf, 2, (some .int), 0, 0, _, sX0_rowOf, ⟨by decide, by decide⟩, ⟨jX0_rowOf, kRX6_142, uRX0⟩, ⟨by decide, by decide, rfl⟩, Or.inl ⟨rfl, rfl, iX0_rowOf, recvX0_rowOf⟩⟩, List.forall_mem_cons.mpr ⟨Or.inl ⟨yX6_weave, cX6_weave, 4, (some .boolean), 2, 43, _, sX6_weave, ⟨by decide, by decide⟩, ⟨jX6_weave, kRX6_60, uRX6⟩, ⟨by decide, by decide, rfl⟩, Or.inl ⟨rfl, rfl, iX6_weave, recvX6_weave⟩⟩, fun _ h => absurd h List.not_mem_nil⟩⟩⟩⟩
theorem sX6_drawWeave : qm_Snd yX6_drawWeave cX6_drawWeave 2 none 3 66 wX6_drawWeave := qm_met (fld := fun k => qm_lk k pfRX6) (con := fun k => qm_lk k pcRX6) (call := fun k => qm_lk k [(128, 0, 2, wX6_drawBelow), (139, 0, 2, wX0_columnOf), (142, 0, 2, wX0_rowOf), (60, 0, 3, wX6_weave)]) (tab := qm_tab aX6_drawWeave) (plainFor_of_name (by decide)) (qm_fld_ok pfRX6_ok) (qm_con_ok pcRX6_ok) (fun idx kd n f hc => cX6_drawWeave_ok (idx, kd, n, f) (qm_lk_mem hc)) (qm_tab_ok aX6_drawWeave_ok) (fun vs h o hw => by
  unfold wX6_drawWeave at hw
  split at hw
  · obtain ⟨r, hr, rfl⟩ := Option.map_eq_some_iff.mp hw
    exact ⟨Nat.le_of_ble_eq_true rfl, rX6_drawWeave_0 (hr)⟩
  · cases hw)
theorem recvX6_drawWeave : ∀ vs h o, wX6_drawWeave vs h = some o → ∃ ci a rest, vs = qm_r 0 ci a :: rest ∧ qm_R ci = yX6_drawWeave.cls := by
  intro vs h o hw
  unfold wX6_drawWeave at hw
  split at hw
  · exact ⟨_, _, _, rfl, rfl⟩
  · cases hw
-- RX6 drawDeed(I)V
theorem jX6_drawDeed : Jvm.Cond.code yX6_drawDeed cX6_drawDeed 4 none ∈ qm_all := List.mem_filter.mpr ⟨by decide +kernel, rfl⟩
theorem iX6_drawDeed : Jvm.Cond.instanceMethod yX6_drawDeed ∈ qm_all ∧ Jvm.Cond.selects yX6_drawDeed.cls yX6_drawDeed yX6_drawDeed ∈ qm_all := ⟨List.mem_filter.mpr ⟨by decide +kernel, rfl⟩, List.mem_filter.mpr ⟨by decide +kernel, rfl⟩⟩
def wX6_drawDeed : qm_C := fun vs h => match vs with
  | [.inr (.inr (some (0, 6, p0))), .inl p1] => (qX6_drawDeed p0 p1 h).map qm_Gv
  | _ => none
def aX6_drawDeed : List (Option (Instr × Nat)) := [some (.iload_n 1, 1), some (.tableswitch 112 3 7 #[35, 55, 75, 82, 89], 35), none, none, none, none, none, none, none, none, none, none, none, none, none, none, none, none, none, none, none, none, none, none, none, none, none, none, none, none, none, none, none, none, none, none, some (.aload_n 0, 1), some (.iconst 0, 1), some (.aload_n 0, 1), some (.aload_n 0, 1), some (.getfield 12, 3), none, none, some (.getfield 100, 3), none, none, some (.invokevirtual 128, 3), none, none, some (.invokevirtual 53, 3), none, none, some (.pop, 1), some (.goto 88, 3), none, none, some (.aload_n 0, 1), some (.iconst 1, 1), some (.aload_n 0, 1), some (.aload_n 0, 1), some (.getfield 12, 3), none, none, some (.getfield 97, 3), none, none, some (.invokevirtual 128, 3), none, none, some (.invokevirtual 57, 3), none, none, some (.pop, 1), some (.goto 68, 3), none, none, some (.aload_n 0, 1), some (.invokevirtual 136, 3), none, none, some (.goto 61, 3), none, none, some (.aload_n 0, 1), some (.invokevirtual 63, 3), none, none, some (.goto 54, 3), none, none, some (.aload_n 0, 1), some (.aload_n 0, 1), some (.getfield 12, 3), none, none, some (.getfield 121, 3), none, none, some (.ifCond .ne 7, 3), none, none, some (.iconst 1, 1), some (.goto 4, 3), none, none, some (.iconst 0, 1), some (.invokevirtual 66, 3), none, none, some (.pop, 1), some (.goto 31, 3), none, none, some (.aload_n 0, 1), some (.iconst 4, 1), some (.invokevirtual 128, 3), none, none, some (.iconst 1, 1), some (.iadd, 1), some (.istore_n 2, 1), some (.aload_n 0, 1), some (.iconst 4, 1), some (.invokevirtual 128, 3), none, none, some (.iconst 1, 1), some (.iadd, 1), some (.istore_n 3, 1), some (.aload_n 0, 1), some (.iload_n 2, 1), some (.iload_n 3, 1), some (.aload_n 0, 1), some (.bipush 40, 2), none, some (.invokevirtual 128, 3), none, none, some (.invokevirtual 49, 3), none, none, some (.return_, 1)]
theorem aX6_drawDeed_ok : qm_tabok cX6_drawDeed aX6_drawDeed = true := by decide +kernel
def mX6_drawDeed : qm_M := (none, (fun k => qm_lk k pfRX6), (fun k => qm_lk k pcRX6), (fun k => qm_lk k [(66, 0, 2, wX6_turn), (128, 0, 2, wX6_drawBelow), (53, 0, 3, wX6_mend), (57, 0, 3, wX6_grow), (136, 0, 1, wX6_drawWeave), (63, 0, 1, wX6_winter), (49, 0, 4, wX6_strike)]), qm_tab aX6_drawDeed)
set_option maxRecDepth 20000 in
set_option maxHeartbeats 2000000 in
theorem rX6_drawDeed_106   {xs0 : Int32} {as1 : Nat} {ad0 : Nat} {xd1 : Int32} {h : qm_H} {r : qm_H} (ho : qX6_drawDeed_106  xs0 as1 h = some r) : qm_Ret mX6_drawDeed (106, [some (qm_r 0 6 ad0), some (qm_i xd1), none, none], [qm_i xs0, qm_r 0 6 as1], h) (qm_Gv r) := by
  unfold qX6_drawDeed_106 at ho
  obtain ⟨r2, h1, hr, ho⟩ := qm_b2e ho
  refine qm_Ret.call (X := wX6_turn [qm_r 0 6 as1, qm_i xs0] h) (o1 := (some (qm_i r2), h1)) (qm_mp (G := qm_Gi) hr) rfl ?_
  show qm_Ret _ (109, [some (qm_r 0 6 ad0), some (qm_i xd1), none, none], [qm_i r2], h1) _
  cases ho
  exact qm_Ret.ret 3 rfl
set_option maxRecDepth 20000 in
set_option maxHeartbeats 2000000 in
theorem rX6_drawDeed_0   {a0 : Nat} {x1 : Int32} {h : qm_H} {r : qm_H} (ho : qX6_drawDeed  a0 x1 h = some r) : qm_Ret mX6_drawDeed (0, [some (qm_r 0 6 a0), some (qm_i x1), none, none], [], h) (qm_Gv r) := by
  unfold qX6_drawDeed at ho
  refine qm_Ret.sts 1 (f' := (1, [some (qm_r 0 6 a0), some (qm_i x1), none, none], [qm_i x1], h)) rfl ?_
  by_cases hc0 : x1 = (3 : Int32)
  · rw [if_pos hc0] at ho
    refine qm_Ret.sw (z := (3 : Int32)) (f1 := (36, [some (qm_r 0 6 a0), some (qm_i x1), none, none], [], h)) hc0 rfl rfl ?_
    refine qm_Ret.sts 6 (f' := (46, [some (qm_r 0 6 a0), some (qm_i x1), none, none], [qm_i (h.1 (a0 + 1) 4), qm_r 0 6 a0, qm_i (0 : Int32), qm_r 0 6 a0], h)) rfl ?_
    obtain ⟨r2, h1, hr, ho⟩ := qm_b2e ho
    refine qm_Ret.call (X := wX6_drawBelow [qm_r 0 6 a0, qm_i (h.1 (a0 + 1) 4)] h) (o1 := (some (qm_i r2), h1)) (qm_mp (G := qm_Gi) hr) rfl ?_
    show qm_Ret _ (49, [some (qm_r 0 6 a0), some (qm_i x1), none, none], [qm_i r2, qm_i (0 : Int32), qm_r 0 6 a0], h1) _
    obtain ⟨r4, h3, hr, ho⟩ := qm_b2e ho
    refine qm_Ret.call (X := wX6_mend [qm_r 0 6 a0, qm_i (0 : Int32), qm_i r2] h1) (o1 := (some (qm_i r4), h3)) (qm_mp (G := qm_Gi) hr) rfl ?_
    show qm_Ret _ (52, [some (qm_r 0 6 a0), some (qm_i x1), none, none], [qm_i r4], h3) _
    cases ho
    exact qm_Ret.ret 3 rfl
  · rw [if_neg hc0] at ho
    by_cases hc1 : x1 = (4 : Int32)
    · rw [if_pos hc1] at ho
      refine qm_Ret.sw (z := (4 : Int32)) (f1 := (56, [some (qm_r 0 6 a0), some (qm_i x1), none, none], [], h)) hc1 rfl rfl ?_
      refine qm_Ret.sts 6 (f' := (66, [some (qm_r 0 6 a0), some (qm_i x1), none, none], [qm_i (h.1 (a0 + 1) 3), qm_r 0 6 a0, qm_i (1 : Int32), qm_r 0 6 a0], h)) rfl ?_
      obtain ⟨r6, h5, hr, ho⟩ := qm_b2e ho
      refine qm_Ret.call (X := wX6_drawBelow [qm_r 0 6 a0, qm_i (h.1 (a0 + 1) 3)] h) (o1 := (some (qm_i r6), h5)) (qm_mp (G := qm_Gi) hr) rfl ?_
      show qm_Ret _ (69, [some (qm_r 0 6 a0), some (qm_i x1), none, none], [qm_i r6, qm_i (1 : Int32), qm_r 0 6 a0], h5) _
      obtain ⟨r8, h7, hr, ho⟩ := qm_b2e ho
      refine qm_Ret.call (X := wX6_grow [qm_r 0 6 a0, qm_i (1 : Int32), qm_i r6] h5) (o1 := (some (qm_i r8), h7)) (qm_mp (G := qm_Gi) hr) rfl ?_
      show qm_Ret _ (72, [some (qm_r 0 6 a0), some (qm_i x1), none, none], [qm_i r8], h7) _
      cases ho
      exact qm_Ret.ret 3 rfl
    · rw [if_neg hc1] at ho
      by_cases hc2 : x1 = (5 : Int32)
      · rw [if_pos hc2] at ho
        refine qm_Ret.sw (z := (5 : Int32)) (f1 := (76, [some (qm_r 0 6 a0), some (qm_i x1), none, none], [], h)) hc2 rfl rfl ?_
        refine qm_Ret.sts 1 (f' := (77, [some (qm_r 0 6 a0), some (qm_i x1), none, none], [qm_r 0 6 a0], h)) rfl ?_
        obtain ⟨h9, hr, ho⟩ := qm_bd ho
        refine qm_Ret.call (X := wX6_drawWeave [qm_r 0 6 a0] h) (o1 := (none, h9)) (qm_mp (G := qm_Gv) hr) rfl ?_
        show qm_Ret _ (80, [some (qm_r 0 6 a0), some (qm_i x1), none, none], [], h9) _
        cases ho
        exact qm_Ret.ret 2 rfl
      · rw [if_neg hc2] at ho
        by_cases hc3 : x1 = (6 : Int32)
        · rw [if_pos hc3] at ho
          refine qm_Ret.sw (z := (6 : Int32)) (f1 := (83, [some (qm_r 0 6 a0), some (qm_i x1), none, none], [], h)) hc3 rfl rfl ?_
          refine qm_Ret.sts 1 (f' := (84, [some (qm_r 0 6 a0), some (qm_i x1), none, none], [qm_r 0 6 a0], h)) rfl ?_
          obtain ⟨h10, hr, ho⟩ := qm_bd ho
          refine qm_Ret.call (X := wX6_winter [qm_r 0 6 a0] h) (o1 := (none, h10)) (qm_mp (G := qm_Gv) hr) rfl ?_
          show qm_Ret _ (87, [some (qm_r 0 6 a0), some (qm_i x1), none, none], [], h10) _
          cases ho
          exact qm_Ret.ret 2 rfl
        · rw [if_neg hc3] at ho
          by_cases hc4 : x1 = (7 : Int32)
          · rw [if_pos hc4] at ho
            refine qm_Ret.sw (z := (7 : Int32)) (f1 := (90, [some (qm_r 0 6 a0), some (qm_i x1), none, none], [], h)) hc4 rfl rfl ?_
            refine qm_Ret.sts 4 (f' := (98, [some (qm_r 0 6 a0), some (qm_i x1), none, none], [qm_i (h.1 (a0 + 1) 5), qm_r 0 6 a0], h)) rfl ?_
            refine qm_Ret.ne (t := 105) (e := 101) rfl (fun hc => ?_) (fun hc => ?_)
            · rw [if_pos hc] at ho
              refine qm_Ret.sts 2 (f' := (106, [some (qm_r 0 6 a0), some (qm_i x1), none, none], [qm_i (1 : Int32), qm_r 0 6 a0], h)) rfl ?_
              exact rX6_drawDeed_106 ho
            · rw [if_neg hc] at ho
              refine qm_Ret.sts 1 (f' := (106, [some (qm_r 0 6 a0), some (qm_i x1), none, none], [qm_i (0 : Int32), qm_r 0 6 a0], h)) rfl ?_
              exact rX6_drawDeed_106 ho
          · rw [if_neg hc4] at ho
            have nhc0 := lv_neT hc0 (show (3 : Int32).toInt = 3 by decide)
            have nhc1 := lv_neT hc1 (show (4 : Int32).toInt = 4 by decide)
            have nhc2 := lv_neT hc2 (show (5 : Int32).toInt = 5 by decide)
            have nhc3 := lv_neT hc3 (show (6 : Int32).toInt = 6 by decide)
            have nhc4 := lv_neT hc4 (show (7 : Int32).toInt = 7 by decide)
            refine qm_Ret.swd (d := 112) (lo := 3) (hi := 7) (pc := 1) (by omega) (by decide) rfl ?_
            show qm_Ret _ (113, [some (qm_r 0 6 a0), some (qm_i x1), none, none], [], h) _
            refine qm_Ret.sts 2 (f' := (115, [some (qm_r 0 6 a0), some (qm_i x1), none, none], [qm_i (4 : Int32), qm_r 0 6 a0], h)) rfl ?_
            obtain ⟨r12, h11, hr, ho⟩ := qm_b2e ho
            refine qm_Ret.call (X := wX6_drawBelow [qm_r 0 6 a0, qm_i (4 : Int32)] h) (o1 := (some (qm_i r12), h11)) (qm_mp (G := qm_Gi) hr) rfl ?_
            show qm_Ret _ (118, [some (qm_r 0 6 a0), some (qm_i x1), none, none], [qm_i r12], h11) _
            refine qm_Ret.sts 2 (f' := (120, [some (qm_r 0 6 a0), some (qm_i x1), none, none], [qm_i (r12 + (1 : Int32))], h11)) rfl ?_
            refine qm_Ret.lets (F := fun v13 => (120, [some (qm_r 0 6 a0), some (qm_i x1), none, none], [qm_i v13], h11)) (G := qm_Gv) ho (fun v13 ho => ?_)
            refine qm_Ret.sts 3 (f' := (123, [some (qm_r 0 6 a0), some (qm_i x1), some (qm_i v13), none], [qm_i (4 : Int32), qm_r 0 6 a0], h11)) rfl ?_
            obtain ⟨r15, h14, hr, ho⟩ := qm_b2e ho
            refine qm_Ret.call (X := wX6_drawBelow [qm_r 0 6 a0, qm_i (4 : Int32)] h11) (o1 := (some (qm_i r15), h14)) (qm_mp (G := qm_Gi) hr) rfl ?_
            show qm_Ret _ (126, [some (qm_r 0 6 a0), some (qm_i x1), some (qm_i v13), none], [qm_i r15], h14) _
            refine qm_Ret.sts 2 (f' := (128, [some (qm_r 0 6 a0), some (qm_i x1), some (qm_i v13), none], [qm_i (r15 + (1 : Int32))], h14)) rfl ?_
            refine qm_Ret.lets (F := fun v16 => (128, [some (qm_r 0 6 a0), some (qm_i x1), some (qm_i v13), none], [qm_i v16], h14)) (G := qm_Gv) ho (fun v16 ho => ?_)
            refine qm_Ret.sts 6 (f' := (135, [some (qm_r 0 6 a0), some (qm_i x1), some (qm_i v13), some (qm_i v16)], [qm_i (40 : Int32), qm_r 0 6 a0, qm_i v16, qm_i v13, qm_r 0 6 a0], h14)) rfl ?_
            obtain ⟨r18, h17, hr, ho⟩ := qm_b2e ho
            refine qm_Ret.call (X := wX6_drawBelow [qm_r 0 6 a0, qm_i (40 : Int32)] h14) (o1 := (some (qm_i r18), h17)) (qm_mp (G := qm_Gi) hr) rfl ?_
            show qm_Ret _ (138, [some (qm_r 0 6 a0), some (qm_i x1), some (qm_i v13), some (qm_i v16)], [qm_i r18, qm_i v16, qm_i v13, qm_r 0 6 a0], h17) _
            obtain ⟨h19, hr, ho⟩ := qm_bd ho
            refine qm_Ret.call (X := wX6_strike [qm_r 0 6 a0, qm_i v13, qm_i v16, qm_i r18] h17) (o1 := (none, h19)) (qm_mp (G := qm_Gv) hr) rfl ?_
            show qm_Ret _ (141, [some (qm_r 0 6 a0), some (qm_i x1), some (qm_i v13), some (qm_i v16)], [], h19) _
            cases ho
            exact qm_Ret.ret 1 rfl
theorem cX6_drawDeed_ok : ∀ q ∈ ([(66, 0, 2, wX6_turn), (128, 0, 2, wX6_drawBelow), (53, 0, 3, wX6_mend), (57, 0, 3, wX6_grow), (136, 0, 1, wX6_drawWeave), (63, 0, 1, wX6_winter), (49, 0, 4, wX6_strike)] : List (Nat × Nat × Nat × qm_C)), qm_CallOK RX6 5 120 q.2.1 q.1 q.2.2.1 q.2.2.2 := List.forall_mem_cons.mpr ⟨Or.inl ⟨yX6_turn, cX6_turn, 2, (some .boolean), 0, 0, _, sX6_turn, ⟨by decide, by decide⟩, ⟨jX6_turn, kRX6_66, uRX6⟩, ⟨by decide, by decide, rfl⟩, Or.inl ⟨rfl, rfl, iX6_turn, recvX6_turn⟩⟩, List.forall_mem_cons.mpr ⟨Or.inl ⟨yX6_drawBelow, cX6_drawBelow, 2, (some .int), 0, 0, _, sX6_drawBelow, ⟨by decide, by decide⟩, ⟨jX6_drawBelow, kRX6_128, uRX6⟩, ⟨by decide, by decide, rfl⟩, Or.inl ⟨rfl, rfl, iX6_drawBelow, recvX6_drawBelow⟩⟩, List.forall_mem_cons.mpr ⟨Or.inl ⟨yX6_mend, cX6_mend, 4, (some .boolean), 1, 25, _, sX6_mend, ⟨by decide, by decide⟩, ⟨jX6_mend, kRX6_53, uRX6⟩, ⟨by decide, by decide, rfl⟩, Or.inl ⟨rfl, rfl, iX6_mend, recvX6_mend⟩⟩, List.forall_mem_cons.mpr ⟨Or.inl ⟨yX6_grow, cX6_grow, 4, (some .boolean), 1, 25, _, sX6_grow, ⟨by decide, by decide⟩, ⟨jX6_grow, kRX6_57, uRX6⟩, ⟨by decide, by decide, rfl⟩, Or.inl ⟨rfl, rfl, iX6_grow, recvX6_grow⟩⟩, List.forall_mem_cons.mpr ⟨Or.inl ⟨yX6_drawWeave, cX6_drawWeave, 2, none, 3, 66, _, sX6_drawWeave, ⟨by decide, by decide⟩, ⟨jX6_drawWeave, kRX6_136, uRX6⟩, ⟨by decide, by decide, rfl⟩, Or.inl ⟨rfl, rfl, iX6_drawWeave, recvX6_drawWeave⟩⟩, List.forall_mem_cons.mpr ⟨Or.inl ⟨yX6_winter, cX6_winter, 2, none, 1, 21, _, sX6_winter, ⟨by decide, by decide⟩, ⟨jX6_winter, kRX6_63, uRX6⟩, ⟨by decide, by decide, rfl⟩, Or.inl ⟨rfl, rfl, iX6_winter, recvX6_winter⟩⟩, List.forall_mem_cons.mpr ⟨Or.inl ⟨yX6_strike, cX6_strike, 5, none, 4, 96, _, sX6_strike, ⟨by decide, by decide⟩, ⟨jX6_strike, kRX6_49, uRX6⟩, ⟨by decide, by decide, rfl⟩, Or.inl ⟨rfl, rfl, iX6_strike, recvX6_strike⟩⟩, fun _ h => absurd h List.not_mem_nil⟩⟩⟩⟩⟩⟩⟩
theorem sX6_drawDeed : qm_Snd yX6_drawDeed cX6_drawDeed 4 none 5 120 wX6_drawDeed := qm_met (fld := fun k => qm_lk k pfRX6) (con := fun k => qm_lk k pcRX6) (call := fun k => qm_lk k [(66, 0, 2, wX6_turn), (128, 0, 2, wX6_drawBelow), (53, 0, 3, wX6_mend), (57, 0, 3, wX6_grow), (136, 0, 1, wX6_drawWeave), (63, 0, 1, wX6_winter), (49, 0, 4, wX6_strike)]) (tab := qm_tab aX6_drawDeed) (plainFor_of_name (by decide)) (qm_fld_ok pfRX6_ok) (qm_con_ok pcRX6_ok) (fun idx kd n f hc => cX6_drawDeed_ok (idx, kd, n, f) (qm_lk_mem hc)) (qm_tab_ok aX6_drawDeed_ok) (fun vs h o hw => by
  unfold wX6_drawDeed at hw
  split at hw
  · obtain ⟨r, hr, rfl⟩ := Option.map_eq_some_iff.mp hw
    exact ⟨Nat.le_of_ble_eq_true rfl, rX6_drawDeed_0 (hr)⟩
  · cases hw)
theorem recvX6_drawDeed : ∀ vs h o, wX6_drawDeed vs h = some o → ∃ ci a rest, vs = qm_r 0 ci a :: rest ∧ qm_R ci = yX6_drawDeed.cls := by
  intro vs h o hw
  unfold wX6_drawDeed at hw
  split at hw
  · exact ⟨_, _, _, rfl, rfl⟩
  · cases hw
-- RX6 draw(LWillowLaw$Basket;II)V
theorem jX6_draw : Jvm.Cond.code yX6_draw cX6_draw 5 none ∈ qm_all := List.mem_filter.mpr ⟨by decide +kernel, rfl⟩
theorem iX6_draw : Jvm.Cond.instanceMethod yX6_draw ∈ qm_all ∧ Jvm.Cond.selects yX6_draw.cls yX6_draw yX6_draw ∈ qm_all := ⟨List.mem_filter.mpr ⟨by decide +kernel, rfl⟩, List.mem_filter.mpr ⟨by decide +kernel, rfl⟩⟩
def wX6_draw : qm_C := fun vs h => match vs with
  | [.inr (.inr (some (0, 6, p0))), .inr (.inr (some (0, 0, p1))), .inl p2, .inl p3] => (qX6_draw p0 p1 p2 p3 h).map qm_Gv
  | _ => none
def aX6_draw : List (Option (Instr × Nat)) := [some (.aload_n 0, 1), some (.aload_n 1, 1), some (.invokevirtual 32, 3), none, none, some (.aload_n 0, 1), some (.iload_n 2, 1), some (.putfield 125, 3), none, none, some (.iconst 0, 1), some (.istore 4, 2), none, some (.iload 4, 2), none, some (.iload_n 3, 1), some (.if_icmp .ge 19, 3), none, none, some (.aload_n 0, 1), some (.aload_n 0, 1), some (.bipush 8, 2), none, some (.invokevirtual 128, 3), none, none, some (.invokevirtual 132, 3), none, none, some (.iinc 4 1, 3), none, none, some (.goto (-19), 3), none, none, some (.return_, 1)]
theorem aX6_draw_ok : qm_tabok cX6_draw aX6_draw = true := by decide +kernel
def mX6_draw : qm_M := (none, (fun k => qm_lk k pfRX6), (fun k => qm_lk k pcRX6), (fun k => qm_lk k [(128, 0, 2, wX6_drawBelow), (132, 0, 2, wX6_drawDeed), (32, 0, 2, wX6_begin)]), qm_tab aX6_draw)
set_option maxRecDepth 20000 in
set_option maxHeartbeats 2000000 in
theorem rX6_draw_13   : ∀ {fuel : Nat} {a0 : Nat} {x3 : Int32} {x4 : Int32} {ad1 : Nat} {xd2 : Int32} {h : qm_H} {r : qm_H}, qX6_draw_13  fuel a0 x3 x4 h = some r → qm_Ret mX6_draw (13, [some (qm_r 0 6 a0), some (qm_r 0 0 ad1), some (qm_i xd2), some (qm_i x3), some (qm_i x4)], [], h) (qm_Gv r) := by
  intro fuel
  induction fuel with
  | zero => intros; rename_i ho; cases ho
  | succ n ih =>
    intro a0 x3 x4 ad1 xd2 h r ho
    unfold qX6_draw_13 at ho
    refine qm_Ret.sts 2 (f' := (16, [some (qm_r 0 6 a0), some (qm_r 0 0 ad1), some (qm_i xd2), some (qm_i x3), some (qm_i x4)], [qm_i x3, qm_i x4], h)) rfl ?_
    refine qm_Ret.ge (t := 35) (e := 19) rfl (fun hc => ?_) (fun hc => ?_)
    · rw [if_pos hc] at ho
      refine qm_Ret.sts 3 (f' := (23, [some (qm_r 0 6 a0), some (qm_r 0 0 ad1), some (qm_i xd2), some (qm_i x3), some (qm_i x4)], [qm_i (8 : Int32), qm_r 0 6 a0, qm_r 0 6 a0], h)) rfl ?_
      obtain ⟨r2, h1, hr, ho⟩ := qm_b2e ho
      refine qm_Ret.call (X := wX6_drawBelow [qm_r 0 6 a0, qm_i (8 : Int32)] h) (o1 := (some (qm_i r2), h1)) (qm_mp (G := qm_Gi) hr) rfl ?_
      show qm_Ret _ (26, [some (qm_r 0 6 a0), some (qm_r 0 0 ad1), some (qm_i xd2), some (qm_i x3), some (qm_i x4)], [qm_i r2, qm_r 0 6 a0], h1) _
      obtain ⟨h3, hr, ho⟩ := qm_bd ho
      refine qm_Ret.call (X := wX6_drawDeed [qm_r 0 6 a0, qm_i r2] h1) (o1 := (none, h3)) (qm_mp (G := qm_Gv) hr) rfl ?_
      show qm_Ret _ (29, [some (qm_r 0 6 a0), some (qm_r 0 0 ad1), some (qm_i xd2), some (qm_i x3), some (qm_i x4)], [], h3) _
      refine qm_Ret.sts 2 (f' := (13, [some (qm_r 0 6 a0), some (qm_r 0 0 ad1), some (qm_i xd2), some (qm_i x3), some (qm_i (x4 + (1 : Int32)))], [], h3)) rfl ?_
      exact ih ho
    · rw [if_neg hc] at ho
      cases ho
      exact qm_Ret.ret 1 rfl
set_option maxRecDepth 20000 in
set_option maxHeartbeats 2000000 in
theorem rX6_draw_0   {a0 : Nat} {a1 : Nat} {x2 : Int32} {x3 : Int32} {h : qm_H} {r : qm_H} (ho : qX6_draw  a0 a1 x2 x3 h = some r) : qm_Ret mX6_draw (0, [some (qm_r 0 6 a0), some (qm_r 0 0 a1), some (qm_i x2), some (qm_i x3), none], [], h) (qm_Gv r) := by
  unfold qX6_draw at ho
  refine qm_Ret.sts 2 (f' := (2, [some (qm_r 0 6 a0), some (qm_r 0 0 a1), some (qm_i x2), some (qm_i x3), none], [qm_r 0 0 a1, qm_r 0 6 a0], h)) rfl ?_
  obtain ⟨h1, hr, ho⟩ := qm_bd ho
  refine qm_Ret.call (X := wX6_begin [qm_r 0 6 a0, qm_r 0 0 a1] h) (o1 := (none, h1)) (qm_mp (G := qm_Gv) hr) rfl ?_
  show qm_Ret _ (5, [some (qm_r 0 6 a0), some (qm_r 0 0 a1), some (qm_i x2), some (qm_i x3), none], [], h1) _
  refine qm_Ret.sts 5 (f' := (13, [some (qm_r 0 6 a0), some (qm_r 0 0 a1), some (qm_i x2), some (qm_i x3), some (qm_i (0 : Int32))], [], (qm_seti h1 a0 4 x2))) rfl ?_
  exact rX6_draw_13 ho
theorem cX6_draw_ok : ∀ q ∈ ([(128, 0, 2, wX6_drawBelow), (132, 0, 2, wX6_drawDeed), (32, 0, 2, wX6_begin)] : List (Nat × Nat × Nat × qm_C)), qm_CallOK RX6 6 143 q.2.1 q.1 q.2.2.1 q.2.2.2 := List.forall_mem_cons.mpr ⟨Or.inl ⟨yX6_drawBelow, cX6_drawBelow, 2, (some .int), 0, 0, _, sX6_drawBelow, ⟨by decide, by decide⟩, ⟨jX6_drawBelow, kRX6_128, uRX6⟩, ⟨by decide, by decide, rfl⟩, Or.inl ⟨rfl, rfl, iX6_drawBelow, recvX6_drawBelow⟩⟩, List.forall_mem_cons.mpr ⟨Or.inl ⟨yX6_drawDeed, cX6_drawDeed, 4, none, 5, 120, _, sX6_drawDeed, ⟨by decide, by decide⟩, ⟨jX6_drawDeed, kRX6_132, uRX6⟩, ⟨by decide, by decide, rfl⟩, Or.inl ⟨rfl, rfl, iX6_drawDeed, recvX6_drawDeed⟩⟩, List.forall_mem_cons.mpr ⟨Or.inl ⟨yX6_begin, cX6_begin, 2, none, 2, 81, _, sX6_begin, ⟨by decide, by decide⟩, ⟨jX6_begin, kRX6_32, uRX6⟩, ⟨by decide, by decide, rfl⟩, Or.inl ⟨rfl, rfl, iX6_begin, recvX6_begin⟩⟩, fun _ h => absurd h List.not_mem_nil⟩⟩⟩
theorem sX6_draw : qm_Snd yX6_draw cX6_draw 5 none 6 143 wX6_draw := qm_met (fld := fun k => qm_lk k pfRX6) (con := fun k => qm_lk k pcRX6) (call := fun k => qm_lk k [(128, 0, 2, wX6_drawBelow), (132, 0, 2, wX6_drawDeed), (32, 0, 2, wX6_begin)]) (tab := qm_tab aX6_draw) (plainFor_of_name (by decide)) (qm_fld_ok pfRX6_ok) (qm_con_ok pcRX6_ok) (fun idx kd n f hc => cX6_draw_ok (idx, kd, n, f) (qm_lk_mem hc)) (qm_tab_ok aX6_draw_ok) (fun vs h o hw => by
  unfold wX6_draw at hw
  split at hw
  · obtain ⟨r, hr, rfl⟩ := Option.map_eq_some_iff.mp hw
    exact ⟨Nat.le_of_ble_eq_true rfl, rX6_draw_0 (hr)⟩
  · cases hw)
theorem recvX6_draw : ∀ vs h o, wX6_draw vs h = some o → ∃ ci a rest, vs = qm_r 0 ci a :: rest ∧ qm_R ci = yX6_draw.cls := by
  intro vs h o hw
  unfold wX6_draw at hw
  split at hw
  · exact ⟨_, _, _, rfl, rfl⟩
  · cases hw
-- RX6 part(I)I
theorem jX6_part : Jvm.Cond.code yX6_part cX6_part 2 (some .int) ∈ qm_all := List.mem_filter.mpr ⟨by decide +kernel, rfl⟩
theorem iX6_part : Jvm.Cond.instanceMethod yX6_part ∈ qm_all ∧ Jvm.Cond.selects yX6_part.cls yX6_part yX6_part ∈ qm_all := ⟨List.mem_filter.mpr ⟨by decide +kernel, rfl⟩, List.mem_filter.mpr ⟨by decide +kernel, rfl⟩⟩
def wX6_part : qm_C := fun vs h => match vs with
  | [.inr (.inr (some (0, 6, p0))), .inl p1] => (qX6_part p0 p1 h).map qm_Gi
  | _ => none
def aX6_part : List (Option (Instr × Nat)) := [some (.iload_n 1, 1), some (.tableswitch 89 0 5 #[39, 44, 49, 54, 65, 81], 39), none, none, none, none, none, none, none, none, none, none, none, none, none, none, none, none, none, none, none, none, none, none, none, none, none, none, none, none, none, none, none, none, none, none, none, none, none, none, some (.aload_n 0, 1), some (.getfield 22, 3), none, none, some (.ireturn, 1), some (.aload_n 0, 1), some (.getfield 26, 3), none, none, some (.ireturn, 1), some (.aload_n 0, 1), some (.getfield 29, 3), none, none, some (.ireturn, 1), some (.aload_n 0, 1), some (.getfield 12, 3), none, none, some (.getfield 106, 3), none, none, some (.invokestatic 146, 3), none, none, some (.ireturn, 1), some (.aload_n 0, 1), some (.getfield 12, 3), none, none, some (.getfield 121, 3), none, none, some (.ifCond .eq 7, 3), none, none, some (.iconst 1, 1), some (.goto 4, 3), none, none, some (.iconst 0, 1), some (.ireturn, 1), some (.aload_n 0, 1), some (.getfield 12, 3), none, none, some (.invokevirtual 152, 3), none, none, some (.ireturn, 1), some (.aload_n 0, 1), some (.getfield 12, 3), none, none, some (.iload_n 1, 1), some (.invokevirtual 156, 3), none, none, some (.ireturn, 1)]
theorem aX6_part_ok : qm_tabok cX6_part aX6_part = true := by decide +kernel
def mX6_part : qm_M := ((some .int), (fun k => qm_lk k pfRX6), (fun k => qm_lk k pcRX6), (fun k => qm_lk k [(146, 2, 1, wJ13_bitCount_95d88), (152, 0, 1, wX0_strengthOfAll), (156, 0, 2, wX0_part)]), qm_tab aX6_part)
set_option maxRecDepth 20000 in
set_option maxHeartbeats 2000000 in
theorem rX6_part_0   {a0 : Nat} {x1 : Int32} {h : qm_H} {r : Int32 × qm_H} (ho : qX6_part  a0 x1 h = some r) : qm_Ret mX6_part (0, [some (qm_r 0 6 a0), some (qm_i x1)], [], h) (qm_Gi r) := by
  unfold qX6_part at ho
  refine qm_Ret.sts 1 (f' := (1, [some (qm_r 0 6 a0), some (qm_i x1)], [qm_i x1], h)) rfl ?_
  by_cases hc0 : x1 = (0 : Int32)
  · rw [if_pos hc0] at ho
    refine qm_Ret.sw (z := (0 : Int32)) (f1 := (40, [some (qm_r 0 6 a0), some (qm_i x1)], [], h)) hc0 rfl rfl ?_
    cases ho
    exact qm_Ret.ret 3 rfl
  · rw [if_neg hc0] at ho
    by_cases hc1 : x1 = (1 : Int32)
    · rw [if_pos hc1] at ho
      refine qm_Ret.sw (z := (1 : Int32)) (f1 := (45, [some (qm_r 0 6 a0), some (qm_i x1)], [], h)) hc1 rfl rfl ?_
      cases ho
      exact qm_Ret.ret 3 rfl
    · rw [if_neg hc1] at ho
      by_cases hc2 : x1 = (2 : Int32)
      · rw [if_pos hc2] at ho
        refine qm_Ret.sw (z := (2 : Int32)) (f1 := (50, [some (qm_r 0 6 a0), some (qm_i x1)], [], h)) hc2 rfl rfl ?_
        cases ho
        exact qm_Ret.ret 3 rfl
      · rw [if_neg hc2] at ho
        by_cases hc3 : x1 = (3 : Int32)
        · rw [if_pos hc3] at ho
          refine qm_Ret.sw (z := (3 : Int32)) (f1 := (55, [some (qm_r 0 6 a0), some (qm_i x1)], [], h)) hc3 rfl rfl ?_
          refine qm_Ret.sts 3 (f' := (62, [some (qm_r 0 6 a0), some (qm_i x1)], [qm_l (h.2 (a0 + 1) 6)], h)) rfl ?_
          obtain ⟨r2, h1, hr, ho⟩ := qm_b2e ho
          refine qm_Ret.call (X := wJ13_bitCount_95d88 [qm_l (h.2 (a0 + 1) 6)] h) (o1 := (some (qm_i r2), h1)) (qm_mp (G := qm_Gi) hr) rfl ?_
          show qm_Ret _ (65, [some (qm_r 0 6 a0), some (qm_i x1)], [qm_i r2], h1) _
          cases ho
          exact qm_Ret.ret 1 rfl
        · rw [if_neg hc3] at ho
          by_cases hc4 : x1 = (4 : Int32)
          · rw [if_pos hc4] at ho
            refine qm_Ret.sw (z := (4 : Int32)) (f1 := (66, [some (qm_r 0 6 a0), some (qm_i x1)], [], h)) hc4 rfl rfl ?_
            refine qm_Ret.sts 3 (f' := (73, [some (qm_r 0 6 a0), some (qm_i x1)], [qm_i (h.1 (a0 + 1) 5)], h)) rfl ?_
            refine qm_Ret.eq (t := 80) (e := 76) rfl (fun hc => ?_) (fun hc => ?_)
            · rw [if_pos hc] at ho
              cases ho
              exact qm_Ret.ret 2 rfl
            · rw [if_neg hc] at ho
              cases ho
              exact qm_Ret.ret 3 rfl
          · rw [if_neg hc4] at ho
            by_cases hc5 : x1 = (5 : Int32)
            · rw [if_pos hc5] at ho
              refine qm_Ret.sw (z := (5 : Int32)) (f1 := (82, [some (qm_r 0 6 a0), some (qm_i x1)], [], h)) hc5 rfl rfl ?_
              refine qm_Ret.sts 2 (f' := (86, [some (qm_r 0 6 a0), some (qm_i x1)], [qm_r 0 0 (a0 + 1)], h)) rfl ?_
              obtain ⟨r4, h3, hr, ho⟩ := qm_b2e ho
              refine qm_Ret.call (X := wX0_strengthOfAll [qm_r 0 0 (a0 + 1)] h) (o1 := (some (qm_i r4), h3)) (qm_mp (G := qm_Gi) hr) rfl ?_
              show qm_Ret _ (89, [some (qm_r 0 6 a0), some (qm_i x1)], [qm_i r4], h3) _
              cases ho
              exact qm_Ret.ret 1 rfl
            · rw [if_neg hc5] at ho
              have nhc0 := lv_neT hc0 (show (0 : Int32).toInt = 0 by decide)
              have nhc1 := lv_neT hc1 (show (1 : Int32).toInt = 1 by decide)
              have nhc2 := lv_neT hc2 (show (2 : Int32).toInt = 2 by decide)
              have nhc3 := lv_neT hc3 (show (3 : Int32).toInt = 3 by decide)
              have nhc4 := lv_neT hc4 (show (4 : Int32).toInt = 4 by decide)
              have nhc5 := lv_neT hc5 (show (5 : Int32).toInt = 5 by decide)
              refine qm_Ret.swd (d := 89) (lo := 0) (hi := 5) (pc := 1) (by omega) (by decide) rfl ?_
              show qm_Ret _ (90, [some (qm_r 0 6 a0), some (qm_i x1)], [], h) _
              refine qm_Ret.sts 3 (f' := (95, [some (qm_r 0 6 a0), some (qm_i x1)], [qm_i x1, qm_r 0 0 (a0 + 1)], h)) rfl ?_
              obtain ⟨r6, h5, hr, ho⟩ := qm_b2e ho
              refine qm_Ret.call (X := wX0_part [qm_r 0 0 (a0 + 1), qm_i x1] h) (o1 := (some (qm_i r6), h5)) (qm_mp (G := qm_Gi) hr) rfl ?_
              show qm_Ret _ (98, [some (qm_r 0 6 a0), some (qm_i x1)], [qm_i r6], h5) _
              cases ho
              exact qm_Ret.ret 1 rfl
theorem cX6_part_ok : ∀ q ∈ ([(146, 2, 1, wJ13_bitCount_95d88), (152, 0, 1, wX0_strengthOfAll), (156, 0, 2, wX0_part)] : List (Nat × Nat × Nat × qm_C)), qm_CallOK RX6 4 94 q.2.1 q.1 q.2.2.1 q.2.2.2 := List.forall_mem_cons.mpr ⟨Or.inl ⟨yJ13_bitCount_95d88, cJ13_bitCount_95d88, 2, (some .int), 0, 0, _, sJ13_bitCount_95d88, ⟨by decide, by decide⟩, ⟨jJ13_bitCount_95d88, kRX6_146, uRJ13⟩, ⟨by decide, by decide, rfl⟩, Or.inr (Or.inl ⟨rfl, rfl, iJ13_bitCount_95d88⟩)⟩, List.forall_mem_cons.mpr ⟨Or.inl ⟨yX0_strengthOfAll, cX0_strengthOfAll, 1, (some .int), 3, 74, _, sX0_strengthOfAll, ⟨by decide, by decide⟩, ⟨jX0_strengthOfAll, kRX6_152, uRX0⟩, ⟨by decide, by decide, rfl⟩, Or.inl ⟨rfl, rfl, iX0_strengthOfAll, recvX0_strengthOfAll⟩⟩, List.forall_mem_cons.mpr ⟨Or.inl ⟨yX0_part, cX0_part, 5, (some .int), 3, 67, _, sX0_part, ⟨by decide, by decide⟩, ⟨jX0_part, kRX6_156, uRX0⟩, ⟨by decide, by decide, rfl⟩, Or.inl ⟨rfl, rfl, iX0_part, recvX0_part⟩⟩, fun _ h => absurd h List.not_mem_nil⟩⟩⟩
theorem sX6_part : qm_Snd yX6_part cX6_part 2 (some .int) 4 94 wX6_part := qm_met (fld := fun k => qm_lk k pfRX6) (con := fun k => qm_lk k pcRX6) (call := fun k => qm_lk k [(146, 2, 1, wJ13_bitCount_95d88), (152, 0, 1, wX0_strengthOfAll), (156, 0, 2, wX0_part)]) (tab := qm_tab aX6_part) (plainFor_of_name (by decide)) (qm_fld_ok pfRX6_ok) (qm_con_ok pcRX6_ok) (fun idx kd n f hc => cX6_part_ok (idx, kd, n, f) (qm_lk_mem hc)) (qm_tab_ok aX6_part_ok) (fun vs h o hw => by
  unfold wX6_part at hw
  split at hw
  · obtain ⟨r, hr, rfl⟩ := Option.map_eq_some_iff.mp hw
    exact ⟨Nat.le_of_ble_eq_true rfl, rX6_part_0 (hr)⟩
  · cases hw)
theorem recvX6_part : ∀ vs h o, wX6_part vs h = some o → ∃ ci a rest, vs = qm_r 0 ci a :: rest ∧ qm_R ci = yX6_part.cls := by
  intro vs h o hw
  unfold wX6_part at hw
  split at hw
  · exact ⟨_, _, _, rfl, rfl⟩
  · cases hw
-- RX7 findGaps(LWillowLaw$Basket;II)V
theorem jX7_findGaps : Jvm.Cond.code yX7_findGaps cX7_findGaps 8 none ∈ qm_all := List.mem_filter.mpr ⟨by decide +kernel, rfl⟩
theorem iX7_findGaps : Jvm.Cond.instanceMethod yX7_findGaps ∈ qm_all ∧ Jvm.Cond.selects yX7_findGaps.cls yX7_findGaps yX7_findGaps ∈ qm_all := ⟨List.mem_filter.mpr ⟨by decide +kernel, rfl⟩, List.mem_filter.mpr ⟨by decide +kernel, rfl⟩⟩
def wX7_findGaps : qm_C := fun vs h => match vs with
  | [.inr (.inr (some (0, 7, p0))), .inr (.inr (some (0, 0, p1))), .inl p2, .inl p3] => (qX7_findGaps p0 p1 p2 p3 h).map qm_Gv
  | _ => none
def aX7_findGaps : List (Option (Instr × Nat)) := [some (.aload_n 0, 1), some (.iconst 0, 1), some (.putfield 26, 3), none, none, some (.iconst 0, 1), some (.istore 4, 2), none, some (.iload 4, 2), none, some (.iload_n 3, 1), some (.iadd, 1), some (.aload_n 1, 1), some (.getfield 41, 3), none, none, some (.if_icmp .gt 83, 3), none, none, some (.iconst 0, 1), some (.istore 5, 2), none, some (.iload 5, 2), none, some (.iload_n 2, 1), some (.iadd, 1), some (.aload_n 1, 1), some (.getfield 46, 3), none, none, some (.if_icmp .gt 63, 3), none, none, some (.iload 4, 2), none, some (.iload 5, 2), none, some (.iload_n 2, 1), some (.iload_n 3, 1), some (.invokestatic 49, 3), none, none, some (.lstore 6, 2), none, some (.aload_n 1, 1), some (.getfield 53, 3), none, none, some (.lload 6, 2), none, some (.land, 1), some (.lload 6, 2), none, some (.lcmp, 1), some (.ifCond .ne 33, 3), none, none, some (.aload_n 0, 1), some (.getfield 26, 3), none, none, some (.bipush 64, 2), none, some (.if_icmp .ge 24, 3), none, none, some (.aload_n 0, 1), some (.getfield 9, 3), none, none, some (.aload_n 0, 1), some (.getfield 26, 3), none, none, some (.lload 6, 2), none, some (.lastore, 1), some (.aload_n 0, 1), some (.dup, 1), some (.getfield 26, 3), none, none, some (.iconst 1, 1), some (.iadd, 1), some (.putfield 26, 3), none, none, some (.iinc 5 1, 3), none, none, some (.goto (-68), 3), none, none, some (.iinc 4 1, 3), none, none, some (.goto (-88), 3), none, none, some (.return_, 1)]
theorem aX7_findGaps_ok : qm_tabok cX7_findGaps aX7_findGaps = true := by decide +kernel
def mX7_findGaps : qm_M := (none, (fun k => qm_lk k pfRX7), (fun k => qm_lk k pcRX7), (fun k => qm_lk k [(49, 2, 4, wX0_block)]), qm_tab aX7_findGaps)
set_option maxRecDepth 20000 in
set_option maxHeartbeats 2000000 in
theorem rX7_findGaps_22 {K8 : Nat → Nat → Int32 → Int32 → Int32 → qm_H → Option (qm_H)} (H8 : ∀ {a0 : Nat} {a1 : Nat} {x2 : Int32} {x3 : Int32} {x4 : Int32} {d5 : Option qm_V} {d6 : Option qm_V} {h : qm_H} {r : qm_H}, K8 a0 a1 x2 x3 x4 h = some r → qm_Ret mX7_findGaps (8, [some (qm_r 0 7 a0), some (qm_r 0 0 a1), some (qm_i x2), some (qm_i x3), some (qm_i x4), d5, d6, none], [], h) (qm_Gv r)) : ∀ {fuel : Nat} {a0 : Nat} {a1 : Nat} {x2 : Int32} {x3 : Int32} {x4 : Int32} {x5 : Int32} {d6 : Option qm_V} {h : qm_H} {r : qm_H}, qX7_findGaps_22 K8 fuel a0 a1 x2 x3 x4 x5 h = some r → qm_Ret mX7_findGaps (22, [some (qm_r 0 7 a0), some (qm_r 0 0 a1), some (qm_i x2), some (qm_i x3), some (qm_i x4), some (qm_i x5), d6, none], [], h) (qm_Gv r) := by
  intro fuel
  induction fuel with
  | zero => intros; rename_i ho; cases ho
  | succ n ih =>
    intro a0 a1 x2 x3 x4 x5 d6 h r ho
    unfold qX7_findGaps_22 at ho
    refine qm_Ret.sts 5 (f' := (30, [some (qm_r 0 7 a0), some (qm_r 0 0 a1), some (qm_i x2), some (qm_i x3), some (qm_i x4), some (qm_i x5), d6, none], [qm_i (h.1 a1 3), qm_i (x5 + x2)], h)) rfl ?_
    refine qm_Ret.gt (t := 93) (e := 33) rfl (fun hc => ?_) (fun hc => ?_)
    · rw [if_pos hc] at ho
      refine qm_Ret.sts 2 (f' := (8, [some (qm_r 0 7 a0), some (qm_r 0 0 a1), some (qm_i x2), some (qm_i x3), some (qm_i (x4 + (1 : Int32))), some (qm_i x5), d6, none], [], h)) rfl ?_
      exact H8 ho
    · rw [if_neg hc] at ho
      refine qm_Ret.sts 4 (f' := (39, [some (qm_r 0 7 a0), some (qm_r 0 0 a1), some (qm_i x2), some (qm_i x3), some (qm_i x4), some (qm_i x5), d6, none], [qm_i x3, qm_i x2, qm_i x5, qm_i x4], h)) rfl ?_
      obtain ⟨r2, h1, hr, ho⟩ := qm_b2e ho
      refine qm_Ret.call (X := wX0_block [qm_i x4, qm_i x5, qm_i x2, qm_i x3] h) (o1 := (some (qm_l r2), h1)) (qm_mp (G := qm_Gl) hr) rfl ?_
      show qm_Ret _ (42, [some (qm_r 0 7 a0), some (qm_r 0 0 a1), some (qm_i x2), some (qm_i x3), some (qm_i x4), some (qm_i x5), d6, none], [qm_l r2], h1) _
      refine qm_Ret.sts 7 (f' := (54, [some (qm_r 0 7 a0), some (qm_r 0 0 a1), some (qm_i x2), some (qm_i x3), some (qm_i x4), some (qm_i x5), some (qm_l r2), none], [qm_i (lg_cmp ((h1.2 a1 6) &&& r2) r2)], h1)) rfl ?_
      refine qm_Ret.ne (t := 87) (e := 57) rfl (fun hc => ?_) (fun hc => ?_)
      · rw [if_pos hc] at ho
        refine qm_Ret.sts 3 (f' := (63, [some (qm_r 0 7 a0), some (qm_r 0 0 a1), some (qm_i x2), some (qm_i x3), some (qm_i x4), some (qm_i x5), some (qm_l r2), none], [qm_i (64 : Int32), qm_i (h1.1 a0 3)], h1)) rfl ?_
        refine qm_Ret.ge (t := 87) (e := 66) rfl (fun hc => ?_) (fun hc => ?_)
        · rw [if_pos hc] at ho
          refine qm_Ret.sts 5 (f' := (76, [some (qm_r 0 7 a0), some (qm_r 0 0 a1), some (qm_i x2), some (qm_i x3), some (qm_i x4), some (qm_i x5), some (qm_l r2), none], [qm_l r2, qm_i (h1.1 a0 3), qm_r 4 64 (a0 + 1)], h1)) rfl ?_
          obtain ⟨hg, ho⟩ := qm_ifn ho
          refine qm_Ret.gn (f1 := (77, [some (qm_r 0 7 a0), some (qm_r 0 0 a1), some (qm_i x2), some (qm_i x3), some (qm_i x4), some (qm_i x5), some (qm_l r2), none], [], (qm_setl h1 (a0 + 1) (h1.1 a0 3).toNatClampNeg r2))) hg rfl ?_
          refine qm_Ret.lets (F := fun h3 => (77, [some (qm_r 0 7 a0), some (qm_r 0 0 a1), some (qm_i x2), some (qm_i x3), some (qm_i x4), some (qm_i x5), some (qm_l r2), none], [], h3)) (G := qm_Gv) ho (fun h3 ho => ?_)
          refine qm_Ret.sts 6 (f' := (87, [some (qm_r 0 7 a0), some (qm_r 0 0 a1), some (qm_i x2), some (qm_i x3), some (qm_i x4), some (qm_i x5), some (qm_l r2), none], [], (qm_seti h3 a0 3 ((h3.1 a0 3) + (1 : Int32))))) rfl ?_
          refine qm_Ret.lets (F := fun h4 => (87, [some (qm_r 0 7 a0), some (qm_r 0 0 a1), some (qm_i x2), some (qm_i x3), some (qm_i x4), some (qm_i x5), some (qm_l r2), none], [], h4)) (G := qm_Gv) ho (fun h4 ho => ?_)
          refine qm_Ret.sts 2 (f' := (22, [some (qm_r 0 7 a0), some (qm_r 0 0 a1), some (qm_i x2), some (qm_i x3), some (qm_i x4), some (qm_i (x5 + (1 : Int32))), some (qm_l r2), none], [], h4)) rfl ?_
          exact ih ho
        · rw [if_neg hc] at ho
          refine qm_Ret.sts 2 (f' := (22, [some (qm_r 0 7 a0), some (qm_r 0 0 a1), some (qm_i x2), some (qm_i x3), some (qm_i x4), some (qm_i (x5 + (1 : Int32))), some (qm_l r2), none], [], h1)) rfl ?_
          exact ih ho
      · rw [if_neg hc] at ho
        refine qm_Ret.sts 2 (f' := (22, [some (qm_r 0 7 a0), some (qm_r 0 0 a1), some (qm_i x2), some (qm_i x3), some (qm_i x4), some (qm_i (x5 + (1 : Int32))), some (qm_l r2), none], [], h1)) rfl ?_
        exact ih ho
set_option maxRecDepth 20000 in
set_option maxHeartbeats 2000000 in
theorem rX7_findGaps_8   : ∀ {fuel : Nat} {a0 : Nat} {a1 : Nat} {x2 : Int32} {x3 : Int32} {x4 : Int32} {d5 : Option qm_V} {d6 : Option qm_V} {h : qm_H} {r : qm_H}, qX7_findGaps_8  fuel a0 a1 x2 x3 x4 h = some r → qm_Ret mX7_findGaps (8, [some (qm_r 0 7 a0), some (qm_r 0 0 a1), some (qm_i x2), some (qm_i x3), some (qm_i x4), d5, d6, none], [], h) (qm_Gv r) := by
  intro fuel
  induction fuel with
  | zero => intros; rename_i ho; cases ho
  | succ n ih =>
    intro a0 a1 x2 x3 x4 d5 d6 h r ho
    unfold qX7_findGaps_8 at ho
    refine qm_Ret.sts 5 (f' := (16, [some (qm_r 0 7 a0), some (qm_r 0 0 a1), some (qm_i x2), some (qm_i x3), some (qm_i x4), d5, d6, none], [qm_i (h.1 a1 4), qm_i (x4 + x3)], h)) rfl ?_
    refine qm_Ret.gt (t := 99) (e := 19) rfl (fun hc => ?_) (fun hc => ?_)
    · rw [if_pos hc] at ho
      cases ho
      exact qm_Ret.ret 1 rfl
    · rw [if_neg hc] at ho
      refine qm_Ret.sts 2 (f' := (22, [some (qm_r 0 7 a0), some (qm_r 0 0 a1), some (qm_i x2), some (qm_i x3), some (qm_i x4), some (qm_i (0 : Int32)), d6, none], [], h)) rfl ?_
      exact rX7_findGaps_22 (ih) ho
set_option maxRecDepth 20000 in
set_option maxHeartbeats 2000000 in
theorem rX7_findGaps_0   {a0 : Nat} {a1 : Nat} {x2 : Int32} {x3 : Int32} {h : qm_H} {r : qm_H} (ho : qX7_findGaps  a0 a1 x2 x3 h = some r) : qm_Ret mX7_findGaps (0, [some (qm_r 0 7 a0), some (qm_r 0 0 a1), some (qm_i x2), some (qm_i x3), none, none, none, none], [], h) (qm_Gv r) := by
  unfold qX7_findGaps at ho
  refine qm_Ret.sts 3 (f' := (5, [some (qm_r 0 7 a0), some (qm_r 0 0 a1), some (qm_i x2), some (qm_i x3), none, none, none, none], [], (qm_seti h a0 3 (0 : Int32)))) rfl ?_
  refine qm_Ret.lets (F := fun h1 => (5, [some (qm_r 0 7 a0), some (qm_r 0 0 a1), some (qm_i x2), some (qm_i x3), none, none, none, none], [], h1)) (G := qm_Gv) ho (fun h1 ho => ?_)
  refine qm_Ret.sts 2 (f' := (8, [some (qm_r 0 7 a0), some (qm_r 0 0 a1), some (qm_i x2), some (qm_i x3), some (qm_i (0 : Int32)), none, none, none], [], h1)) rfl ?_
  exact rX7_findGaps_8 ho
theorem cX7_findGaps_ok : ∀ q ∈ ([(49, 2, 4, wX0_block)] : List (Nat × Nat × Nat × qm_C)), qm_CallOK RX7 1 28 q.2.1 q.1 q.2.2.1 q.2.2.2 := List.forall_mem_cons.mpr ⟨Or.inl ⟨yX0_block, cX0_block, 9, (some .long), 0, 0, _, sX0_block, ⟨by decide, by decide⟩, ⟨jX0_block, kRX7_49, uRX0⟩, ⟨by decide, by decide, rfl⟩, Or.inr (Or.inl ⟨rfl, rfl, iX0_block⟩)⟩, fun _ h => absurd h List.not_mem_nil⟩
theorem sX7_findGaps : qm_Snd yX7_findGaps cX7_findGaps 8 none 1 28 wX7_findGaps := qm_met (fld := fun k => qm_lk k pfRX7) (con := fun k => qm_lk k pcRX7) (call := fun k => qm_lk k [(49, 2, 4, wX0_block)]) (tab := qm_tab aX7_findGaps) (plainFor_of_name (by decide)) (qm_fld_ok pfRX7_ok) (qm_con_ok pcRX7_ok) (fun idx kd n f hc => cX7_findGaps_ok (idx, kd, n, f) (qm_lk_mem hc)) (qm_tab_ok aX7_findGaps_ok) (fun vs h o hw => by
  unfold wX7_findGaps at hw
  split at hw
  · obtain ⟨r, hr, rfl⟩ := Option.map_eq_some_iff.mp hw
    exact ⟨Nat.le_of_ble_eq_true rfl, rX7_findGaps_0 (hr)⟩
  · cases hw)
theorem recvX7_findGaps : ∀ vs h o, wX7_findGaps vs h = some o → ∃ ci a rest, vs = qm_r 0 ci a :: rest ∧ qm_R ci = yX7_findGaps.cls := by
  intro vs h o hw
  unfold wX7_findGaps at hw
  split at hw
  · exact ⟨_, _, _, rfl, rfl⟩
  · cases hw
-- RJ13 numberOfTrailingZeros(J)I
theorem jJ13_numberOfTrailingZeros_95d88 : Jvm.Cond.code yJ13_numberOfTrailingZeros_95d88 cJ13_numberOfTrailingZeros_95d88 3 (some .int) ∈ qm_all := List.mem_filter.mpr ⟨by decide +kernel, rfl⟩
theorem iJ13_numberOfTrailingZeros_95d88 : Jvm.Cond.static yJ13_numberOfTrailingZeros_95d88 ∈ qm_all := List.mem_filter.mpr ⟨by decide +kernel, rfl⟩
def wJ13_numberOfTrailingZeros_95d88 : qm_C := fun vs h => match vs with
  | [.inr (.inl p0)] => (qJ13_numberOfTrailingZeros_95d88 p0 h).map qm_Gi
  | _ => none
def aJ13_numberOfTrailingZeros_95d88 : List (Option (Instr × Nat)) := [some (.lload_n 0, 1), some (.l2i, 1), some (.istore_n 2, 1), some (.iload_n 2, 1), some (.ifCond .ne 17, 3), none, none, some (.bipush 32, 2), none, some (.lload_n 0, 1), some (.bipush 32, 2), none, some (.lushr, 1), some (.l2i, 1), some (.invokestatic 311, 3), none, none, some (.iadd, 1), some (.goto 7, 3), none, none, some (.iload_n 2, 1), some (.invokestatic 311, 3), none, none, some (.ireturn, 1)]
theorem aJ13_numberOfTrailingZeros_95d88_ok : qm_tabok cJ13_numberOfTrailingZeros_95d88 aJ13_numberOfTrailingZeros_95d88 = true := by decide +kernel
def mJ13_numberOfTrailingZeros_95d88 : qm_M := ((some .int), (fun k => qm_lk k pfRJ13), (fun k => qm_lk k pcRJ13), (fun k => qm_lk k [(311, 2, 1, wJ6_numberOfTrailingZeros_0f7a4)]), qm_tab aJ13_numberOfTrailingZeros_95d88)
set_option maxRecDepth 20000 in
set_option maxHeartbeats 2000000 in
theorem rJ13_numberOfTrailingZeros_95d88_0   {l0 : Int64} {h : qm_H} {r : Int32 × qm_H} (ho : qJ13_numberOfTrailingZeros_95d88  l0 h = some r) : qm_Ret mJ13_numberOfTrailingZeros_95d88 (0, [some (qm_l l0), none, none], [], h) (qm_Gi r) := by
  unfold qJ13_numberOfTrailingZeros_95d88 at ho
  refine qm_Ret.sts 4 (f' := (4, [some (qm_l l0), none, some (qm_i (l0).toInt32)], [qm_i (l0).toInt32], h)) rfl ?_
  refine qm_Ret.ne (t := 21) (e := 7) rfl (fun hc => ?_) (fun hc => ?_)
  · rw [if_pos hc] at ho
    refine qm_Ret.sts 5 (f' := (14, [some (qm_l l0), none, some (qm_i (l0).toInt32)], [qm_i ((qm_lushr l0 (32 : Int32))).toInt32, qm_i (32 : Int32)], h)) rfl ?_
    obtain ⟨r4, h3, hr, ho⟩ := qm_b2e ho
    refine qm_Ret.call (X := wJ6_numberOfTrailingZeros_0f7a4 [qm_i ((qm_lushr l0 (32 : Int32))).toInt32] h) (o1 := (some (qm_i r4), h3)) (qm_mp (G := qm_Gi) hr) rfl ?_
    show qm_Ret _ (17, [some (qm_l l0), none, some (qm_i (l0).toInt32)], [qm_i r4, qm_i (32 : Int32)], h3) _
    cases ho
    exact qm_Ret.ret 3 rfl
  · rw [if_neg hc] at ho
    refine qm_Ret.sts 1 (f' := (22, [some (qm_l l0), none, some (qm_i (l0).toInt32)], [qm_i (l0).toInt32], h)) rfl ?_
    obtain ⟨r2, h1, hr, ho⟩ := qm_b2e ho
    refine qm_Ret.call (X := wJ6_numberOfTrailingZeros_0f7a4 [qm_i (l0).toInt32] h) (o1 := (some (qm_i r2), h1)) (qm_mp (G := qm_Gi) hr) rfl ?_
    show qm_Ret _ (25, [some (qm_l l0), none, some (qm_i (l0).toInt32)], [qm_i r2], h1) _
    cases ho
    exact qm_Ret.ret 1 rfl
theorem cJ13_numberOfTrailingZeros_95d88_ok : ∀ q ∈ ([(311, 2, 1, wJ6_numberOfTrailingZeros_0f7a4)] : List (Nat × Nat × Nat × qm_C)), qm_CallOK RJ13 1 21 q.2.1 q.1 q.2.2.1 q.2.2.2 := List.forall_mem_cons.mpr ⟨Or.inl ⟨yJ6_numberOfTrailingZeros_0f7a4, cJ6_numberOfTrailingZeros_0f7a4, 2, (some .int), 0, 0, _, sJ6_numberOfTrailingZeros_0f7a4, ⟨by decide, by decide⟩, ⟨jJ6_numberOfTrailingZeros_0f7a4, kRJ13_311, uRJ6⟩, ⟨by decide, by decide, rfl⟩, Or.inr (Or.inl ⟨rfl, rfl, iJ6_numberOfTrailingZeros_0f7a4⟩)⟩, fun _ h => absurd h List.not_mem_nil⟩
theorem sJ13_numberOfTrailingZeros_95d88 : qm_Snd yJ13_numberOfTrailingZeros_95d88 cJ13_numberOfTrailingZeros_95d88 3 (some .int) 1 21 wJ13_numberOfTrailingZeros_95d88 := qm_met (fld := fun k => qm_lk k pfRJ13) (con := fun k => qm_lk k pcRJ13) (call := fun k => qm_lk k [(311, 2, 1, wJ6_numberOfTrailingZeros_0f7a4)]) (tab := qm_tab aJ13_numberOfTrailingZeros_95d88) (by decide +kernel) (qm_fld_ok pfRJ13_ok) (qm_con_ok pcRJ13_ok) (fun idx kd n f hc => cJ13_numberOfTrailingZeros_95d88_ok (idx, kd, n, f) (qm_lk_mem hc)) (qm_tab_ok aJ13_numberOfTrailingZeros_95d88_ok) (fun vs h o hw => by
  unfold wJ13_numberOfTrailingZeros_95d88 at hw
  split at hw
  · obtain ⟨r, hr, rfl⟩ := Option.map_eq_some_iff.mp hw
    exact ⟨Nat.le_of_ble_eq_true rfl, rJ13_numberOfTrailingZeros_95d88_0 (hr)⟩
  · cases hw)
-- RX7 leastInAll(J)I
theorem jX7_leastInAll : Jvm.Cond.code yX7_leastInAll cX7_leastInAll 6 (some .int) ∈ qm_all := List.mem_filter.mpr ⟨by decide +kernel, rfl⟩
theorem iX7_leastInAll : Jvm.Cond.instanceMethod yX7_leastInAll ∈ qm_all ∧ Jvm.Cond.selects yX7_leastInAll.cls yX7_leastInAll yX7_leastInAll ∈ qm_all := ⟨List.mem_filter.mpr ⟨by decide +kernel, rfl⟩, List.mem_filter.mpr ⟨by decide +kernel, rfl⟩⟩
def wX7_leastInAll : qm_C := fun vs h => match vs with
  | [.inr (.inr (some (0, 7, p0))), .inr (.inl p1)] => (qX7_leastInAll p0 p1 h).map qm_Gi
  | _ => none
def aX7_leastInAll : List (Option (Instr × Nat)) := [some (.ldc2_w 57, 3), none, none, some (.lstore_n 3, 1), some (.iconst 0, 1), some (.istore 5, 2), none, some (.iload 5, 2), none, some (.aload_n 0, 1), some (.getfield 26, 3), none, none, some (.if_icmp .ge 46, 3), none, none, some (.iload 5, 2), none, some (.bipush 64, 2), none, some (.if_icmp .ge 39, 3), none, none, some (.lload_n 3, 1), some (.lconst 0, 1), some (.lcmp, 1), some (.ifCond .eq 33, 3), none, none, some (.aload_n 0, 1), some (.getfield 9, 3), none, none, some (.iload 5, 2), none, some (.laload, 1), some (.lload_n 1, 1), some (.land, 1), some (.lconst 0, 1), some (.lcmp, 1), some (.ifCond .ne 13, 3), none, none, some (.lload_n 3, 1), some (.aload_n 0, 1), some (.getfield 9, 3), none, none, some (.iload 5, 2), none, some (.laload, 1), some (.land, 1), some (.lstore_n 3, 1), some (.iinc 5 1, 3), none, none, some (.goto (-49), 3), none, none, some (.lload_n 3, 1), some (.lconst 0, 1), some (.lcmp, 1), some (.ifCond .ne 7, 3), none, none, some (.iconst (-1), 1), some (.goto 7, 3), none, none, some (.lload_n 3, 1), some (.invokestatic 59, 3), none, none, some (.ireturn, 1)]
theorem aX7_leastInAll_ok : qm_tabok cX7_leastInAll aX7_leastInAll = true := by decide +kernel
def mX7_leastInAll : qm_M := ((some .int), (fun k => qm_lk k pfRX7), (fun k => qm_lk k pcRX7), (fun k => qm_lk k [(59, 2, 1, wJ13_numberOfTrailingZeros_95d88)]), qm_tab aX7_leastInAll)
set_option maxRecDepth 20000 in
set_option maxHeartbeats 2000000 in
theorem rX7_leastInAll_59   {l3 : Int64} {ad0 : Nat} {ld1 : Int64} {xd5 : Int32} {h : qm_H} {r : Int32 × qm_H} (ho : qX7_leastInAll_59  l3 h = some r) : qm_Ret mX7_leastInAll (59, [some (qm_r 0 7 ad0), some (qm_l ld1), none, some (qm_l l3), none, some (qm_i xd5)], [], h) (qm_Gi r) := by
  unfold qX7_leastInAll_59 at ho
  refine qm_Ret.sts 3 (f' := (62, [some (qm_r 0 7 ad0), some (qm_l ld1), none, some (qm_l l3), none, some (qm_i xd5)], [qm_i (lg_cmp l3 (0 : Int64))], h)) rfl ?_
  refine qm_Ret.ne (t := 69) (e := 65) rfl (fun hc => ?_) (fun hc => ?_)
  · rw [if_pos hc] at ho
    cases ho
    exact qm_Ret.ret 3 rfl
  · rw [if_neg hc] at ho
    refine qm_Ret.sts 1 (f' := (70, [some (qm_r 0 7 ad0), some (qm_l ld1), none, some (qm_l l3), none, some (qm_i xd5)], [qm_l l3], h)) rfl ?_
    obtain ⟨r2, h1, hr, ho⟩ := qm_b2e ho
    refine qm_Ret.call (X := wJ13_numberOfTrailingZeros_95d88 [qm_l l3] h) (o1 := (some (qm_i r2), h1)) (qm_mp (G := qm_Gi) hr) rfl ?_
    show qm_Ret _ (73, [some (qm_r 0 7 ad0), some (qm_l ld1), none, some (qm_l l3), none, some (qm_i xd5)], [qm_i r2], h1) _
    cases ho
    exact qm_Ret.ret 1 rfl
set_option maxRecDepth 20000 in
set_option maxHeartbeats 2000000 in
theorem rX7_leastInAll_7   : ∀ {fuel : Nat} {a0 : Nat} {l1 : Int64} {l3 : Int64} {x5 : Int32} {h : qm_H} {r : Int32 × qm_H}, qX7_leastInAll_7  fuel a0 l1 l3 x5 h = some r → qm_Ret mX7_leastInAll (7, [some (qm_r 0 7 a0), some (qm_l l1), none, some (qm_l l3), none, some (qm_i x5)], [], h) (qm_Gi r) := by
  intro fuel
  induction fuel with
  | zero => intros; rename_i ho; cases ho
  | succ n ih =>
    intro a0 l1 l3 x5 h r ho
    unfold qX7_leastInAll_7 at ho
    refine qm_Ret.sts 3 (f' := (13, [some (qm_r 0 7 a0), some (qm_l l1), none, some (qm_l l3), none, some (qm_i x5)], [qm_i (h.1 a0 3), qm_i x5], h)) rfl ?_
    refine qm_Ret.ge (t := 59) (e := 16) rfl (fun hc => ?_) (fun hc => ?_)
    · rw [if_pos hc] at ho
      refine qm_Ret.sts 2 (f' := (20, [some (qm_r 0 7 a0), some (qm_l l1), none, some (qm_l l3), none, some (qm_i x5)], [qm_i (64 : Int32), qm_i x5], h)) rfl ?_
      refine qm_Ret.ge (t := 59) (e := 23) rfl (fun hc => ?_) (fun hc => ?_)
      · rw [if_pos hc] at ho
        refine qm_Ret.sts 3 (f' := (26, [some (qm_r 0 7 a0), some (qm_l l1), none, some (qm_l l3), none, some (qm_i x5)], [qm_i (lg_cmp l3 (0 : Int64))], h)) rfl ?_
        refine qm_Ret.eq (t := 59) (e := 29) rfl (fun hc => ?_) (fun hc => ?_)
        · rw [if_pos hc] at ho
          exact rX7_leastInAll_59 ho
        · rw [if_neg hc] at ho
          refine qm_Ret.sts 3 (f' := (35, [some (qm_r 0 7 a0), some (qm_l l1), none, some (qm_l l3), none, some (qm_i x5)], [qm_i x5, qm_r 4 64 (a0 + 1)], h)) rfl ?_
          obtain ⟨hg, ho⟩ := qm_ifn ho
          refine qm_Ret.gn (f1 := (36, [some (qm_r 0 7 a0), some (qm_l l1), none, some (qm_l l3), none, some (qm_i x5)], [qm_l (h.2 (a0 + 1) (x5).toNatClampNeg)], h)) hg rfl ?_
          refine qm_Ret.sts 4 (f' := (40, [some (qm_r 0 7 a0), some (qm_l l1), none, some (qm_l l3), none, some (qm_i x5)], [qm_i (lg_cmp ((h.2 (a0 + 1) (x5).toNatClampNeg) &&& l1) (0 : Int64))], h)) rfl ?_
          refine qm_Ret.ne (t := 53) (e := 43) rfl (fun hc => ?_) (fun hc => ?_)
          · rw [if_pos hc] at ho
            refine qm_Ret.sts 4 (f' := (50, [some (qm_r 0 7 a0), some (qm_l l1), none, some (qm_l l3), none, some (qm_i x5)], [qm_i x5, qm_r 4 64 (a0 + 1), qm_l l3], h)) rfl ?_
            obtain ⟨hg, ho⟩ := qm_ifn ho
            refine qm_Ret.gn (f1 := (51, [some (qm_r 0 7 a0), some (qm_l l1), none, some (qm_l l3), none, some (qm_i x5)], [qm_l (h.2 (a0 + 1) (x5).toNatClampNeg), qm_l l3], h)) hg rfl ?_
            refine qm_Ret.sts 1 (f' := (52, [some (qm_r 0 7 a0), some (qm_l l1), none, some (qm_l l3), none, some (qm_i x5)], [qm_l (l3 &&& (h.2 (a0 + 1) (x5).toNatClampNeg))], h)) rfl ?_
            refine qm_Ret.lets (F := fun v1 => (52, [some (qm_r 0 7 a0), some (qm_l l1), none, some (qm_l l3), none, some (qm_i x5)], [qm_l v1], h)) (G := qm_Gi) ho (fun v1 ho => ?_)
            refine qm_Ret.sts 3 (f' := (7, [some (qm_r 0 7 a0), some (qm_l l1), none, some (qm_l v1), none, some (qm_i (x5 + (1 : Int32)))], [], h)) rfl ?_
            exact ih ho
          · rw [if_neg hc] at ho
            refine qm_Ret.sts 2 (f' := (7, [some (qm_r 0 7 a0), some (qm_l l1), none, some (qm_l l3), none, some (qm_i (x5 + (1 : Int32)))], [], h)) rfl ?_
            exact ih ho
      · rw [if_neg hc] at ho
        exact rX7_leastInAll_59 ho
    · rw [if_neg hc] at ho
      exact rX7_leastInAll_59 ho
set_option maxRecDepth 20000 in
set_option maxHeartbeats 2000000 in
theorem rX7_leastInAll_0   {a0 : Nat} {l1 : Int64} {h : qm_H} {r : Int32 × qm_H} (ho : qX7_leastInAll  a0 l1 h = some r) : qm_Ret mX7_leastInAll (0, [some (qm_r 0 7 a0), some (qm_l l1), none, none, none, none], [], h) (qm_Gi r) := by
  unfold qX7_leastInAll at ho
  refine qm_Ret.sts 4 (f' := (7, [some (qm_r 0 7 a0), some (qm_l l1), none, some (qm_l (-1 : Int64)), none, some (qm_i (0 : Int32))], [], h)) rfl ?_
  exact rX7_leastInAll_7 ho
theorem cX7_leastInAll_ok : ∀ q ∈ ([(59, 2, 1, wJ13_numberOfTrailingZeros_95d88)] : List (Nat × Nat × Nat × qm_C)), qm_CallOK RX7 2 43 q.2.1 q.1 q.2.2.1 q.2.2.2 := List.forall_mem_cons.mpr ⟨Or.inl ⟨yJ13_numberOfTrailingZeros_95d88, cJ13_numberOfTrailingZeros_95d88, 3, (some .int), 1, 21, _, sJ13_numberOfTrailingZeros_95d88, ⟨by decide, by decide⟩, ⟨jJ13_numberOfTrailingZeros_95d88, kRX7_59, uRJ13⟩, ⟨by decide, by decide, rfl⟩, Or.inr (Or.inl ⟨rfl, rfl, iJ13_numberOfTrailingZeros_95d88⟩)⟩, fun _ h => absurd h List.not_mem_nil⟩
theorem sX7_leastInAll : qm_Snd yX7_leastInAll cX7_leastInAll 6 (some .int) 2 43 wX7_leastInAll := qm_met (fld := fun k => qm_lk k pfRX7) (con := fun k => qm_lk k pcRX7) (call := fun k => qm_lk k [(59, 2, 1, wJ13_numberOfTrailingZeros_95d88)]) (tab := qm_tab aX7_leastInAll) (plainFor_of_name (by decide)) (qm_fld_ok pfRX7_ok) (qm_con_ok pcRX7_ok) (fun idx kd n f hc => cX7_leastInAll_ok (idx, kd, n, f) (qm_lk_mem hc)) (qm_tab_ok aX7_leastInAll_ok) (fun vs h o hw => by
  unfold wX7_leastInAll at hw
  split at hw
  · obtain ⟨r, hr, rfl⟩ := Option.map_eq_some_iff.mp hw
    exact ⟨Nat.le_of_ble_eq_true rfl, rX7_leastInAll_0 (hr)⟩
  · cases hw)
theorem recvX7_leastInAll : ∀ vs h o, wX7_leastInAll vs h = some o → ∃ ci a rest, vs = qm_r 0 ci a :: rest ∧ qm_R ci = yX7_leastInAll.cls := by
  intro vs h o hw
  unfold wX7_leastInAll at hw
  split at hw
  · exact ⟨_, _, _, rfl, rfl⟩
  · cases hw
-- RX7 closeTwo()Z
theorem jX7_closeTwo : Jvm.Cond.code yX7_closeTwo cX7_closeTwo 3 (some .boolean) ∈ qm_all := List.mem_filter.mpr ⟨by decide +kernel, rfl⟩
theorem iX7_closeTwo : Jvm.Cond.instanceMethod yX7_closeTwo ∈ qm_all ∧ Jvm.Cond.selects yX7_closeTwo.cls yX7_closeTwo yX7_closeTwo ∈ qm_all := ⟨List.mem_filter.mpr ⟨by decide +kernel, rfl⟩, List.mem_filter.mpr ⟨by decide +kernel, rfl⟩⟩
def wX7_closeTwo : qm_C := fun vs h => match vs with
  | [.inr (.inr (some (0, 7, p0)))] => (qX7_closeTwo p0 h).map qm_Gi
  | _ => none
def aX7_closeTwo : List (Option (Instr × Nat)) := [some (.iconst 0, 1), some (.istore_n 1, 1), some (.iload_n 1, 1), some (.bipush 64, 2), none, some (.if_icmp .ge 38, 3), none, none, some (.aload_n 0, 1), some (.lconst 1, 1), some (.iload_n 1, 1), some (.lshl, 1), some (.invokevirtual 30, 3), none, none, some (.istore_n 2, 1), some (.iload_n 2, 1), some (.iconst (-1), 1), some (.if_icmp .eq 19, 3), none, none, some (.aload_n 0, 1), some (.getfield 15, 3), none, none, some (.iconst 0, 1), some (.iload_n 1, 1), some (.iastore, 1), some (.aload_n 0, 1), some (.getfield 15, 3), none, none, some (.iconst 1, 1), some (.iload_n 2, 1), some (.iastore, 1), some (.iconst 1, 1), some (.ireturn, 1), some (.iinc 1 1, 3), none, none, some (.goto (-38), 3), none, none, some (.iconst 0, 1), some (.ireturn, 1)]
theorem aX7_closeTwo_ok : qm_tabok cX7_closeTwo aX7_closeTwo = true := by decide +kernel
def mX7_closeTwo : qm_M := ((some .boolean), (fun k => qm_lk k pfRX7), (fun k => qm_lk k pcRX7), (fun k => qm_lk k [(30, 0, 2, wX7_leastInAll)]), qm_tab aX7_closeTwo)
set_option maxRecDepth 20000 in
set_option maxHeartbeats 2000000 in
theorem rX7_closeTwo_2   : ∀ {fuel : Nat} {a0 : Nat} {x1 : Int32} {d2 : Option qm_V} {h : qm_H} {r : Int32 × qm_H}, qX7_closeTwo_2  fuel a0 x1 h = some r → qm_Ret mX7_closeTwo (2, [some (qm_r 0 7 a0), some (qm_i x1), d2], [], h) (qm_Gi r) := by
  intro fuel
  induction fuel with
  | zero => intros; rename_i ho; cases ho
  | succ n ih =>
    intro a0 x1 d2 h r ho
    unfold qX7_closeTwo_2 at ho
    refine qm_Ret.sts 2 (f' := (5, [some (qm_r 0 7 a0), some (qm_i x1), d2], [qm_i (64 : Int32), qm_i x1], h)) rfl ?_
    refine qm_Ret.ge (t := 43) (e := 8) rfl (fun hc => ?_) (fun hc => ?_)
    · rw [if_pos hc] at ho
      refine qm_Ret.sts 4 (f' := (12, [some (qm_r 0 7 a0), some (qm_i x1), d2], [qm_l (qm_lshl (1 : Int64) x1), qm_r 0 7 a0], h)) rfl ?_
      obtain ⟨r2, h1, hr, ho⟩ := qm_b2e ho
      refine qm_Ret.call (X := wX7_leastInAll [qm_r 0 7 a0, qm_l (qm_lshl (1 : Int64) x1)] h) (o1 := (some (qm_i r2), h1)) (qm_mp (G := qm_Gi) hr) rfl ?_
      show qm_Ret _ (15, [some (qm_r 0 7 a0), some (qm_i x1), d2], [qm_i r2], h1) _
      refine qm_Ret.sts 3 (f' := (18, [some (qm_r 0 7 a0), some (qm_i x1), some (qm_i r2)], [qm_i (-1 : Int32), qm_i r2], h1)) rfl ?_
      refine qm_Ret.eq (t := 37) (e := 21) rfl (fun hc => ?_) (fun hc => ?_)
      · rw [if_pos hc] at ho
        refine qm_Ret.sts 2 (f' := (2, [some (qm_r 0 7 a0), some (qm_i (x1 + (1 : Int32))), some (qm_i r2)], [], h1)) rfl ?_
        exact ih ho
      · rw [if_neg hc] at ho
        refine qm_Ret.sts 5 (f' := (28, [some (qm_r 0 7 a0), some (qm_i x1), some (qm_i r2)], [], (qm_seti h1 (a0 + 2) (0 : Int32).toNatClampNeg x1))) rfl ?_
        refine qm_Ret.lets (F := fun h3 => (28, [some (qm_r 0 7 a0), some (qm_i x1), some (qm_i r2)], [], h3)) (G := qm_Gi) ho (fun h3 ho => ?_)
        refine qm_Ret.sts 5 (f' := (35, [some (qm_r 0 7 a0), some (qm_i x1), some (qm_i r2)], [], (qm_seti h3 (a0 + 2) (1 : Int32).toNatClampNeg r2))) rfl ?_
        refine qm_Ret.lets (F := fun h4 => (35, [some (qm_r 0 7 a0), some (qm_i x1), some (qm_i r2)], [], h4)) (G := qm_Gi) ho (fun h4 ho => ?_)
        cases ho
        exact qm_Ret.ret 2 rfl
    · rw [if_neg hc] at ho
      cases ho
      exact qm_Ret.ret 2 rfl
set_option maxRecDepth 20000 in
set_option maxHeartbeats 2000000 in
theorem rX7_closeTwo_0   {a0 : Nat} {h : qm_H} {r : Int32 × qm_H} (ho : qX7_closeTwo  a0 h = some r) : qm_Ret mX7_closeTwo (0, [some (qm_r 0 7 a0), none, none], [], h) (qm_Gi r) := by
  unfold qX7_closeTwo at ho
  refine qm_Ret.sts 2 (f' := (2, [some (qm_r 0 7 a0), some (qm_i (0 : Int32)), none], [], h)) rfl ?_
  exact rX7_closeTwo_2 ho
theorem cX7_closeTwo_ok : ∀ q ∈ ([(30, 0, 2, wX7_leastInAll)] : List (Nat × Nat × Nat × qm_C)), qm_CallOK RX7 3 68 q.2.1 q.1 q.2.2.1 q.2.2.2 := List.forall_mem_cons.mpr ⟨Or.inl ⟨yX7_leastInAll, cX7_leastInAll, 6, (some .int), 2, 43, _, sX7_leastInAll, ⟨by decide, by decide⟩, ⟨jX7_leastInAll, kRX7_30, uRX7⟩, ⟨by decide, by decide, rfl⟩, Or.inl ⟨rfl, rfl, iX7_leastInAll, recvX7_leastInAll⟩⟩, fun _ h => absurd h List.not_mem_nil⟩
theorem sX7_closeTwo : qm_Snd yX7_closeTwo cX7_closeTwo 3 (some .boolean) 3 68 wX7_closeTwo := qm_met (fld := fun k => qm_lk k pfRX7) (con := fun k => qm_lk k pcRX7) (call := fun k => qm_lk k [(30, 0, 2, wX7_leastInAll)]) (tab := qm_tab aX7_closeTwo) (plainFor_of_name (by decide)) (qm_fld_ok pfRX7_ok) (qm_con_ok pcRX7_ok) (fun idx kd n f hc => cX7_closeTwo_ok (idx, kd, n, f) (qm_lk_mem hc)) (qm_tab_ok aX7_closeTwo_ok) (fun vs h o hw => by
  unfold wX7_closeTwo at hw
  split at hw
  · obtain ⟨r, hr, rfl⟩ := Option.map_eq_some_iff.mp hw
    exact ⟨Nat.le_of_ble_eq_true rfl, rX7_closeTwo_0 (hr)⟩
  · cases hw)
theorem recvX7_closeTwo : ∀ vs h o, wX7_closeTwo vs h = some o → ∃ ci a rest, vs = qm_r 0 ci a :: rest ∧ qm_R ci = yX7_closeTwo.cls := by
  intro vs h o hw
  unfold wX7_closeTwo at hw
  split at hw
  · exact ⟨_, _, _, rfl, rfl⟩
  · cases hw
-- RX7 closeThree()Z
theorem jX7_closeThree : Jvm.Cond.code yX7_closeThree cX7_closeThree 4 (some .boolean) ∈ qm_all := List.mem_filter.mpr ⟨by decide +kernel, rfl⟩
theorem iX7_closeThree : Jvm.Cond.instanceMethod yX7_closeThree ∈ qm_all ∧ Jvm.Cond.selects yX7_closeThree.cls yX7_closeThree yX7_closeThree ∈ qm_all := ⟨List.mem_filter.mpr ⟨by decide +kernel, rfl⟩, List.mem_filter.mpr ⟨by decide +kernel, rfl⟩⟩
def wX7_closeThree : qm_C := fun vs h => match vs with
  | [.inr (.inr (some (0, 7, p0)))] => (qX7_closeThree p0 h).map qm_Gi
  | _ => none
def aX7_closeThree : List (Option (Instr × Nat)) := [some (.iconst 0, 1), some (.istore_n 1, 1), some (.iload_n 1, 1), some (.bipush 64, 2), none, some (.if_icmp .ge 65, 3), none, none, some (.iload_n 1, 1), some (.iconst 1, 1), some (.iadd, 1), some (.istore_n 2, 1), some (.iload_n 2, 1), some (.bipush 64, 2), none, some (.if_icmp .ge 49, 3), none, none, some (.aload_n 0, 1), some (.lconst 1, 1), some (.iload_n 1, 1), some (.lshl, 1), some (.lconst 1, 1), some (.iload_n 2, 1), some (.lshl, 1), some (.lor, 1), some (.invokevirtual 30, 3), none, none, some (.istore_n 3, 1), some (.iload_n 3, 1), some (.iconst (-1), 1), some (.if_icmp .eq 26, 3), none, none, some (.aload_n 0, 1), some (.getfield 15, 3), none, none, some (.iconst 0, 1), some (.iload_n 1, 1), some (.iastore, 1), some (.aload_n 0, 1), some (.getfield 15, 3), none, none, some (.iconst 1, 1), some (.iload_n 2, 1), some (.iastore, 1), some (.aload_n 0, 1), some (.getfield 15, 3), none, none, some (.iconst 2, 1), some (.iload_n 3, 1), some (.iastore, 1), some (.iconst 1, 1), some (.ireturn, 1), some (.iinc 2 1, 3), none, none, some (.goto (-49), 3), none, none, some (.iinc 1 1, 3), none, none, some (.goto (-65), 3), none, none, some (.iconst 0, 1), some (.ireturn, 1)]
theorem aX7_closeThree_ok : qm_tabok cX7_closeThree aX7_closeThree = true := by decide +kernel
def mX7_closeThree : qm_M := ((some .boolean), (fun k => qm_lk k pfRX7), (fun k => qm_lk k pcRX7), (fun k => qm_lk k [(30, 0, 2, wX7_leastInAll)]), qm_tab aX7_closeThree)
set_option maxRecDepth 20000 in
set_option maxHeartbeats 2000000 in
theorem rX7_closeThree_12 {K2 : Nat → Int32 → qm_H → Option (Int32 × qm_H)} (H2 : ∀ {a0 : Nat} {x1 : Int32} {d2 : Option qm_V} {d3 : Option qm_V} {h : qm_H} {r : Int32 × qm_H}, K2 a0 x1 h = some r → qm_Ret mX7_closeThree (2, [some (qm_r 0 7 a0), some (qm_i x1), d2, d3], [], h) (qm_Gi r)) : ∀ {fuel : Nat} {a0 : Nat} {x1 : Int32} {x2 : Int32} {d3 : Option qm_V} {h : qm_H} {r : Int32 × qm_H}, qX7_closeThree_12 K2 fuel a0 x1 x2 h = some r → qm_Ret mX7_closeThree (12, [some (qm_r 0 7 a0), some (qm_i x1), some (qm_i x2), d3], [], h) (qm_Gi r) := by
  intro fuel
  induction fuel with
  | zero => intros; rename_i ho; cases ho
  | succ n ih =>
    intro a0 x1 x2 d3 h r ho
    unfold qX7_closeThree_12 at ho
    refine qm_Ret.sts 2 (f' := (15, [some (qm_r 0 7 a0), some (qm_i x1), some (qm_i x2), d3], [qm_i (64 : Int32), qm_i x2], h)) rfl ?_
    refine qm_Ret.ge (t := 64) (e := 18) rfl (fun hc => ?_) (fun hc => ?_)
    · rw [if_pos hc] at ho
      refine qm_Ret.sts 8 (f' := (26, [some (qm_r 0 7 a0), some (qm_i x1), some (qm_i x2), d3], [qm_l ((qm_lshl (1 : Int64) x1) ||| (qm_lshl (1 : Int64) x2)), qm_r 0 7 a0], h)) rfl ?_
      obtain ⟨r2, h1, hr, ho⟩ := qm_b2e ho
      refine qm_Ret.call (X := wX7_leastInAll [qm_r 0 7 a0, qm_l ((qm_lshl (1 : Int64) x1) ||| (qm_lshl (1 : Int64) x2))] h) (o1 := (some (qm_i r2), h1)) (qm_mp (G := qm_Gi) hr) rfl ?_
      show qm_Ret _ (29, [some (qm_r 0 7 a0), some (qm_i x1), some (qm_i x2), d3], [qm_i r2], h1) _
      refine qm_Ret.sts 3 (f' := (32, [some (qm_r 0 7 a0), some (qm_i x1), some (qm_i x2), some (qm_i r2)], [qm_i (-1 : Int32), qm_i r2], h1)) rfl ?_
      refine qm_Ret.eq (t := 58) (e := 35) rfl (fun hc => ?_) (fun hc => ?_)
      · rw [if_pos hc] at ho
        refine qm_Ret.sts 2 (f' := (12, [some (qm_r 0 7 a0), some (qm_i x1), some (qm_i (x2 + (1 : Int32))), some (qm_i r2)], [], h1)) rfl ?_
        exact ih ho
      · rw [if_neg hc] at ho
        refine qm_Ret.sts 5 (f' := (42, [some (qm_r 0 7 a0), some (qm_i x1), some (qm_i x2), some (qm_i r2)], [], (qm_seti h1 (a0 + 2) (0 : Int32).toNatClampNeg x1))) rfl ?_
        refine qm_Ret.lets (F := fun h3 => (42, [some (qm_r 0 7 a0), some (qm_i x1), some (qm_i x2), some (qm_i r2)], [], h3)) (G := qm_Gi) ho (fun h3 ho => ?_)
        refine qm_Ret.sts 5 (f' := (49, [some (qm_r 0 7 a0), some (qm_i x1), some (qm_i x2), some (qm_i r2)], [], (qm_seti h3 (a0 + 2) (1 : Int32).toNatClampNeg x2))) rfl ?_
        refine qm_Ret.lets (F := fun h4 => (49, [some (qm_r 0 7 a0), some (qm_i x1), some (qm_i x2), some (qm_i r2)], [], h4)) (G := qm_Gi) ho (fun h4 ho => ?_)
        refine qm_Ret.sts 5 (f' := (56, [some (qm_r 0 7 a0), some (qm_i x1), some (qm_i x2), some (qm_i r2)], [], (qm_seti h4 (a0 + 2) (2 : Int32).toNatClampNeg r2))) rfl ?_
        refine qm_Ret.lets (F := fun h5 => (56, [some (qm_r 0 7 a0), some (qm_i x1), some (qm_i x2), some (qm_i r2)], [], h5)) (G := qm_Gi) ho (fun h5 ho => ?_)
        cases ho
        exact qm_Ret.ret 2 rfl
    · rw [if_neg hc] at ho
      refine qm_Ret.sts 2 (f' := (2, [some (qm_r 0 7 a0), some (qm_i (x1 + (1 : Int32))), some (qm_i x2), d3], [], h)) rfl ?_
      exact H2 ho
set_option maxRecDepth 20000 in
set_option maxHeartbeats 2000000 in
theorem rX7_closeThree_2   : ∀ {fuel : Nat} {a0 : Nat} {x1 : Int32} {d2 : Option qm_V} {d3 : Option qm_V} {h : qm_H} {r : Int32 × qm_H}, qX7_closeThree_2  fuel a0 x1 h = some r → qm_Ret mX7_closeThree (2, [some (qm_r 0 7 a0), some (qm_i x1), d2, d3], [], h) (qm_Gi r) := by
  intro fuel
  induction fuel with
  | zero => intros; rename_i ho; cases ho
  | succ n ih =>
    intro a0 x1 d2 d3 h r ho
    unfold qX7_closeThree_2 at ho
    refine qm_Ret.sts 2 (f' := (5, [some (qm_r 0 7 a0), some (qm_i x1), d2, d3], [qm_i (64 : Int32), qm_i x1], h)) rfl ?_
    refine qm_Ret.ge (t := 70) (e := 8) rfl (fun hc => ?_) (fun hc => ?_)
    · rw [if_pos hc] at ho
      refine qm_Ret.sts 3 (f' := (11, [some (qm_r 0 7 a0), some (qm_i x1), d2, d3], [qm_i (x1 + (1 : Int32))], h)) rfl ?_
      refine qm_Ret.lets (F := fun v1 => (11, [some (qm_r 0 7 a0), some (qm_i x1), d2, d3], [qm_i v1], h)) (G := qm_Gi) ho (fun v1 ho => ?_)
      refine qm_Ret.sts 1 (f' := (12, [some (qm_r 0 7 a0), some (qm_i x1), some (qm_i v1), d3], [], h)) rfl ?_
      exact rX7_closeThree_12 (ih) ho
    · rw [if_neg hc] at ho
      cases ho
      exact qm_Ret.ret 2 rfl
set_option maxRecDepth 20000 in
set_option maxHeartbeats 2000000 in
theorem rX7_closeThree_0   {a0 : Nat} {h : qm_H} {r : Int32 × qm_H} (ho : qX7_closeThree  a0 h = some r) : qm_Ret mX7_closeThree (0, [some (qm_r 0 7 a0), none, none, none], [], h) (qm_Gi r) := by
  unfold qX7_closeThree at ho
  refine qm_Ret.sts 2 (f' := (2, [some (qm_r 0 7 a0), some (qm_i (0 : Int32)), none, none], [], h)) rfl ?_
  exact rX7_closeThree_2 ho
theorem cX7_closeThree_ok : ∀ q ∈ ([(30, 0, 2, wX7_leastInAll)] : List (Nat × Nat × Nat × qm_C)), qm_CallOK RX7 3 68 q.2.1 q.1 q.2.2.1 q.2.2.2 := List.forall_mem_cons.mpr ⟨Or.inl ⟨yX7_leastInAll, cX7_leastInAll, 6, (some .int), 2, 43, _, sX7_leastInAll, ⟨by decide, by decide⟩, ⟨jX7_leastInAll, kRX7_30, uRX7⟩, ⟨by decide, by decide, rfl⟩, Or.inl ⟨rfl, rfl, iX7_leastInAll, recvX7_leastInAll⟩⟩, fun _ h => absurd h List.not_mem_nil⟩
theorem sX7_closeThree : qm_Snd yX7_closeThree cX7_closeThree 4 (some .boolean) 3 68 wX7_closeThree := qm_met (fld := fun k => qm_lk k pfRX7) (con := fun k => qm_lk k pcRX7) (call := fun k => qm_lk k [(30, 0, 2, wX7_leastInAll)]) (tab := qm_tab aX7_closeThree) (plainFor_of_name (by decide)) (qm_fld_ok pfRX7_ok) (qm_con_ok pcRX7_ok) (fun idx kd n f hc => cX7_closeThree_ok (idx, kd, n, f) (qm_lk_mem hc)) (qm_tab_ok aX7_closeThree_ok) (fun vs h o hw => by
  unfold wX7_closeThree at hw
  split at hw
  · obtain ⟨r, hr, rfl⟩ := Option.map_eq_some_iff.mp hw
    exact ⟨Nat.le_of_ble_eq_true rfl, rX7_closeThree_0 (hr)⟩
  · cases hw)
theorem recvX7_closeThree : ∀ vs h o, wX7_closeThree vs h = some o → ∃ ci a rest, vs = qm_r 0 ci a :: rest ∧ qm_R ci = yX7_closeThree.cls := by
  intro vs h o hw
  unfold wX7_closeThree at hw
  split at hw
  · exact ⟨_, _, _, rfl, rfl⟩
  · cases hw
-- RX7 fewestClosed(LWillowLaw$Basket;II)I
theorem jX7_fewestClosed : Jvm.Cond.code yX7_fewestClosed cX7_fewestClosed 5 (some .int) ∈ qm_all := List.mem_filter.mpr ⟨by decide +kernel, rfl⟩
theorem iX7_fewestClosed : Jvm.Cond.instanceMethod yX7_fewestClosed ∈ qm_all ∧ Jvm.Cond.selects yX7_fewestClosed.cls yX7_fewestClosed yX7_fewestClosed ∈ qm_all := ⟨List.mem_filter.mpr ⟨by decide +kernel, rfl⟩, List.mem_filter.mpr ⟨by decide +kernel, rfl⟩⟩
def wX7_fewestClosed : qm_C := fun vs h => match vs with
  | [.inr (.inr (some (0, 7, p0))), .inr (.inr (some (0, 0, p1))), .inl p2, .inl p3] => (qX7_fewestClosed p0 p1 p2 p3 h).map qm_Gi
  | _ => none
def aX7_fewestClosed : List (Option (Instr × Nat)) := [some (.aload_n 0, 1), some (.aload_n 1, 1), some (.iload_n 2, 1), some (.iload_n 3, 1), some (.invokevirtual 22, 3), none, none, some (.aload_n 0, 1), some (.getfield 26, 3), none, none, some (.ifCond .ne 5, 3), none, none, some (.iconst 0, 1), some (.ireturn, 1), some (.aload_n 0, 1), some (.lconst 0, 1), some (.invokevirtual 30, 3), none, none, some (.istore 4, 2), none, some (.iload 4, 2), none, some (.iconst (-1), 1), some (.if_icmp .eq 13, 3), none, none, some (.aload_n 0, 1), some (.getfield 15, 3), none, none, some (.iconst 0, 1), some (.iload 4, 2), none, some (.iastore, 1), some (.iconst 1, 1), some (.ireturn, 1), some (.aload_n 0, 1), some (.invokevirtual 34, 3), none, none, some (.ifCond .eq 5, 3), none, none, some (.iconst 2, 1), some (.ireturn, 1), some (.aload_n 0, 1), some (.invokevirtual 38, 3), none, none, some (.ifCond .eq 7, 3), none, none, some (.iconst 3, 1), some (.goto 4, 3), none, none, some (.iconst (-1), 1), some (.ireturn, 1)]
theorem aX7_fewestClosed_ok : qm_tabok cX7_fewestClosed aX7_fewestClosed = true := by decide +kernel
def mX7_fewestClosed : qm_M := ((some .int), (fun k => qm_lk k pfRX7), (fun k => qm_lk k pcRX7), (fun k => qm_lk k [(22, 0, 4, wX7_findGaps), (30, 0, 2, wX7_leastInAll), (34, 0, 1, wX7_closeTwo), (38, 0, 1, wX7_closeThree)]), qm_tab aX7_fewestClosed)
set_option maxRecDepth 20000 in
set_option maxHeartbeats 2000000 in
theorem rX7_fewestClosed_0   {a0 : Nat} {a1 : Nat} {x2 : Int32} {x3 : Int32} {h : qm_H} {r : Int32 × qm_H} (ho : qX7_fewestClosed  a0 a1 x2 x3 h = some r) : qm_Ret mX7_fewestClosed (0, [some (qm_r 0 7 a0), some (qm_r 0 0 a1), some (qm_i x2), some (qm_i x3), none], [], h) (qm_Gi r) := by
  unfold qX7_fewestClosed at ho
  refine qm_Ret.sts 4 (f' := (4, [some (qm_r 0 7 a0), some (qm_r 0 0 a1), some (qm_i x2), some (qm_i x3), none], [qm_i x3, qm_i x2, qm_r 0 0 a1, qm_r 0 7 a0], h)) rfl ?_
  obtain ⟨h1, hr, ho⟩ := qm_bd ho
  refine qm_Ret.call (X := wX7_findGaps [qm_r 0 7 a0, qm_r 0 0 a1, qm_i x2, qm_i x3] h) (o1 := (none, h1)) (qm_mp (G := qm_Gv) hr) rfl ?_
  show qm_Ret _ (7, [some (qm_r 0 7 a0), some (qm_r 0 0 a1), some (qm_i x2), some (qm_i x3), none], [], h1) _
  refine qm_Ret.sts 2 (f' := (11, [some (qm_r 0 7 a0), some (qm_r 0 0 a1), some (qm_i x2), some (qm_i x3), none], [qm_i (h1.1 a0 3)], h1)) rfl ?_
  refine qm_Ret.ne (t := 16) (e := 14) rfl (fun hc => ?_) (fun hc => ?_)
  · rw [if_pos hc] at ho
    cases ho
    exact qm_Ret.ret 2 rfl
  · rw [if_neg hc] at ho
    refine qm_Ret.sts 2 (f' := (18, [some (qm_r 0 7 a0), some (qm_r 0 0 a1), some (qm_i x2), some (qm_i x3), none], [qm_l (0 : Int64), qm_r 0 7 a0], h1)) rfl ?_
    obtain ⟨r3, h2, hr, ho⟩ := qm_b2e ho
    refine qm_Ret.call (X := wX7_leastInAll [qm_r 0 7 a0, qm_l (0 : Int64)] h1) (o1 := (some (qm_i r3), h2)) (qm_mp (G := qm_Gi) hr) rfl ?_
    show qm_Ret _ (21, [some (qm_r 0 7 a0), some (qm_r 0 0 a1), some (qm_i x2), some (qm_i x3), none], [qm_i r3], h2) _
    refine qm_Ret.sts 3 (f' := (26, [some (qm_r 0 7 a0), some (qm_r 0 0 a1), some (qm_i x2), some (qm_i x3), some (qm_i r3)], [qm_i (-1 : Int32), qm_i r3], h2)) rfl ?_
    refine qm_Ret.eq (t := 39) (e := 29) rfl (fun hc => ?_) (fun hc => ?_)
    · rw [if_pos hc] at ho
      refine qm_Ret.sts 1 (f' := (40, [some (qm_r 0 7 a0), some (qm_r 0 0 a1), some (qm_i x2), some (qm_i x3), some (qm_i r3)], [qm_r 0 7 a0], h2)) rfl ?_
      obtain ⟨r5, h4, hr, ho⟩ := qm_b2e ho
      refine qm_Ret.call (X := wX7_closeTwo [qm_r 0 7 a0] h2) (o1 := (some (qm_i r5), h4)) (qm_mp (G := qm_Gi) hr) rfl ?_
      show qm_Ret _ (43, [some (qm_r 0 7 a0), some (qm_r 0 0 a1), some (qm_i x2), some (qm_i x3), some (qm_i r3)], [qm_i r5], h4) _
      refine qm_Ret.eq (t := 48) (e := 46) rfl (fun hc => ?_) (fun hc => ?_)
      · rw [if_pos hc] at ho
        refine qm_Ret.sts 1 (f' := (49, [some (qm_r 0 7 a0), some (qm_r 0 0 a1), some (qm_i x2), some (qm_i x3), some (qm_i r3)], [qm_r 0 7 a0], h4)) rfl ?_
        obtain ⟨r7, h6, hr, ho⟩ := qm_b2e ho
        refine qm_Ret.call (X := wX7_closeThree [qm_r 0 7 a0] h4) (o1 := (some (qm_i r7), h6)) (qm_mp (G := qm_Gi) hr) rfl ?_
        show qm_Ret _ (52, [some (qm_r 0 7 a0), some (qm_r 0 0 a1), some (qm_i x2), some (qm_i x3), some (qm_i r3)], [qm_i r7], h6) _
        refine qm_Ret.eq (t := 59) (e := 55) rfl (fun hc => ?_) (fun hc => ?_)
        · rw [if_pos hc] at ho
          cases ho
          exact qm_Ret.ret 2 rfl
        · rw [if_neg hc] at ho
          cases ho
          exact qm_Ret.ret 3 rfl
      · rw [if_neg hc] at ho
        cases ho
        exact qm_Ret.ret 2 rfl
    · rw [if_neg hc] at ho
      refine qm_Ret.sts 5 (f' := (37, [some (qm_r 0 7 a0), some (qm_r 0 0 a1), some (qm_i x2), some (qm_i x3), some (qm_i r3)], [], (qm_seti h2 (a0 + 2) (0 : Int32).toNatClampNeg r3))) rfl ?_
      refine qm_Ret.lets (F := fun h8 => (37, [some (qm_r 0 7 a0), some (qm_r 0 0 a1), some (qm_i x2), some (qm_i x3), some (qm_i r3)], [], h8)) (G := qm_Gi) ho (fun h8 ho => ?_)
      cases ho
      exact qm_Ret.ret 2 rfl
theorem cX7_fewestClosed_ok : ∀ q ∈ ([(22, 0, 4, wX7_findGaps), (30, 0, 2, wX7_leastInAll), (34, 0, 1, wX7_closeTwo), (38, 0, 1, wX7_closeThree)] : List (Nat × Nat × Nat × qm_C)), qm_CallOK RX7 4 91 q.2.1 q.1 q.2.2.1 q.2.2.2 := List.forall_mem_cons.mpr ⟨Or.inl ⟨yX7_findGaps, cX7_findGaps, 8, none, 1, 28, _, sX7_findGaps, ⟨by decide, by decide⟩, ⟨jX7_findGaps, kRX7_22, uRX7⟩, ⟨by decide, by decide, rfl⟩, Or.inl ⟨rfl, rfl, iX7_findGaps, recvX7_findGaps⟩⟩, List.forall_mem_cons.mpr ⟨Or.inl ⟨yX7_leastInAll, cX7_leastInAll, 6, (some .int), 2, 43, _, sX7_leastInAll, ⟨by decide, by decide⟩, ⟨jX7_leastInAll, kRX7_30, uRX7⟩, ⟨by decide, by decide, rfl⟩, Or.inl ⟨rfl, rfl, iX7_leastInAll, recvX7_leastInAll⟩⟩, List.forall_mem_cons.mpr ⟨Or.inl ⟨yX7_closeTwo, cX7_closeTwo, 3, (some .boolean), 3, 68, _, sX7_closeTwo, ⟨by decide, by decide⟩, ⟨jX7_closeTwo, kRX7_34, uRX7⟩, ⟨by decide, by decide, rfl⟩, Or.inl ⟨rfl, rfl, iX7_closeTwo, recvX7_closeTwo⟩⟩, List.forall_mem_cons.mpr ⟨Or.inl ⟨yX7_closeThree, cX7_closeThree, 4, (some .boolean), 3, 68, _, sX7_closeThree, ⟨by decide, by decide⟩, ⟨jX7_closeThree, kRX7_38, uRX7⟩, ⟨by decide, by decide, rfl⟩, Or.inl ⟨rfl, rfl, iX7_closeThree, recvX7_closeThree⟩⟩, fun _ h => absurd h List.not_mem_nil⟩⟩⟩⟩
theorem sX7_fewestClosed : qm_Snd yX7_fewestClosed cX7_fewestClosed 5 (some .int) 4 91 wX7_fewestClosed := qm_met (fld := fun k => qm_lk k pfRX7) (con := fun k => qm_lk k pcRX7) (call := fun k => qm_lk k [(22, 0, 4, wX7_findGaps), (30, 0, 2, wX7_leastInAll), (34, 0, 1, wX7_closeTwo), (38, 0, 1, wX7_closeThree)]) (tab := qm_tab aX7_fewestClosed) (plainFor_of_name (by decide)) (qm_fld_ok pfRX7_ok) (qm_con_ok pcRX7_ok) (fun idx kd n f hc => cX7_fewestClosed_ok (idx, kd, n, f) (qm_lk_mem hc)) (qm_tab_ok aX7_fewestClosed_ok) (fun vs h o hw => by
  unfold wX7_fewestClosed at hw
  split at hw
  · obtain ⟨r, hr, rfl⟩ := Option.map_eq_some_iff.mp hw
    exact ⟨Nat.le_of_ble_eq_true rfl, rX7_fewestClosed_0 (hr)⟩
  · cases hw)
theorem recvX7_fewestClosed : ∀ vs h o, wX7_fewestClosed vs h = some o → ∃ ci a rest, vs = qm_r 0 ci a :: rest ∧ qm_R ci = yX7_fewestClosed.cls := by
  intro vs h o hw
  unfold wX7_fewestClosed at hw
  split at hw
  · exact ⟨_, _, _, rfl, rfl⟩
  · cases hw
-- RX7 forceOf(I)I
theorem jX7_forceOf : Jvm.Cond.code yX7_forceOf cX7_forceOf 1 (some .int) ∈ qm_all := List.mem_filter.mpr ⟨by decide +kernel, rfl⟩
theorem iX7_forceOf : Jvm.Cond.static yX7_forceOf ∈ qm_all := List.mem_filter.mpr ⟨by decide +kernel, rfl⟩
def wX7_forceOf : qm_C := fun vs h => match vs with
  | [.inl p0] => (qX7_forceOf p0 h).map qm_Gi
  | _ => none
def aX7_forceOf : List (Option (Instr × Nat)) := [some (.iload_n 0, 1), some (.sipush 128, 3), none, none, some (.idiv, 1), some (.ireturn, 1)]
theorem aX7_forceOf_ok : qm_tabok cX7_forceOf aX7_forceOf = true := by decide +kernel
def mX7_forceOf : qm_M := ((some .int), (fun k => qm_lk k pfRX7), (fun k => qm_lk k pcRX7), (fun k => qm_lk k []), qm_tab aX7_forceOf)
set_option maxRecDepth 20000 in
set_option maxHeartbeats 2000000 in
theorem rX7_forceOf_0   {x0 : Int32} {h : qm_H} {r : Int32 × qm_H} (ho : qX7_forceOf  x0 h = some r) : qm_Ret mX7_forceOf (0, [some (qm_i x0)], [], h) (qm_Gi r) := by
  unfold qX7_forceOf at ho
  cases ho
  exact qm_Ret.ret 4 rfl
theorem cX7_forceOf_ok : ∀ q ∈ ([] : List (Nat × Nat × Nat × qm_C)), qm_CallOK RX7 0 0 q.2.1 q.1 q.2.2.1 q.2.2.2 := fun _ h => absurd h List.not_mem_nil
theorem sX7_forceOf : qm_Snd yX7_forceOf cX7_forceOf 1 (some .int) 0 0 wX7_forceOf := qm_met (fld := fun k => qm_lk k pfRX7) (con := fun k => qm_lk k pcRX7) (call := fun k => qm_lk k []) (tab := qm_tab aX7_forceOf) (plainFor_of_name (by decide)) (qm_fld_ok pfRX7_ok) (qm_con_ok pcRX7_ok) (fun idx kd n f hc => cX7_forceOf_ok (idx, kd, n, f) (qm_lk_mem hc)) (qm_tab_ok aX7_forceOf_ok) (fun vs h o hw => by
  unfold wX7_forceOf at hw
  split at hw
  · obtain ⟨r, hr, rfl⟩ := Option.map_eq_some_iff.mp hw
    exact ⟨Nat.le_of_ble_eq_true rfl, rX7_forceOf_0 (hr)⟩
  · cases hw)
-- RX7 stepsOf(I)I
theorem jX7_stepsOf : Jvm.Cond.code yX7_stepsOf cX7_stepsOf 1 (some .int) ∈ qm_all := List.mem_filter.mpr ⟨by decide +kernel, rfl⟩
theorem iX7_stepsOf : Jvm.Cond.static yX7_stepsOf ∈ qm_all := List.mem_filter.mpr ⟨by decide +kernel, rfl⟩
def wX7_stepsOf : qm_C := fun vs h => match vs with
  | [.inl p0] => (qX7_stepsOf p0 h).map qm_Gi
  | _ => none
def aX7_stepsOf : List (Option (Instr × Nat)) := [some (.iload_n 0, 1), some (.sipush 128, 3), none, none, some (.irem, 1), some (.ireturn, 1)]
theorem aX7_stepsOf_ok : qm_tabok cX7_stepsOf aX7_stepsOf = true := by decide +kernel
def mX7_stepsOf : qm_M := ((some .int), (fun k => qm_lk k pfRX7), (fun k => qm_lk k pcRX7), (fun k => qm_lk k []), qm_tab aX7_stepsOf)
set_option maxRecDepth 20000 in
set_option maxHeartbeats 2000000 in
theorem rX7_stepsOf_0   {x0 : Int32} {h : qm_H} {r : Int32 × qm_H} (ho : qX7_stepsOf  x0 h = some r) : qm_Ret mX7_stepsOf (0, [some (qm_i x0)], [], h) (qm_Gi r) := by
  unfold qX7_stepsOf at ho
  cases ho
  exact qm_Ret.ret 4 rfl
theorem cX7_stepsOf_ok : ∀ q ∈ ([] : List (Nat × Nat × Nat × qm_C)), qm_CallOK RX7 0 0 q.2.1 q.1 q.2.2.1 q.2.2.2 := fun _ h => absurd h List.not_mem_nil
theorem sX7_stepsOf : qm_Snd yX7_stepsOf cX7_stepsOf 1 (some .int) 0 0 wX7_stepsOf := qm_met (fld := fun k => qm_lk k pfRX7) (con := fun k => qm_lk k pcRX7) (call := fun k => qm_lk k []) (tab := qm_tab aX7_stepsOf) (plainFor_of_name (by decide)) (qm_fld_ok pfRX7_ok) (qm_con_ok pcRX7_ok) (fun idx kd n f hc => cX7_stepsOf_ok (idx, kd, n, f) (qm_lk_mem hc)) (qm_tab_ok aX7_stepsOf_ok) (fun vs h o hw => by
  unfold wX7_stepsOf at hw
  split at hw
  · obtain ⟨r, hr, rfl⟩ := Option.map_eq_some_iff.mp hw
    exact ⟨Nat.le_of_ble_eq_true rfl, rX7_stepsOf_0 (hr)⟩
  · cases hw)
-- RX7 costOf(LWillowLaw$Basket;I)I
theorem jX7_costOf : Jvm.Cond.code yX7_costOf cX7_costOf 2 (some .int) ∈ qm_all := List.mem_filter.mpr ⟨by decide +kernel, rfl⟩
theorem iX7_costOf : Jvm.Cond.static yX7_costOf ∈ qm_all := List.mem_filter.mpr ⟨by decide +kernel, rfl⟩
def wX7_costOf : qm_C := fun vs h => match vs with
  | [.inr (.inr (some (0, 0, p0))), .inl p1] => (qX7_costOf p0 p1 h).map qm_Gi
  | _ => none
def aX7_costOf : List (Option (Instr × Nat)) := [some (.aload_n 0, 1), some (.iload_n 1, 1), some (.invokevirtual 64, 3), none, none, some (.sipush 128, 3), none, none, some (.imul, 1), some (.iconst 1, 1), some (.iadd, 1), some (.ireturn, 1)]
theorem aX7_costOf_ok : qm_tabok cX7_costOf aX7_costOf = true := by decide +kernel
def mX7_costOf : qm_M := ((some .int), (fun k => qm_lk k pfRX7), (fun k => qm_lk k pcRX7), (fun k => qm_lk k [(64, 0, 2, wX0_strengthOf)]), qm_tab aX7_costOf)
set_option maxRecDepth 20000 in
set_option maxHeartbeats 2000000 in
theorem rX7_costOf_0   {a0 : Nat} {x1 : Int32} {h : qm_H} {r : Int32 × qm_H} (ho : qX7_costOf  a0 x1 h = some r) : qm_Ret mX7_costOf (0, [some (qm_r 0 0 a0), some (qm_i x1)], [], h) (qm_Gi r) := by
  unfold qX7_costOf at ho
  refine qm_Ret.sts 2 (f' := (2, [some (qm_r 0 0 a0), some (qm_i x1)], [qm_i x1, qm_r 0 0 a0], h)) rfl ?_
  obtain ⟨r2, h1, hr, ho⟩ := qm_b2e ho
  refine qm_Ret.call (X := wX0_strengthOf [qm_r 0 0 a0, qm_i x1] h) (o1 := (some (qm_i r2), h1)) (qm_mp (G := qm_Gi) hr) rfl ?_
  show qm_Ret _ (5, [some (qm_r 0 0 a0), some (qm_i x1)], [qm_i r2], h1) _
  cases ho
  exact qm_Ret.ret 5 rfl
theorem cX7_costOf_ok : ∀ q ∈ ([(64, 0, 2, wX0_strengthOf)] : List (Nat × Nat × Nat × qm_C)), qm_CallOK RX7 3 67 q.2.1 q.1 q.2.2.1 q.2.2.2 := List.forall_mem_cons.mpr ⟨Or.inl ⟨yX0_strengthOf, cX0_strengthOf, 2, (some .int), 2, 46, _, sX0_strengthOf, ⟨by decide, by decide⟩, ⟨jX0_strengthOf, kRX7_64, uRX0⟩, ⟨by decide, by decide, rfl⟩, Or.inl ⟨rfl, rfl, iX0_strengthOf, recvX0_strengthOf⟩⟩, fun _ h => absurd h List.not_mem_nil⟩
theorem sX7_costOf : qm_Snd yX7_costOf cX7_costOf 2 (some .int) 3 67 wX7_costOf := qm_met (fld := fun k => qm_lk k pfRX7) (con := fun k => qm_lk k pcRX7) (call := fun k => qm_lk k [(64, 0, 2, wX0_strengthOf)]) (tab := qm_tab aX7_costOf) (plainFor_of_name (by decide)) (qm_fld_ok pfRX7_ok) (qm_con_ok pcRX7_ok) (fun idx kd n f hc => cX7_costOf_ok (idx, kd, n, f) (qm_lk_mem hc)) (qm_tab_ok aX7_costOf_ok) (fun vs h o hw => by
  unfold wX7_costOf at hw
  split at hw
  · obtain ⟨r, hr, rfl⟩ := Option.map_eq_some_iff.mp hw
    exact ⟨Nat.le_of_ble_eq_true rfl, rX7_costOf_0 (hr)⟩
  · cases hw)
-- RX7 keyAt(I)I
theorem jX7_keyAt : Jvm.Cond.code yX7_keyAt cX7_keyAt 2 (some .int) ∈ qm_all := List.mem_filter.mpr ⟨by decide +kernel, rfl⟩
theorem iX7_keyAt : Jvm.Cond.instanceMethod yX7_keyAt ∈ qm_all ∧ Jvm.Cond.selects yX7_keyAt.cls yX7_keyAt yX7_keyAt ∈ qm_all := ⟨List.mem_filter.mpr ⟨by decide +kernel, rfl⟩, List.mem_filter.mpr ⟨by decide +kernel, rfl⟩⟩
def wX7_keyAt : qm_C := fun vs h => match vs with
  | [.inr (.inr (some (0, 7, p0))), .inl p1] => (qX7_keyAt p0 p1 h).map qm_Gi
  | _ => none
def aX7_keyAt : List (Option (Instr × Nat)) := [some (.iload_n 1, 1), some (.ifCond .lt 18, 3), none, none, some (.iload_n 1, 1), some (.bipush 64, 2), none, some (.if_icmp .ge 12, 3), none, none, some (.aload_n 0, 1), some (.getfield 19, 3), none, none, some (.iload_n 1, 1), some (.iaload, 1), some (.goto 4, 3), none, none, some (.iconst 0, 1), some (.ireturn, 1)]
theorem aX7_keyAt_ok : qm_tabok cX7_keyAt aX7_keyAt = true := by decide +kernel
def mX7_keyAt : qm_M := ((some .int), (fun k => qm_lk k pfRX7), (fun k => qm_lk k pcRX7), (fun k => qm_lk k []), qm_tab aX7_keyAt)
set_option maxRecDepth 20000 in
set_option maxHeartbeats 2000000 in
theorem rX7_keyAt_0   {a0 : Nat} {x1 : Int32} {h : qm_H} {r : Int32 × qm_H} (ho : qX7_keyAt  a0 x1 h = some r) : qm_Ret mX7_keyAt (0, [some (qm_r 0 7 a0), some (qm_i x1)], [], h) (qm_Gi r) := by
  unfold qX7_keyAt at ho
  refine qm_Ret.sts 1 (f' := (1, [some (qm_r 0 7 a0), some (qm_i x1)], [qm_i x1], h)) rfl ?_
  refine qm_Ret.lt (t := 19) (e := 4) rfl (fun hc => ?_) (fun hc => ?_)
  · rw [if_pos hc] at ho
    cases ho
    exact qm_Ret.ret 2 rfl
  · rw [if_neg hc] at ho
    refine qm_Ret.sts 2 (f' := (7, [some (qm_r 0 7 a0), some (qm_i x1)], [qm_i (64 : Int32), qm_i x1], h)) rfl ?_
    refine qm_Ret.ge (t := 19) (e := 10) rfl (fun hc => ?_) (fun hc => ?_)
    · rw [if_pos hc] at ho
      refine qm_Ret.sts 3 (f' := (15, [some (qm_r 0 7 a0), some (qm_i x1)], [qm_i x1, qm_r 1 64 (a0 + 3)], h)) rfl ?_
      obtain ⟨hg, ho⟩ := qm_ifn ho
      refine qm_Ret.gn (f1 := (16, [some (qm_r 0 7 a0), some (qm_i x1)], [qm_i (h.1 (a0 + 3) (x1).toNatClampNeg)], h)) hg rfl ?_
      cases ho
      exact qm_Ret.ret 2 rfl
    · rw [if_neg hc] at ho
      cases ho
      exact qm_Ret.ret 2 rfl
theorem cX7_keyAt_ok : ∀ q ∈ ([] : List (Nat × Nat × Nat × qm_C)), qm_CallOK RX7 0 0 q.2.1 q.1 q.2.2.1 q.2.2.2 := fun _ h => absurd h List.not_mem_nil
theorem sX7_keyAt : qm_Snd yX7_keyAt cX7_keyAt 2 (some .int) 0 0 wX7_keyAt := qm_met (fld := fun k => qm_lk k pfRX7) (con := fun k => qm_lk k pcRX7) (call := fun k => qm_lk k []) (tab := qm_tab aX7_keyAt) (plainFor_of_name (by decide)) (qm_fld_ok pfRX7_ok) (qm_con_ok pcRX7_ok) (fun idx kd n f hc => cX7_keyAt_ok (idx, kd, n, f) (qm_lk_mem hc)) (qm_tab_ok aX7_keyAt_ok) (fun vs h o hw => by
  unfold wX7_keyAt at hw
  split at hw
  · obtain ⟨r, hr, rfl⟩ := Option.map_eq_some_iff.mp hw
    exact ⟨Nat.le_of_ble_eq_true rfl, rX7_keyAt_0 (hr)⟩
  · cases hw)
theorem recvX7_keyAt : ∀ vs h o, wX7_keyAt vs h = some o → ∃ ci a rest, vs = qm_r 0 ci a :: rest ∧ qm_R ci = yX7_keyAt.cls := by
  intro vs h o hw
  unfold wX7_keyAt at hw
  split at hw
  · exact ⟨_, _, _, rfl, rfl⟩
  · cases hw
