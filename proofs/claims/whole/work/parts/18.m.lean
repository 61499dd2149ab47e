-- RX5 gapAt(LWillowLaw$Clues;I)I
theorem jX5_gapAt : Jvm.Cond.code yX5_gapAt cX5_gapAt 3 (some .int) ∈ qm_all := List.mem_filter.mpr ⟨by decide +kernel, rfl⟩
theorem iX5_gapAt : Jvm.Cond.instanceMethod yX5_gapAt ∈ qm_all ∧ Jvm.Cond.selects yX5_gapAt.cls yX5_gapAt yX5_gapAt ∈ qm_all := ⟨List.mem_filter.mpr ⟨by decide +kernel, rfl⟩, List.mem_filter.mpr ⟨by decide +kernel, rfl⟩⟩
def wX5_gapAt : qm_C := fun vs h => match vs with
  | [.inr (.inr (some (0, 5, p0))), .inr (.inr (some (0, 1, p1))), .inl p2] => (qX5_gapAt p0 p1 p2 h).map qm_Gi
  | _ => none
def aX5_gapAt : List (Option (Instr × Nat)) := [some (.aload_n 0, 1), some (.aload_n 1, 1), some (.iload_n 2, 1), some (.iconst 0, 1), some (.invokevirtual 15, 3), none, none, some (.aload_n 0, 1), some (.getfield 23, 3), none, none, some (.iconst (-1), 1), some (.if_icmp .ne 8, 3), none, none, some (.bipush (-2), 2), none, some (.goto 7, 3), none, none, some (.aload_n 0, 1), some (.getfield 23, 3), none, none, some (.ireturn, 1)]
theorem aX5_gapAt_ok : qm_tabok cX5_gapAt aX5_gapAt = true := by decide +kernel
def mX5_gapAt : qm_M := ((some .int), (fun k => qm_lk k pfRX5), (fun k => qm_lk k pcRX5), (fun k => qm_lk k [(15, 0, 4, wX5_look)]), qm_tab aX5_gapAt)
set_option maxRecDepth 20000 in
set_option maxHeartbeats 2000000 in
theorem rX5_gapAt_0   {a0 : Nat} {a1 : Nat} {x2 : Int32} {h : qm_H} {r : Int32 × qm_H} (ho : qX5_gapAt  a0 a1 x2 h = some r) : qm_Ret mX5_gapAt (0, [some (qm_r 0 5 a0), some (qm_r 0 1 a1), some (qm_i x2)], [], h) (qm_Gi r) := by
  unfold qX5_gapAt at ho
  refine qm_Ret.sts 4 (f' := (4, [some (qm_r 0 5 a0), some (qm_r 0 1 a1), some (qm_i x2)], [qm_i (0 : Int32), qm_i x2, qm_r 0 1 a1, qm_r 0 5 a0], h)) rfl ?_
  obtain ⟨h1, hr, ho⟩ := qm_bd ho
  refine qm_Ret.call (X := wX5_look [qm_r 0 5 a0, qm_r 0 1 a1, qm_i x2, qm_i (0 : Int32)] h) (o1 := (none, h1)) (qm_mp (G := qm_Gv) hr) rfl ?_
  show qm_Ret _ (7, [some (qm_r 0 5 a0), some (qm_r 0 1 a1), some (qm_i x2)], [], h1) _
  refine qm_Ret.sts 3 (f' := (12, [some (qm_r 0 5 a0), some (qm_r 0 1 a1), some (qm_i x2)], [qm_i (-1 : Int32), qm_i (h1.1 a0 3)], h1)) rfl ?_
  refine qm_Ret.ne (t := 20) (e := 15) rfl (fun hc => ?_) (fun hc => ?_)
  · rw [if_pos hc] at ho
    cases ho
    exact qm_Ret.ret 3 rfl
  · rw [if_neg hc] at ho
    cases ho
    exact qm_Ret.ret 3 rfl
theorem cX5_gapAt_ok : ∀ q ∈ ([(15, 0, 4, wX5_look)] : List (Nat × Nat × Nat × qm_C)), qm_CallOK RX5 4 102 q.2.1 q.1 q.2.2.1 q.2.2.2 := List.forall_mem_cons.mpr ⟨Or.inl ⟨yX5_look, cX5_look, 6, none, 3, 77, _, sX5_look, ⟨by decide, by decide⟩, ⟨jX5_look, kRX5_15, uRX5⟩, ⟨by decide, by decide, rfl⟩, Or.inl ⟨rfl, rfl, iX5_look, recvX5_look⟩⟩, fun _ h => absurd h List.not_mem_nil⟩
theorem sX5_gapAt : qm_Snd yX5_gapAt cX5_gapAt 3 (some .int) 4 102 wX5_gapAt := qm_met (fld := fun k => qm_lk k pfRX5) (con := fun k => qm_lk k pcRX5) (call := fun k => qm_lk k [(15, 0, 4, wX5_look)]) (tab := qm_tab aX5_gapAt) (plainFor_of_name (by decide)) (qm_fld_ok pfRX5_ok) (qm_con_ok pcRX5_ok) (fun idx kd n f hc => cX5_gapAt_ok (idx, kd, n, f) (qm_lk_mem hc)) (qm_tab_ok aX5_gapAt_ok) (fun vs h o hw => by
  unfold wX5_gapAt at hw
  split at hw
  · obtain ⟨r, hr, rfl⟩ := Option.map_eq_some_iff.mp hw
    exact ⟨Nat.le_of_ble_eq_true rfl, rX5_gapAt_0 (hr)⟩
  · cases hw)
theorem recvX5_gapAt : ∀ vs h o, wX5_gapAt vs h = some o → ∃ ci a rest, vs = qm_r 0 ci a :: rest ∧ qm_R ci = yX5_gapAt.cls := by
  intro vs h o hw
  unfold wX5_gapAt at hw
  split at hw
  · exact ⟨_, _, _, rfl, rfl⟩
  · cases hw
-- RX5 sureOf(LWillowLaw$Clues;I)I
theorem jX5_sureOf : Jvm.Cond.code yX5_sureOf cX5_sureOf 3 (some .int) ∈ qm_all := List.mem_filter.mpr ⟨by decide +kernel, rfl⟩
theorem iX5_sureOf : Jvm.Cond.instanceMethod yX5_sureOf ∈ qm_all ∧ Jvm.Cond.selects yX5_sureOf.cls yX5_sureOf yX5_sureOf ∈ qm_all := ⟨List.mem_filter.mpr ⟨by decide +kernel, rfl⟩, List.mem_filter.mpr ⟨by decide +kernel, rfl⟩⟩
def wX5_sureOf : qm_C := fun vs h => match vs with
  | [.inr (.inr (some (0, 5, p0))), .inr (.inr (some (0, 1, p1))), .inl p2] => (qX5_sureOf p0 p1 p2 h).map qm_Gi
  | _ => none
def aX5_sureOf : List (Option (Instr × Nat)) := [some (.aload_n 0, 1), some (.aload_n 1, 1), some (.iconst (-1), 1), some (.iconst 1, 1), some (.invokevirtual 15, 3), none, none, some (.aload_n 0, 1), some (.getfield 19, 3), none, none, some (.ifCond .eq 13, 3), none, none, some (.iload_n 2, 1), some (.ifCond .lt 9, 3), none, none, some (.iload_n 2, 1), some (.bipush 64, 2), none, some (.if_icmp .lt 5, 3), none, none, some (.iconst (-1), 1), some (.ireturn, 1), some (.aload_n 0, 1), some (.getfield 9, 3), none, none, some (.iload_n 2, 1), some (.iaload, 1), some (.aload_n 0, 1), some (.getfield 19, 3), none, none, some (.if_icmp .ne 5, 3), none, none, some (.iconst 1, 1), some (.ireturn, 1), some (.aload_n 0, 1), some (.getfield 9, 3), none, none, some (.iload_n 2, 1), some (.iaload, 1), some (.ifCond .ne 7, 3), none, none, some (.iconst 0, 1), some (.goto 4, 3), none, none, some (.iconst (-1), 1), some (.ireturn, 1)]
theorem aX5_sureOf_ok : qm_tabok cX5_sureOf aX5_sureOf = true := by decide +kernel
def mX5_sureOf : qm_M := ((some .int), (fun k => qm_lk k pfRX5), (fun k => qm_lk k pcRX5), (fun k => qm_lk k [(15, 0, 4, wX5_look)]), qm_tab aX5_sureOf)
set_option maxRecDepth 20000 in
set_option maxHeartbeats 2000000 in
theorem rX5_sureOf_0   {a0 : Nat} {a1 : Nat} {x2 : Int32} {h : qm_H} {r : Int32 × qm_H} (ho : qX5_sureOf  a0 a1 x2 h = some r) : qm_Ret mX5_sureOf (0, [some (qm_r 0 5 a0), some (qm_r 0 1 a1), some (qm_i x2)], [], h) (qm_Gi r) := by
  unfold qX5_sureOf at ho
  refine qm_Ret.sts 4 (f' := (4, [some (qm_r 0 5 a0), some (qm_r 0 1 a1), some (qm_i x2)], [qm_i (1 : Int32), qm_i (-1 : Int32), qm_r 0 1 a1, qm_r 0 5 a0], h)) rfl ?_
  obtain ⟨h1, hr, ho⟩ := qm_bd ho
  refine qm_Ret.call (X := wX5_look [qm_r 0 5 a0, qm_r 0 1 a1, qm_i (-1 : Int32), qm_i (1 : Int32)] h) (o1 := (none, h1)) (qm_mp (G := qm_Gv) hr) rfl ?_
  show qm_Ret _ (7, [some (qm_r 0 5 a0), some (qm_r 0 1 a1), some (qm_i x2)], [], h1) _
  refine qm_Ret.sts 2 (f' := (11, [some (qm_r 0 5 a0), some (qm_r 0 1 a1), some (qm_i x2)], [qm_i (h1.1 a0 1)], h1)) rfl ?_
  refine qm_Ret.eq (t := 24) (e := 14) rfl (fun hc => ?_) (fun hc => ?_)
  · rw [if_pos hc] at ho
    cases ho
    exact qm_Ret.ret 2 rfl
  · rw [if_neg hc] at ho
    refine qm_Ret.sts 1 (f' := (15, [some (qm_r 0 5 a0), some (qm_r 0 1 a1), some (qm_i x2)], [qm_i x2], h1)) rfl ?_
    refine qm_Ret.lt (t := 24) (e := 18) rfl (fun hc => ?_) (fun hc => ?_)
    · rw [if_pos hc] at ho
      cases ho
      exact qm_Ret.ret 2 rfl
    · rw [if_neg hc] at ho
      refine qm_Ret.sts 2 (f' := (21, [some (qm_r 0 5 a0), some (qm_r 0 1 a1), some (qm_i x2)], [qm_i (64 : Int32), qm_i x2], h1)) rfl ?_
      refine qm_Ret.lt (t := 26) (e := 24) rfl (fun hc => ?_) (fun hc => ?_)
      · rw [if_pos hc] at ho
        refine qm_Ret.sts 3 (f' := (31, [some (qm_r 0 5 a0), some (qm_r 0 1 a1), some (qm_i x2)], [qm_i x2, qm_r 1 64 (a0 + 1)], h1)) rfl ?_
        obtain ⟨hg, ho⟩ := qm_ifn ho
        refine qm_Ret.gn (f1 := (32, [some (qm_r 0 5 a0), some (qm_r 0 1 a1), some (qm_i x2)], [qm_i (h1.1 (a0 + 1) (x2).toNatClampNeg)], h1)) hg rfl ?_
        refine qm_Ret.sts 2 (f' := (36, [some (qm_r 0 5 a0), some (qm_r 0 1 a1), some (qm_i x2)], [qm_i (h1.1 a0 1), qm_i (h1.1 (a0 + 1) (x2).toNatClampNeg)], h1)) rfl ?_
        refine qm_Ret.ne (t := 41) (e := 39) rfl (fun hc => ?_) (fun hc => ?_)
        · rw [if_pos hc] at ho
          cases ho
          exact qm_Ret.ret 2 rfl
        · rw [if_neg hc] at ho
          refine qm_Ret.sts 3 (f' := (46, [some (qm_r 0 5 a0), some (qm_r 0 1 a1), some (qm_i x2)], [qm_i x2, qm_r 1 64 (a0 + 1)], h1)) rfl ?_
          obtain ⟨hg, ho⟩ := qm_ifn ho
          refine qm_Ret.gn (f1 := (47, [some (qm_r 0 5 a0), some (qm_r 0 1 a1), some (qm_i x2)], [qm_i (h1.1 (a0 + 1) (x2).toNatClampNeg)], h1)) hg rfl ?_
          refine qm_Ret.ne (t := 54) (e := 50) rfl (fun hc => ?_) (fun hc => ?_)
          · rw [if_pos hc] at ho
            cases ho
            exact qm_Ret.ret 3 rfl
          · rw [if_neg hc] at ho
            cases ho
            exact qm_Ret.ret 2 rfl
      · rw [if_neg hc] at ho
        cases ho
        exact qm_Ret.ret 2 rfl
theorem cX5_sureOf_ok : ∀ q ∈ ([(15, 0, 4, wX5_look)] : List (Nat × Nat × Nat × qm_C)), qm_CallOK RX5 4 102 q.2.1 q.1 q.2.2.1 q.2.2.2 := List.forall_mem_cons.mpr ⟨Or.inl ⟨yX5_look, cX5_look, 6, none, 3, 77, _, sX5_look, ⟨by decide, by decide⟩, ⟨jX5_look, kRX5_15, uRX5⟩, ⟨by decide, by decide, rfl⟩, Or.inl ⟨rfl, rfl, iX5_look, recvX5_look⟩⟩, fun _ h => absurd h List.not_mem_nil⟩
theorem sX5_sureOf : qm_Snd yX5_sureOf cX5_sureOf 3 (some .int) 4 102 wX5_sureOf := qm_met (fld := fun k => qm_lk k pfRX5) (con := fun k => qm_lk k pcRX5) (call := fun k => qm_lk k [(15, 0, 4, wX5_look)]) (tab := qm_tab aX5_sureOf) (plainFor_of_name (by decide)) (qm_fld_ok pfRX5_ok) (qm_con_ok pcRX5_ok) (fun idx kd n f hc => cX5_sureOf_ok (idx, kd, n, f) (qm_lk_mem hc)) (qm_tab_ok aX5_sureOf_ok) (fun vs h o hw => by
  unfold wX5_sureOf at hw
  split at hw
  · obtain ⟨r, hr, rfl⟩ := Option.map_eq_some_iff.mp hw
    exact ⟨Nat.le_of_ble_eq_true rfl, rX5_sureOf_0 (hr)⟩
  · cases hw)
theorem recvX5_sureOf : ∀ vs h o, wX5_sureOf vs h = some o → ∃ ci a rest, vs = qm_r 0 ci a :: rest ∧ qm_R ci = yX5_sureOf.cls := by
  intro vs h o hw
  unfold wX5_sureOf at hw
  split at hw
  · exact ⟨_, _, _, rfl, rfl⟩
  · cases hw
-- RX5 bestAsked(LWillowLaw$Clues;)I
theorem jX5_bestAsked : Jvm.Cond.code yX5_bestAsked cX5_bestAsked 7 (some .int) ∈ qm_all := List.mem_filter.mpr ⟨by decide +kernel, rfl⟩
theorem iX5_bestAsked : Jvm.Cond.instanceMethod yX5_bestAsked ∈ qm_all ∧ Jvm.Cond.selects yX5_bestAsked.cls yX5_bestAsked yX5_bestAsked ∈ qm_all := ⟨List.mem_filter.mpr ⟨by decide +kernel, rfl⟩, List.mem_filter.mpr ⟨by decide +kernel, rfl⟩⟩
def wX5_bestAsked : qm_C := fun vs h => match vs with
  | [.inr (.inr (some (0, 5, p0))), .inr (.inr (some (0, 1, p1)))] => (qX5_bestAsked p0 p1 h).map qm_Gi
  | _ => none
def aX5_bestAsked : List (Option (Instr × Nat)) := [some (.aload_n 0, 1), some (.aload_n 1, 1), some (.iconst (-1), 1), some (.iconst 1, 1), some (.invokevirtual 15, 3), none, none, some (.iconst (-1), 1), some (.istore_n 2, 1), some (.iconst 0, 1), some (.istore_n 3, 1), some (.aload_n 0, 1), some (.getfield 19, 3), none, none, some (.ifCond .ne 7, 3), none, none, some (.iconst 0, 1), some (.goto 12, 3), none, none, some (.aload_n 1, 1), some (.getfield 26, 3), none, none, some (.aload_n 1, 1), some (.getfield 31, 3), none, none, some (.imul, 1), some (.istore 4, 2), none, some (.iconst 0, 1), some (.istore 5, 2), none, some (.iload 5, 2), none, some (.iload 4, 2), none, some (.if_icmp .ge 57, 3), none, none, some (.iload 5, 2), none, some (.bipush 64, 2), none, some (.if_icmp .ge 50, 3), none, none, some (.aload_n 0, 1), some (.getfield 9, 3), none, none, some (.iload 5, 2), none, some (.iaload, 1), some (.aload_n 0, 1), some (.getfield 19, 3), none, none, some (.aload_n 0, 1), some (.getfield 9, 3), none, none, some (.iload 5, 2), none, some (.iaload, 1), some (.isub, 1), some (.invokestatic 34, 3), none, none, some (.istore 6, 2), none, some (.iload_n 2, 1), some (.iconst (-1), 1), some (.if_icmp .eq 9, 3), none, none, some (.iload 6, 2), none, some (.iload_n 3, 1), some (.if_icmp .ge 9, 3), none, none, some (.iload 5, 2), none, some (.istore_n 2, 1), some (.iload 6, 2), none, some (.istore_n 3, 1), some (.iinc 5 1, 3), none, none, some (.goto (-58), 3), none, none, some (.iload_n 2, 1), some (.ireturn, 1)]
theorem aX5_bestAsked_ok : qm_tabok cX5_bestAsked aX5_bestAsked = true := by decide +kernel
def mX5_bestAsked : qm_M := ((some .int), (fun k => qm_lk k pfRX5), (fun k => qm_lk k pcRX5), (fun k => qm_lk k [(34, 2, 2, wJ9_max_7cf53), (15, 0, 4, wX5_look)]), qm_tab aX5_bestAsked)
set_option maxRecDepth 20000 in
set_option maxHeartbeats 2000000 in
theorem rX5_bestAsked_36   : ∀ {fuel : Nat} {a0 : Nat} {x2 : Int32} {x3 : Int32} {x4 : Int32} {x5 : Int32} {ad1 : Nat} {d6 : Option qm_V} {h : qm_H} {r : Int32 × qm_H}, qX5_bestAsked_36  fuel a0 x2 x3 x4 x5 h = some r → qm_Ret mX5_bestAsked (36, [some (qm_r 0 5 a0), some (qm_r 0 1 ad1), some (qm_i x2), some (qm_i x3), some (qm_i x4), some (qm_i x5), d6], [], h) (qm_Gi r) := by
  intro fuel
  induction fuel with
  | zero => intros; rename_i ho; cases ho
  | succ n ih =>
    intro a0 x2 x3 x4 x5 ad1 d6 h r ho
    unfold qX5_bestAsked_36 at ho
    refine qm_Ret.sts 2 (f' := (40, [some (qm_r 0 5 a0), some (qm_r 0 1 ad1), some (qm_i x2), some (qm_i x3), some (qm_i x4), some (qm_i x5), d6], [qm_i x4, qm_i x5], h)) rfl ?_
    refine qm_Ret.ge (t := 97) (e := 43) rfl (fun hc => ?_) (fun hc => ?_)
    · rw [if_pos hc] at ho
      refine qm_Ret.sts 2 (f' := (47, [some (qm_r 0 5 a0), some (qm_r 0 1 ad1), some (qm_i x2), some (qm_i x3), some (qm_i x4), some (qm_i x5), d6], [qm_i (64 : Int32), qm_i x5], h)) rfl ?_
      refine qm_Ret.ge (t := 97) (e := 50) rfl (fun hc => ?_) (fun hc => ?_)
      · rw [if_pos hc] at ho
        refine qm_Ret.sts 3 (f' := (56, [some (qm_r 0 5 a0), some (qm_r 0 1 ad1), some (qm_i x2), some (qm_i x3), some (qm_i x4), some (qm_i x5), d6], [qm_i x5, qm_r 1 64 (a0 + 1)], h)) rfl ?_
        obtain ⟨hg, ho⟩ := qm_ifn ho
        refine qm_Ret.gn (f1 := (57, [some (qm_r 0 5 a0), some (qm_r 0 1 ad1), some (qm_i x2), some (qm_i x3), some (qm_i x4), some (qm_i x5), d6], [qm_i (h.1 (a0 + 1) (x5).toNatClampNeg)], h)) hg rfl ?_
        refine qm_Ret.sts 5 (f' := (67, [some (qm_r 0 5 a0), some (qm_r 0 1 ad1), some (qm_i x2), some (qm_i x3), some (qm_i x4), some (qm_i x5), d6], [qm_i x5, qm_r 1 64 (a0 + 1), qm_i (h.1 a0 1), qm_i (h.1 (a0 + 1) (x5).toNatClampNeg)], h)) rfl ?_
        obtain ⟨hg, ho⟩ := qm_ifn ho
        refine qm_Ret.gn (f1 := (68, [some (qm_r 0 5 a0), some (qm_r 0 1 ad1), some (qm_i x2), some (qm_i x3), some (qm_i x4), some (qm_i x5), d6], [qm_i (h.1 (a0 + 1) (x5).toNatClampNeg), qm_i (h.1 a0 1), qm_i (h.1 (a0 + 1) (x5).toNatClampNeg)], h)) hg rfl ?_
        refine qm_Ret.sts 1 (f' := (69, [some (qm_r 0 5 a0), some (qm_r 0 1 ad1), some (qm_i x2), some (qm_i x3), some (qm_i x4), some (qm_i x5), d6], [qm_i ((h.1 a0 1) - (h.1 (a0 + 1) (x5).toNatClampNeg)), qm_i (h.1 (a0 + 1) (x5).toNatClampNeg)], h)) rfl ?_
        obtain ⟨r2, h1, hr, ho⟩ := qm_b2e ho
        refine qm_Ret.call (X := wJ9_max_7cf53 [qm_i (h.1 (a0 + 1) (x5).toNatClampNeg), qm_i ((h.1 a0 1) - (h.1 (a0 + 1) (x5).toNatClampNeg))] h) (o1 := (some (qm_i r2), h1)) (qm_mp (G := qm_Gi) hr) rfl ?_
        show qm_Ret _ (72, [some (qm_r 0 5 a0), some (qm_r 0 1 ad1), some (qm_i x2), some (qm_i x3), some (qm_i x4), some (qm_i x5), d6], [qm_i r2], h1) _
        refine qm_Ret.sts 3 (f' := (76, [some (qm_r 0 5 a0), some (qm_r 0 1 ad1), some (qm_i x2), some (qm_i x3), some (qm_i x4), some (qm_i x5), some (qm_i r2)], [qm_i (-1 : Int32), qm_i x2], h1)) rfl ?_
        refine qm_Ret.eq (t := 85) (e := 79) rfl (fun hc => ?_) (fun hc => ?_)
        · rw [if_pos hc] at ho
          refine qm_Ret.sts 6 (f' := (36, [some (qm_r 0 5 a0), some (qm_r 0 1 ad1), some (qm_i x5), some (qm_i r2), some (qm_i x4), some (qm_i (x5 + (1 : Int32))), some (qm_i r2)], [], h1)) rfl ?_
          exact ih ho
        · rw [if_neg hc] at ho
          refine qm_Ret.sts 2 (f' := (82, [some (qm_r 0 5 a0), some (qm_r 0 1 ad1), some (qm_i x2), some (qm_i x3), some (qm_i x4), some (qm_i x5), some (qm_i r2)], [qm_i x3, qm_i r2], h1)) rfl ?_
          refine qm_Ret.ge (t := 91) (e := 85) rfl (fun hc => ?_) (fun hc => ?_)
          · rw [if_pos hc] at ho
            refine qm_Ret.sts 6 (f' := (36, [some (qm_r 0 5 a0), some (qm_r 0 1 ad1), some (qm_i x5), some (qm_i r2), some (qm_i x4), some (qm_i (x5 + (1 : Int32))), some (qm_i r2)], [], h1)) rfl ?_
            exact ih ho
          · rw [if_neg hc] at ho
            refine qm_Ret.sts 2 (f' := (36, [some (qm_r 0 5 a0), some (qm_r 0 1 ad1), some (qm_i x2), some (qm_i x3), some (qm_i x4), some (qm_i (x5 + (1 : Int32))), some (qm_i r2)], [], h1)) rfl ?_
            exact ih ho
      · rw [if_neg hc] at ho
        cases ho
        exact qm_Ret.ret 2 rfl
    · rw [if_neg hc] at ho
      cases ho
      exact qm_Ret.ret 2 rfl
set_option maxRecDepth 20000 in
set_option maxHeartbeats 2000000 in
theorem rX5_bestAsked_0   {a0 : Nat} {a1 : Nat} {h : qm_H} {r : Int32 × qm_H} (ho : qX5_bestAsked  a0 a1 h = some r) : qm_Ret mX5_bestAsked (0, [some (qm_r 0 5 a0), some (qm_r 0 1 a1), none, none, none, none, none], [], h) (qm_Gi r) := by
  unfold qX5_bestAsked at ho
  refine qm_Ret.sts 4 (f' := (4, [some (qm_r 0 5 a0), some (qm_r 0 1 a1), none, none, none, none, none], [qm_i (1 : Int32), qm_i (-1 : Int32), qm_r 0 1 a1, qm_r 0 5 a0], h)) rfl ?_
  obtain ⟨h1, hr, ho⟩ := qm_bd ho
  refine qm_Ret.call (X := wX5_look [qm_r 0 5 a0, qm_r 0 1 a1, qm_i (-1 : Int32), qm_i (1 : Int32)] h) (o1 := (none, h1)) (qm_mp (G := qm_Gv) hr) rfl ?_
  show qm_Ret _ (7, [some (qm_r 0 5 a0), some (qm_r 0 1 a1), none, none, none, none, none], [], h1) _
  refine qm_Ret.sts 6 (f' := (15, [some (qm_r 0 5 a0), some (qm_r 0 1 a1), some (qm_i (-1 : Int32)), some (qm_i (0 : Int32)), none, none, none], [qm_i (h1.1 a0 1)], h1)) rfl ?_
  refine qm_Ret.ne (t := 22) (e := 18) rfl (fun hc => ?_) (fun hc => ?_)
  · rw [if_pos hc] at ho
    refine qm_Ret.sts 5 (f' := (36, [some (qm_r 0 5 a0), some (qm_r 0 1 a1), some (qm_i (-1 : Int32)), some (qm_i (0 : Int32)), some (qm_i (0 : Int32)), some (qm_i (0 : Int32)), none], [], h1)) rfl ?_
    exact rX5_bestAsked_36 ho
  · rw [if_neg hc] at ho
    refine qm_Ret.sts 5 (f' := (31, [some (qm_r 0 5 a0), some (qm_r 0 1 a1), some (qm_i (-1 : Int32)), some (qm_i (0 : Int32)), none, none, none], [qm_i ((h1.1 a1 1) * (h1.1 a1 2))], h1)) rfl ?_
    refine qm_Ret.lets (F := fun v2 => (31, [some (qm_r 0 5 a0), some (qm_r 0 1 a1), some (qm_i (-1 : Int32)), some (qm_i (0 : Int32)), none, none, none], [qm_i v2], h1)) (G := qm_Gi) ho (fun v2 ho => ?_)
    refine qm_Ret.sts 3 (f' := (36, [some (qm_r 0 5 a0), some (qm_r 0 1 a1), some (qm_i (-1 : Int32)), some (qm_i (0 : Int32)), some (qm_i v2), some (qm_i (0 : Int32)), none], [], h1)) rfl ?_
    exact rX5_bestAsked_36 ho
theorem cX5_bestAsked_ok : ∀ q ∈ ([(34, 2, 2, wJ9_max_7cf53), (15, 0, 4, wX5_look)] : List (Nat × Nat × Nat × qm_C)), qm_CallOK RX5 4 102 q.2.1 q.1 q.2.2.1 q.2.2.2 := List.forall_mem_cons.mpr ⟨Or.inl ⟨yJ9_max_7cf53, cJ9_max_7cf53, 2, (some .int), 0, 0, _, sJ9_max_7cf53, ⟨by decide, by decide⟩, ⟨jJ9_max_7cf53, kRX5_34, uRJ9⟩, ⟨by decide, by decide, rfl⟩, Or.inr (Or.inl ⟨rfl, rfl, iJ9_max_7cf53⟩)⟩, List.forall_mem_cons.mpr ⟨Or.inl ⟨yX5_look, cX5_look, 6, none, 3, 77, _, sX5_look, ⟨by decide, by decide⟩, ⟨jX5_look, kRX5_15, uRX5⟩, ⟨by decide, by decide, rfl⟩, Or.inl ⟨rfl, rfl, iX5_look, recvX5_look⟩⟩, fun _ h => absurd h List.not_mem_nil⟩⟩
theorem sX5_bestAsked : qm_Snd yX5_bestAsked cX5_bestAsked 7 (some .int) 4 102 wX5_bestAsked := qm_met (fld := fun k => qm_lk k pfRX5) (con := fun k => qm_lk k pcRX5) (call := fun k => qm_lk k [(34, 2, 2, wJ9_max_7cf53), (15, 0, 4, wX5_look)]) (tab := qm_tab aX5_bestAsked) (plainFor_of_name (by decide)) (qm_fld_ok pfRX5_ok) (qm_con_ok pcRX5_ok) (fun idx kd n f hc => cX5_bestAsked_ok (idx, kd, n, f) (qm_lk_mem hc)) (qm_tab_ok aX5_bestAsked_ok) (fun vs h o hw => by
  unfold wX5_bestAsked at hw
  split at hw
  · obtain ⟨r, hr, rfl⟩ := Option.map_eq_some_iff.mp hw
    exact ⟨Nat.le_of_ble_eq_true rfl, rX5_bestAsked_0 (hr)⟩
  · cases hw)
theorem recvX5_bestAsked : ∀ vs h o, wX5_bestAsked vs h = some o → ∃ ci a rest, vs = qm_r 0 ci a :: rest ∧ qm_R ci = yX5_bestAsked.cls := by
  intro vs h o hw
  unfold wX5_bestAsked at hw
  split at hw
  · exact ⟨_, _, _, rfl, rfl⟩
  · cases hw
-- RX6 begin(LWillowLaw$Basket;)V
theorem jX6_begin : Jvm.Cond.code yX6_begin cX6_begin 2 none ∈ qm_all := List.mem_filter.mpr ⟨by decide +kernel, rfl⟩
theorem iX6_begin : Jvm.Cond.instanceMethod yX6_begin ∈ qm_all ∧ Jvm.Cond.selects yX6_begin.cls yX6_begin yX6_begin ∈ qm_all := ⟨List.mem_filter.mpr ⟨by decide +kernel, rfl⟩, List.mem_filter.mpr ⟨by decide +kernel, rfl⟩⟩
def wX6_begin : qm_C := fun vs h => match vs with
  | [.inr (.inr (some (0, 6, p0))), .inr (.inr (some (0, 0, p1)))] => (qX6_begin p0 p1 h).map qm_Gv
  | _ => none
def aX6_begin : List (Option (Instr × Nat)) := [some (.aload_n 0, 1), some (.getfield 12, 3), none, none, some (.aload_n 1, 1), some (.invokevirtual 18, 3), none, none, some (.aload_n 0, 1), some (.iconst 0, 1), some (.putfield 22, 3), none, none, some (.aload_n 0, 1), some (.iconst 0, 1), some (.putfield 26, 3), none, none, some (.aload_n 0, 1), some (.iconst 0, 1), some (.putfield 29, 3), none, none, some (.return_, 1)]
theorem aX6_begin_ok : qm_tabok cX6_begin aX6_begin = true := by decide +kernel
def mX6_begin : qm_M := (none, (fun k => qm_lk k pfRX6), (fun k => qm_lk k pcRX6), (fun k => qm_lk k [(18, 0, 2, wX0_take)]), qm_tab aX6_begin)
set_option maxRecDepth 20000 in
set_option maxHeartbeats 2000000 in
theorem rX6_begin_0   {a0 : Nat} {a1 : Nat} {h : qm_H} {r : qm_H} (ho : qX6_begin  a0 a1 h = some r) : qm_Ret mX6_begin (0, [some (qm_r 0 6 a0), some (qm_r 0 0 a1)], [], h) (qm_Gv r) := by
  unfold qX6_begin at ho
  refine qm_Ret.sts 3 (f' := (5, [some (qm_r 0 6 a0), some (qm_r 0 0 a1)], [qm_r 0 0 a1, qm_r 0 0 (a0 + 1)], h)) rfl ?_
  obtain ⟨h1, hr, ho⟩ := qm_bd ho
  refine qm_Ret.call (X := wX0_take [qm_r 0 0 (a0 + 1), qm_r 0 0 a1] h) (o1 := (none, h1)) (qm_mp (G := qm_Gv) hr) rfl ?_
  show qm_Ret _ (8, [some (qm_r 0 6 a0), some (qm_r 0 0 a1)], [], h1) _
  refine qm_Ret.sts 3 (f' := (13, [some (qm_r 0 6 a0), some (qm_r 0 0 a1)], [], (qm_seti h1 a0 1 (0 : Int32)))) rfl ?_
  refine qm_Ret.lets (F := fun h2 => (13, [some (qm_r 0 6 a0), some (qm_r 0 0 a1)], [], h2)) (G := qm_Gv) ho (fun h2 ho => ?_)
  refine qm_Ret.sts 3 (f' := (18, [some (qm_r 0 6 a0), some (qm_r 0 0 a1)], [], (qm_seti h2 a0 2 (0 : Int32)))) rfl ?_
  refine qm_Ret.lets (F := fun h3 => (18, [some (qm_r 0 6 a0), some (qm_r 0 0 a1)], [], h3)) (G := qm_Gv) ho (fun h3 ho => ?_)
  refine qm_Ret.sts 3 (f' := (23, [some (qm_r 0 6 a0), some (qm_r 0 0 a1)], [], (qm_seti h3 a0 3 (0 : Int32)))) rfl ?_
  refine qm_Ret.lets (F := fun h4 => (23, [some (qm_r 0 6 a0), some (qm_r 0 0 a1)], [], h4)) (G := qm_Gv) ho (fun h4 ho => ?_)
  cases ho
  exact qm_Ret.ret 1 rfl
theorem cX6_begin_ok : ∀ q ∈ ([(18, 0, 2, wX0_take)] : List (Nat × Nat × Nat × qm_C)), qm_CallOK RX6 2 81 q.2.1 q.1 q.2.2.1 q.2.2.2 := List.forall_mem_cons.mpr ⟨Or.inl ⟨yX0_take, cX0_take, 2, none, 1, 60, _, sX0_take, ⟨by decide, by decide⟩, ⟨jX0_take, kRX6_18, uRX0⟩, ⟨by decide, by decide, rfl⟩, Or.inl ⟨rfl, rfl, iX0_take, recvX0_take⟩⟩, fun _ h => absurd h List.not_mem_nil⟩
theorem sX6_begin : qm_Snd yX6_begin cX6_begin 2 none 2 81 wX6_begin := qm_met (fld := fun k => qm_lk k pfRX6) (con := fun k => qm_lk k pcRX6) (call := fun k => qm_lk k [(18, 0, 2, wX0_take)]) (tab := qm_tab aX6_begin) (plainFor_of_name (by decide)) (qm_fld_ok pfRX6_ok) (qm_con_ok pcRX6_ok) (fun idx kd n f hc => cX6_begin_ok (idx, kd, n, f) (qm_lk_mem hc)) (qm_tab_ok aX6_begin_ok) (fun vs h o hw => by
  unfold wX6_begin at hw
  split at hw
  · obtain ⟨r, hr, rfl⟩ := Option.map_eq_some_iff.mp hw
    exact ⟨Nat.le_of_ble_eq_true rfl, rX6_begin_0 (hr)⟩
  · cases hw)
theorem recvX6_begin : ∀ vs h o, wX6_begin vs h = some o → ∃ ci a rest, vs = qm_r 0 ci a :: rest ∧ qm_R ci = yX6_begin.cls := by
  intro vs h o hw
  unfold wX6_begin at hw
  split at hw
  · exact ⟨_, _, _, rfl, rfl⟩
  · cases hw
-- RX10 has(I)Z
theorem jX10_has : Jvm.Cond.code yX10_has cX10_has 2 (some .boolean) ∈ qm_all := List.mem_filter.mpr ⟨by decide +kernel, rfl⟩
theorem iX10_has : Jvm.Cond.instanceMethod yX10_has ∈ qm_all ∧ Jvm.Cond.selects yX10_has.cls yX10_has yX10_has ∈ qm_all := ⟨List.mem_filter.mpr ⟨by decide +kernel, rfl⟩, List.mem_filter.mpr ⟨by decide +kernel, rfl⟩⟩
def wX10_has : qm_C := fun vs h => match vs with
  | [.inr (.inr (some (0, 10, p0))), .inl p1] => (qX10_has p0 p1 h).map qm_Gi
  | _ => none
def aX10_has : List (Option (Instr × Nat)) := [some (.iload_n 1, 1), some (.ifCond .lt 21, 3), none, none, some (.iload_n 1, 1), some (.aload_n 0, 1), some (.getfield 15, 3), none, none, some (.if_icmp .ge 13, 3), none, none, some (.iload_n 1, 1), some (.bipush 40, 2), none, some (.if_icmp .ge 7, 3), none, none, some (.iconst 1, 1), some (.goto 4, 3), none, none, some (.iconst 0, 1), some (.ireturn, 1)]
theorem aX10_has_ok : qm_tabok cX10_has aX10_has = true := by decide +kernel
def mX10_has : qm_M := ((some .boolean), (fun k => qm_lk k pfRX10), (fun k => qm_lk k pcRX10), (fun k => qm_lk k []), qm_tab aX10_has)
set_option maxRecDepth 20000 in
set_option maxHeartbeats 2000000 in
theorem rX10_has_0   {a0 : Nat} {x1 : Int32} {h : qm_H} {r : Int32 × qm_H} (ho : qX10_has  a0 x1 h = some r) : qm_Ret mX10_has (0, [some (qm_r 0 10 a0), some (qm_i x1)], [], h) (qm_Gi r) := by
  unfold qX10_has at ho
  refine qm_Ret.sts 1 (f' := (1, [some (qm_r 0 10 a0), some (qm_i x1)], [qm_i x1], h)) rfl ?_
  refine qm_Ret.lt (t := 22) (e := 4) rfl (fun hc => ?_) (fun hc => ?_)
  · rw [if_pos hc] at ho
    cases ho
    exact qm_Ret.ret 2 rfl
  · rw [if_neg hc] at ho
    refine qm_Ret.sts 3 (f' := (9, [some (qm_r 0 10 a0), some (qm_i x1)], [qm_i (h.1 a0 1), qm_i x1], h)) rfl ?_
    refine qm_Ret.ge (t := 22) (e := 12) rfl (fun hc => ?_) (fun hc => ?_)
    · rw [if_pos hc] at ho
      refine qm_Ret.sts 2 (f' := (15, [some (qm_r 0 10 a0), some (qm_i x1)], [qm_i (40 : Int32), qm_i x1], h)) rfl ?_
      refine qm_Ret.ge (t := 22) (e := 18) rfl (fun hc => ?_) (fun hc => ?_)
      · rw [if_pos hc] at ho
        cases ho
        exact qm_Ret.ret 3 rfl
      · rw [if_neg hc] at ho
        cases ho
        exact qm_Ret.ret 2 rfl
    · rw [if_neg hc] at ho
      cases ho
      exact qm_Ret.ret 2 rfl
theorem cX10_has_ok : ∀ q ∈ ([] : List (Nat × Nat × Nat × qm_C)), qm_CallOK RX10 0 0 q.2.1 q.1 q.2.2.1 q.2.2.2 := fun _ h => absurd h List.not_mem_nil
theorem sX10_has : qm_Snd yX10_has cX10_has 2 (some .boolean) 0 0 wX10_has := qm_met (fld := fun k => qm_lk k pfRX10) (con := fun k => qm_lk k pcRX10) (call := fun k => qm_lk k []) (tab := qm_tab aX10_has) (plainFor_of_name (by decide)) (qm_fld_ok pfRX10_ok) (qm_con_ok pcRX10_ok) (fun idx kd n f hc => cX10_has_ok (idx, kd, n, f) (qm_lk_mem hc)) (qm_tab_ok aX10_has_ok) (fun vs h o hw => by
  unfold wX10_has at hw
  split at hw
  · obtain ⟨r, hr, rfl⟩ := Option.map_eq_some_iff.mp hw
    exact ⟨Nat.le_of_ble_eq_true rfl, rX10_has_0 (hr)⟩
  · cases hw)
theorem recvX10_has : ∀ vs h o, wX10_has vs h = some o → ∃ ci a rest, vs = qm_r 0 ci a :: rest ∧ qm_R ci = yX10_has.cls := by
  intro vs h o hw
  unfold wX10_has at hw
  split at hw
  · exact ⟨_, _, _, rfl, rfl⟩
  · cases hw
-- RX10 part(II)I
theorem jX10_part : Jvm.Cond.code yX10_part cX10_part 4 (some .int) ∈ qm_all := List.mem_filter.mpr ⟨by decide +kernel, rfl⟩
theorem iX10_part : Jvm.Cond.instanceMethod yX10_part ∈ qm_all ∧ Jvm.Cond.selects yX10_part.cls yX10_part yX10_part ∈ qm_all := ⟨List.mem_filter.mpr ⟨by decide +kernel, rfl⟩, List.mem_filter.mpr ⟨by decide +kernel, rfl⟩⟩
def wX10_part : qm_C := fun vs h => match vs with
  | [.inr (.inr (some (0, 10, p0))), .inl p1, .inl p2] => (qX10_part p0 p1 p2 h).map qm_Gi
  | _ => none
def aX10_part : List (Option (Instr × Nat)) := [some (.iconst 4, 1), some (.iload_n 1, 1), some (.imul, 1), some (.iload_n 2, 1), some (.iadd, 1), some (.istore_n 3, 1), some (.iload_n 3, 1), some (.ifCond .lt 21, 3), none, none, some (.iload_n 3, 1), some (.aload_n 0, 1), some (.getfield 11, 3), none, none, some (.arraylength, 1), some (.if_icmp .ge 12, 3), none, none, some (.aload_n 0, 1), some (.getfield 11, 3), none, none, some (.iload_n 3, 1), some (.iaload, 1), some (.goto 4, 3), none, none, some (.iconst (-1), 1), some (.ireturn, 1)]
theorem aX10_part_ok : qm_tabok cX10_part aX10_part = true := by decide +kernel
def mX10_part : qm_M := ((some .int), (fun k => qm_lk k pfRX10), (fun k => qm_lk k pcRX10), (fun k => qm_lk k []), qm_tab aX10_part)
set_option maxRecDepth 20000 in
set_option maxHeartbeats 2000000 in
theorem rX10_part_0   {a0 : Nat} {x1 : Int32} {x2 : Int32} {h : qm_H} {r : Int32 × qm_H} (ho : qX10_part  a0 x1 x2 h = some r) : qm_Ret mX10_part (0, [some (qm_r 0 10 a0), some (qm_i x1), some (qm_i x2), none], [], h) (qm_Gi r) := by
  unfold qX10_part at ho
  refine qm_Ret.sts 5 (f' := (5, [some (qm_r 0 10 a0), some (qm_i x1), some (qm_i x2), none], [qm_i (((4 : Int32) * x1) + x2)], h)) rfl ?_
  refine qm_Ret.lets (F := fun v1 => (5, [some (qm_r 0 10 a0), some (qm_i x1), some (qm_i x2), none], [qm_i v1], h)) (G := qm_Gi) ho (fun v1 ho => ?_)
  refine qm_Ret.sts 2 (f' := (7, [some (qm_r 0 10 a0), some (qm_i x1), some (qm_i x2), some (qm_i v1)], [qm_i v1], h)) rfl ?_
  refine qm_Ret.lt (t := 28) (e := 10) rfl (fun hc => ?_) (fun hc => ?_)
  · rw [if_pos hc] at ho
    cases ho
    exact qm_Ret.ret 2 rfl
  · rw [if_neg hc] at ho
    refine qm_Ret.sts 4 (f' := (16, [some (qm_r 0 10 a0), some (qm_i x1), some (qm_i x2), some (qm_i v1)], [qm_i (Int32.ofNat 160), qm_i v1], h)) rfl ?_
    refine qm_Ret.ge (t := 28) (e := 19) rfl (fun hc => ?_) (fun hc => ?_)
    · rw [if_pos hc] at ho
      refine qm_Ret.sts 3 (f' := (24, [some (qm_r 0 10 a0), some (qm_i x1), some (qm_i x2), some (qm_i v1)], [qm_i v1, qm_r 1 160 (a0 + 1)], h)) rfl ?_
      obtain ⟨hg, ho⟩ := qm_ifn ho
      refine qm_Ret.gn (f1 := (25, [some (qm_r 0 10 a0), some (qm_i x1), some (qm_i x2), some (qm_i v1)], [qm_i (h.1 (a0 + 1) (v1).toNatClampNeg)], h)) hg rfl ?_
      cases ho
      exact qm_Ret.ret 2 rfl
    · rw [if_neg hc] at ho
      cases ho
      exact qm_Ret.ret 2 rfl
theorem cX10_part_ok : ∀ q ∈ ([] : List (Nat × Nat × Nat × qm_C)), qm_CallOK RX10 0 0 q.2.1 q.1 q.2.2.1 q.2.2.2 := fun _ h => absurd h List.not_mem_nil
theorem sX10_part : qm_Snd yX10_part cX10_part 4 (some .int) 0 0 wX10_part := qm_met (fld := fun k => qm_lk k pfRX10) (con := fun k => qm_lk k pcRX10) (call := fun k => qm_lk k []) (tab := qm_tab aX10_part) (plainFor_of_name (by decide)) (qm_fld_ok pfRX10_ok) (qm_con_ok pcRX10_ok) (fun idx kd n f hc => cX10_part_ok (idx, kd, n, f) (qm_lk_mem hc)) (qm_tab_ok aX10_part_ok) (fun vs h o hw => by
  unfold wX10_part at hw
  split at hw
  · obtain ⟨r, hr, rfl⟩ := Option.map_eq_some_iff.mp hw
    exact ⟨Nat.le_of_ble_eq_true rfl, rX10_part_0 (hr)⟩
  · cases hw)
theorem recvX10_part : ∀ vs h o, wX10_part vs h = some o → ∃ ci a rest, vs = qm_r 0 ci a :: rest ∧ qm_R ci = yX10_part.cls := by
  intro vs h o hw
  unfold wX10_part at hw
  split at hw
  · exact ⟨_, _, _, rfl, rfl⟩
  · cases hw
-- RX6 strike(III)V
theorem jX6_strike : Jvm.Cond.code yX6_strike cX6_strike 5 none ∈ qm_all := List.mem_filter.mpr ⟨by decide +kernel, rfl⟩
theorem iX6_strike : Jvm.Cond.instanceMethod yX6_strike ∈ qm_all ∧ Jvm.Cond.selects yX6_strike.cls yX6_strike yX6_strike ∈ qm_all := ⟨List.mem_filter.mpr ⟨by decide +kernel, rfl⟩, List.mem_filter.mpr ⟨by decide +kernel, rfl⟩⟩
def wX6_strike : qm_C := fun vs h => match vs with
  | [.inr (.inr (some (0, 6, p0))), .inl p1, .inl p2, .inl p3] => (qX6_strike p0 p1 p2 p3 h).map qm_Gv
  | _ => none
def aX6_strike : List (Option (Instr × Nat)) := [some (.aload_n 0, 1), some (.getfield 12, 3), none, none, some (.iload_n 1, 1), some (.iload_n 2, 1), some (.invokevirtual 70, 3), none, none, some (.iconst (-1), 1), some (.if_icmp .eq 14, 3), none, none, some (.aload_n 0, 1), some (.dup, 1), some (.getfield 22, 3), none, none, some (.iconst 1, 1), some (.iadd, 1), some (.putfield 22, 3), none, none, some (.return_, 1), some (.aload_n 0, 1), some (.getfield 12, 3), none, none, some (.iload_n 1, 1), some (.iload_n 2, 1), some (.invokevirtual 73, 3), none, none, some (.istore 4, 2), none, some (.iload 4, 2), none, some (.iconst (-1), 1), some (.if_icmp .eq 42, 3), none, none, some (.iload_n 3, 1), some (.aload_n 0, 1), some (.getfield 12, 3), none, none, some (.iload 4, 2), none, some (.iload_n 1, 1), some (.iload_n 2, 1), some (.invokevirtual 76, 3), none, none, some (.if_icmp .le 27, 3), none, none, some (.aload_n 0, 1), some (.getfield 12, 3), none, none, some (.iload 4, 2), none, some (.iload_n 1, 1), some (.iload_n 2, 1), some (.invokevirtual 80, 3), none, none, some (.aload_n 0, 1), some (.dup, 1), some (.getfield 26, 3), none, none, some (.iconst 1, 1), some (.iadd, 1), some (.putfield 26, 3), none, none, some (.goto 13, 3), none, none, some (.aload_n 0, 1), some (.dup, 1), some (.getfield 29, 3), none, none, some (.iconst 1, 1), some (.iadd, 1), some (.putfield 29, 3), none, none, some (.return_, 1)]
theorem aX6_strike_ok : qm_tabok cX6_strike aX6_strike = true := by decide +kernel
def mX6_strike : qm_M := (none, (fun k => qm_lk k pfRX6), (fun k => qm_lk k pcRX6), (fun k => qm_lk k [(70, 0, 3, wX0_gapFor), (73, 0, 3, wX0_softest), (76, 0, 4, wX0_strengthOfRectangle), (80, 0, 4, wX0_openRectangle)]), qm_tab aX6_strike)
set_option maxRecDepth 20000 in
set_option maxHeartbeats 2000000 in
theorem rX6_strike_0   {a0 : Nat} {x1 : Int32} {x2 : Int32} {x3 : Int32} {h : qm_H} {r : qm_H} (ho : qX6_strike  a0 x1 x2 x3 h = some r) : qm_Ret mX6_strike (0, [some (qm_r 0 6 a0), some (qm_i x1), some (qm_i x2), some (qm_i x3), none], [], h) (qm_Gv r) := by
  unfold qX6_strike at ho
  refine qm_Ret.sts 4 (f' := (6, [some (qm_r 0 6 a0), some (qm_i x1), some (qm_i x2), some (qm_i x3), none], [qm_i x2, qm_i x1, qm_r 0 0 (a0 + 1)], h)) rfl ?_
  obtain ⟨r2, h1, hr, ho⟩ := qm_b2e ho
  refine qm_Ret.call (X := wX0_gapFor [qm_r 0 0 (a0 + 1), qm_i x1, qm_i x2] h) (o1 := (some (qm_i r2), h1)) (qm_mp (G := qm_Gi) hr) rfl ?_
  show qm_Ret _ (9, [some (qm_r 0 6 a0), some (qm_i x1), some (qm_i x2), some (qm_i x3), none], [qm_i r2], h1) _
  refine qm_Ret.sts 1 (f' := (10, [some (qm_r 0 6 a0), some (qm_i x1), some (qm_i x2), some (qm_i x3), none], [qm_i (-1 : Int32), qm_i r2], h1)) rfl ?_
  refine qm_Ret.eq (t := 24) (e := 13) rfl (fun hc => ?_) (fun hc => ?_)
  · rw [if_pos hc] at ho
    refine qm_Ret.sts 4 (f' := (30, [some (qm_r 0 6 a0), some (qm_i x1), some (qm_i x2), some (qm_i x3), none], [qm_i x2, qm_i x1, qm_r 0 0 (a0 + 1)], h1)) rfl ?_
    obtain ⟨r4, h3, hr, ho⟩ := qm_b2e ho
    refine qm_Ret.call (X := wX0_softest [qm_r 0 0 (a0 + 1), qm_i x1, qm_i x2] h1) (o1 := (some (qm_i r4), h3)) (qm_mp (G := qm_Gi) hr) rfl ?_
    show qm_Ret _ (33, [some (qm_r 0 6 a0), some (qm_i x1), some (qm_i x2), some (qm_i x3), none], [qm_i r4], h3) _
    refine qm_Ret.sts 3 (f' := (38, [some (qm_r 0 6 a0), some (qm_i x1), some (qm_i x2), some (qm_i x3), some (qm_i r4)], [qm_i (-1 : Int32), qm_i r4], h3)) rfl ?_
    refine qm_Ret.eq (t := 80) (e := 41) rfl (fun hc => ?_) (fun hc => ?_)
    · rw [if_pos hc] at ho
      refine qm_Ret.sts 6 (f' := (90, [some (qm_r 0 6 a0), some (qm_i x1), some (qm_i x2), some (qm_i x3), some (qm_i r4)], [], (qm_seti h3 a0 3 ((h3.1 a0 3) + (1 : Int32))))) rfl ?_
      refine qm_Ret.lets (F := fun h5 => (90, [some (qm_r 0 6 a0), some (qm_i x1), some (qm_i x2), some (qm_i x3), some (qm_i r4)], [], h5)) (G := qm_Gv) ho (fun h5 ho => ?_)
      cases ho
      exact qm_Ret.ret 1 rfl
    · rw [if_neg hc] at ho
      refine qm_Ret.sts 6 (f' := (50, [some (qm_r 0 6 a0), some (qm_i x1), some (qm_i x2), some (qm_i x3), some (qm_i r4)], [qm_i x2, qm_i x1, qm_i r4, qm_r 0 0 (a0 + 1), qm_i x3], h3)) rfl ?_
      obtain ⟨r7, h6, hr, ho⟩ := qm_b2e ho
      refine qm_Ret.call (X := wX0_strengthOfRectangle [qm_r 0 0 (a0 + 1), qm_i r4, qm_i x1, qm_i x2] h3) (o1 := (some (qm_i r7), h6)) (qm_mp (G := qm_Gi) hr) rfl ?_
      show qm_Ret _ (53, [some (qm_r 0 6 a0), some (qm_i x1), some (qm_i x2), some (qm_i x3), some (qm_i r4)], [qm_i r7, qm_i x3], h6) _
      refine qm_Ret.le (t := 80) (e := 56) rfl (fun hc => ?_) (fun hc => ?_)
      · rw [if_pos hc] at ho
        refine qm_Ret.sts 5 (f' := (64, [some (qm_r 0 6 a0), some (qm_i x1), some (qm_i x2), some (qm_i x3), some (qm_i r4)], [qm_i x2, qm_i x1, qm_i r4, qm_r 0 0 (a0 + 1)], h6)) rfl ?_
        obtain ⟨h9, hr, ho⟩ := qm_bd ho
        refine qm_Ret.call (X := wX0_openRectangle [qm_r 0 0 (a0 + 1), qm_i r4, qm_i x1, qm_i x2] h6) (o1 := (none, h9)) (qm_mp (G := qm_Gv) hr) rfl ?_
        show qm_Ret _ (67, [some (qm_r 0 6 a0), some (qm_i x1), some (qm_i x2), some (qm_i x3), some (qm_i r4)], [], h9) _
        refine qm_Ret.sts 6 (f' := (77, [some (qm_r 0 6 a0), some (qm_i x1), some (qm_i x2), some (qm_i x3), some (qm_i r4)], [], (qm_seti h9 a0 2 ((h9.1 a0 2) + (1 : Int32))))) rfl ?_
        refine qm_Ret.lets (F := fun h10 => (77, [some (qm_r 0 6 a0), some (qm_i x1), some (qm_i x2), some (qm_i x3), some (qm_i r4)], [], h10)) (G := qm_Gv) ho (fun h10 ho => ?_)
        cases ho
        exact qm_Ret.ret 2 rfl
      · rw [if_neg hc] at ho
        refine qm_Ret.sts 6 (f' := (90, [some (qm_r 0 6 a0), some (qm_i x1), some (qm_i x2), some (qm_i x3), some (qm_i r4)], [], (qm_seti h6 a0 3 ((h6.1 a0 3) + (1 : Int32))))) rfl ?_
        refine qm_Ret.lets (F := fun h8 => (90, [some (qm_r 0 6 a0), some (qm_i x1), some (qm_i x2), some (qm_i x3), some (qm_i r4)], [], h8)) (G := qm_Gv) ho (fun h8 ho => ?_)
        cases ho
        exact qm_Ret.ret 1 rfl
  · rw [if_neg hc] at ho
    refine qm_Ret.sts 6 (f' := (23, [some (qm_r 0 6 a0), some (qm_i x1), some (qm_i x2), some (qm_i x3), none], [], (qm_seti h1 a0 1 ((h1.1 a0 1) + (1 : Int32))))) rfl ?_
    refine qm_Ret.lets (F := fun h11 => (23, [some (qm_r 0 6 a0), some (qm_i x1), some (qm_i x2), some (qm_i x3), none], [], h11)) (G := qm_Gv) ho (fun h11 ho => ?_)
    cases ho
    exact qm_Ret.ret 1 rfl
theorem cX6_strike_ok : ∀ q ∈ ([(70, 0, 3, wX0_gapFor), (73, 0, 3, wX0_softest), (76, 0, 4, wX0_strengthOfRectangle), (80, 0, 4, wX0_openRectangle)] : List (Nat × Nat × Nat × qm_C)), qm_CallOK RX6 4 96 q.2.1 q.1 q.2.2.1 q.2.2.2 := List.forall_mem_cons.mpr ⟨Or.inl ⟨yX0_gapFor, cX0_gapFor, 3, (some .int), 2, 58, _, sX0_gapFor, ⟨by decide, by decide⟩, ⟨jX0_gapFor, kRX6_70, uRX0⟩, ⟨by decide, by decide, rfl⟩, Or.inl ⟨rfl, rfl, iX0_gapFor, recvX0_gapFor⟩⟩, List.forall_mem_cons.mpr ⟨Or.inl ⟨yX0_softest, cX0_softest, 8, (some .int), 3, 69, _, sX0_softest, ⟨by decide, by decide⟩, ⟨jX0_softest, kRX6_73, uRX0⟩, ⟨by decide, by decide, rfl⟩, Or.inl ⟨rfl, rfl, iX0_softest, recvX0_softest⟩⟩, List.forall_mem_cons.mpr ⟨Or.inl ⟨yX0_strengthOfRectangle, cX0_strengthOfRectangle, 9, (some .int), 2, 46, _, sX0_strengthOfRectangle, ⟨by decide, by decide⟩, ⟨jX0_strengthOfRectangle, kRX6_76, uRX0⟩, ⟨by decide, by decide, rfl⟩, Or.inl ⟨rfl, rfl, iX0_strengthOfRectangle, recvX0_strengthOfRectangle⟩⟩, List.forall_mem_cons.mpr ⟨Or.inl ⟨yX0_openRectangle, cX0_openRectangle, 4, none, 1, 28, _, sX0_openRectangle, ⟨by decide, by decide⟩, ⟨jX0_openRectangle, kRX6_80, uRX0⟩, ⟨by decide, by decide, rfl⟩, Or.inl ⟨rfl, rfl, iX0_openRectangle, recvX0_openRectangle⟩⟩, fun _ h => absurd h List.not_mem_nil⟩⟩⟩⟩
theorem sX6_strike : qm_Snd yX6_strike cX6_strike 5 none 4 96 wX6_strike := qm_met (fld := fun k => qm_lk k pfRX6) (con := fun k => qm_lk k pcRX6) (call := fun k => qm_lk k [(70, 0, 3, wX0_gapFor), (73, 0, 3, wX0_softest), (76, 0, 4, wX0_strengthOfRectangle), (80, 0, 4, wX0_openRectangle)]) (tab := qm_tab aX6_strike) (plainFor_of_name (by decide)) (qm_fld_ok pfRX6_ok) (qm_con_ok pcRX6_ok) (fun idx kd n f hc => cX6_strike_ok (idx, kd, n, f) (qm_lk_mem hc)) (qm_tab_ok aX6_strike_ok) (fun vs h o hw => by
  unfold wX6_strike at hw
  split at hw
  · obtain ⟨r, hr, rfl⟩ := Option.map_eq_some_iff.mp hw
    exact ⟨Nat.le_of_ble_eq_true rfl, rX6_strike_0 (hr)⟩
  · cases hw)
theorem recvX6_strike : ∀ vs h o, wX6_strike vs h = some o → ∃ ci a rest, vs = qm_r 0 ci a :: rest ∧ qm_R ci = yX6_strike.cls := by
  intro vs h o hw
  unfold wX6_strike at hw
  split at hw
  · exact ⟨_, _, _, rfl, rfl⟩
  · cases hw
-- RX6 mend(II)Z
theorem jX6_mend : Jvm.Cond.code yX6_mend cX6_mend 4 (some .boolean) ∈ qm_all := List.mem_filter.mpr ⟨by decide +kernel, rfl⟩
theorem iX6_mend : Jvm.Cond.instanceMethod yX6_mend ∈ qm_all ∧ Jvm.Cond.selects yX6_mend.cls yX6_mend yX6_mend ∈ qm_all := ⟨List.mem_filter.mpr ⟨by decide +kernel, rfl⟩, List.mem_filter.mpr ⟨by decide +kernel, rfl⟩⟩
def wX6_mend : qm_C := fun vs h => match vs with
  | [.inr (.inr (some (0, 6, p0))), .inl p1, .inl p2] => (qX6_mend p0 p1 p2 h).map qm_Gi
  | _ => none
def aX6_mend : List (Option (Instr × Nat)) := [some (.aload_n 0, 1), some (.getfield 12, 3), none, none, some (.iload_n 1, 1), some (.iload_n 2, 1), some (.invokevirtual 83, 3), none, none, some (.ifCond .ne 5, 3), none, none, some (.iconst 0, 1), some (.ireturn, 1), some (.bipush 8, 2), none, some (.iload_n 1, 1), some (.imul, 1), some (.iload_n 2, 1), some (.iadd, 1), some (.istore_n 3, 1), some (.aload_n 0, 1), some (.getfield 12, 3), none, none, some (.iload_n 1, 1), some (.iload_n 2, 1), some (.aload_n 0, 1), some (.getfield 12, 3), none, none, some (.getfield 86, 3), none, none, some (.iload_n 3, 1), some (.iaload, 1), some (.iconst 0, 1), some (.invokevirtual 90, 3), none, none, some (.iconst 1, 1), some (.ireturn, 1)]
theorem aX6_mend_ok : qm_tabok cX6_mend aX6_mend = true := by decide +kernel
def mX6_mend : qm_M := ((some .boolean), (fun k => qm_lk k pfRX6), (fun k => qm_lk k pcRX6), (fun k => qm_lk k [(83, 0, 3, wX0_hasTwig), (90, 0, 5, wX0_setTwig)]), qm_tab aX6_mend)
set_option maxRecDepth 20000 in
set_option maxHeartbeats 2000000 in
theorem rX6_mend_0   {a0 : Nat} {x1 : Int32} {x2 : Int32} {h : qm_H} {r : Int32 × qm_H} (ho : qX6_mend  a0 x1 x2 h = some r) : qm_Ret mX6_mend (0, [some (qm_r 0 6 a0), some (qm_i x1), some (qm_i x2), none], [], h) (qm_Gi r) := by
  unfold qX6_mend at ho
  refine qm_Ret.sts 4 (f' := (6, [some (qm_r 0 6 a0), some (qm_i x1), some (qm_i x2), none], [qm_i x2, qm_i x1, qm_r 0 0 (a0 + 1)], h)) rfl ?_
  obtain ⟨r2, h1, hr, ho⟩ := qm_b2e ho
  refine qm_Ret.call (X := wX0_hasTwig [qm_r 0 0 (a0 + 1), qm_i x1, qm_i x2] h) (o1 := (some (qm_i r2), h1)) (qm_mp (G := qm_Gi) hr) rfl ?_
  show qm_Ret _ (9, [some (qm_r 0 6 a0), some (qm_i x1), some (qm_i x2), none], [qm_i r2], h1) _
  refine qm_Ret.ne (t := 14) (e := 12) rfl (fun hc => ?_) (fun hc => ?_)
  · rw [if_pos hc] at ho
    cases ho
    exact qm_Ret.ret 2 rfl
  · rw [if_neg hc] at ho
    refine qm_Ret.sts 5 (f' := (20, [some (qm_r 0 6 a0), some (qm_i x1), some (qm_i x2), none], [qm_i (((8 : Int32) * x1) + x2)], h1)) rfl ?_
    refine qm_Ret.lets (F := fun v3 => (20, [some (qm_r 0 6 a0), some (qm_i x1), some (qm_i x2), none], [qm_i v3], h1)) (G := qm_Gi) ho (fun v3 ho => ?_)
    refine qm_Ret.sts 9 (f' := (35, [some (qm_r 0 6 a0), some (qm_i x1), some (qm_i x2), some (qm_i v3)], [qm_i v3, qm_r 1 16 ((a0 + 1) + 1), qm_i x2, qm_i x1, qm_r 0 0 (a0 + 1)], h1)) rfl ?_
    obtain ⟨hg, ho⟩ := qm_ifn ho
    refine qm_Ret.gn (f1 := (36, [some (qm_r 0 6 a0), some (qm_i x1), some (qm_i x2), some (qm_i v3)], [qm_i (h1.1 ((a0 + 1) + 1) (v3).toNatClampNeg), qm_i x2, qm_i x1, qm_r 0 0 (a0 + 1)], h1)) hg rfl ?_
    refine qm_Ret.sts 1 (f' := (37, [some (qm_r 0 6 a0), some (qm_i x1), some (qm_i x2), some (qm_i v3)], [qm_i (0 : Int32), qm_i (h1.1 ((a0 + 1) + 1) (v3).toNatClampNeg), qm_i x2, qm_i x1, qm_r 0 0 (a0 + 1)], h1)) rfl ?_
    obtain ⟨h4, hr, ho⟩ := qm_bd ho
    refine qm_Ret.call (X := wX0_setTwig [qm_r 0 0 (a0 + 1), qm_i x1, qm_i x2, qm_i (h1.1 ((a0 + 1) + 1) (v3).toNatClampNeg), qm_i (0 : Int32)] h1) (o1 := (none, h4)) (qm_mp (G := qm_Gv) hr) rfl ?_
    show qm_Ret _ (40, [some (qm_r 0 6 a0), some (qm_i x1), some (qm_i x2), some (qm_i v3)], [], h4) _
    cases ho
    exact qm_Ret.ret 2 rfl
theorem cX6_mend_ok : ∀ q ∈ ([(83, 0, 3, wX0_hasTwig), (90, 0, 5, wX0_setTwig)] : List (Nat × Nat × Nat × qm_C)), qm_CallOK RX6 1 25 q.2.1 q.1 q.2.2.1 q.2.2.2 := List.forall_mem_cons.mpr ⟨Or.inl ⟨yX0_hasTwig, cX0_hasTwig, 3, (some .boolean), 0, 0, _, sX0_hasTwig, ⟨by decide, by decide⟩, ⟨jX0_hasTwig, kRX6_83, uRX0⟩, ⟨by decide, by decide, rfl⟩, Or.inl ⟨rfl, rfl, iX0_hasTwig, recvX0_hasTwig⟩⟩, List.forall_mem_cons.mpr ⟨Or.inl ⟨yX0_setTwig, cX0_setTwig, 6, none, 0, 0, _, sX0_setTwig, ⟨by decide, by decide⟩, ⟨jX0_setTwig, kRX6_90, uRX0⟩, ⟨by decide, by decide, rfl⟩, Or.inl ⟨rfl, rfl, iX0_setTwig, recvX0_setTwig⟩⟩, fun _ h => absurd h List.not_mem_nil⟩⟩
theorem sX6_mend : qm_Snd yX6_mend cX6_mend 4 (some .boolean) 1 25 wX6_mend := qm_met (fld := fun k => qm_lk k pfRX6) (con := fun k => qm_lk k pcRX6) (call := fun k => qm_lk k [(83, 0, 3, wX0_hasTwig), (90, 0, 5, wX0_setTwig)]) (tab := qm_tab aX6_mend) (plainFor_of_name (by decide)) (qm_fld_ok pfRX6_ok) (qm_con_ok pcRX6_ok) (fun idx kd n f hc => cX6_mend_ok (idx, kd, n, f) (qm_lk_mem hc)) (qm_tab_ok aX6_mend_ok) (fun vs h o hw => by
  unfold wX6_mend at hw
  split at hw
  · obtain ⟨r, hr, rfl⟩ := Option.map_eq_some_iff.mp hw
    exact ⟨Nat.le_of_ble_eq_true rfl, rX6_mend_0 (hr)⟩
  · cases hw)
theorem recvX6_mend : ∀ vs h o, wX6_mend vs h = some o → ∃ ci a rest, vs = qm_r 0 ci a :: rest ∧ qm_R ci = yX6_mend.cls := by
  intro vs h o hw
  unfold wX6_mend at hw
  split at hw
  · exact ⟨_, _, _, rfl, rfl⟩
  · cases hw
-- RX6 grow(II)Z
theorem jX6_grow : Jvm.Cond.code yX6_grow cX6_grow 4 (some .boolean) ∈ qm_all := List.mem_filter.mpr ⟨by decide +kernel, rfl⟩
theorem iX6_grow : Jvm.Cond.instanceMethod yX6_grow ∈ qm_all ∧ Jvm.Cond.selects yX6_grow.cls yX6_grow yX6_grow ∈ qm_all := ⟨List.mem_filter.mpr ⟨by decide +kernel, rfl⟩, List.mem_filter.mpr ⟨by decide +kernel, rfl⟩⟩
def wX6_grow : qm_C := fun vs h => match vs with
  | [.inr (.inr (some (0, 6, p0))), .inl p1, .inl p2] => (qX6_grow p0 p1 p2 h).map qm_Gi
  | _ => none
def aX6_grow : List (Option (Instr × Nat)) := [some (.aload_n 0, 1), some (.getfield 12, 3), none, none, some (.iload_n 1, 1), some (.iload_n 2, 1), some (.invokevirtual 83, 3), none, none, some (.ifCond .ne 5, 3), none, none, some (.iconst 0, 1), some (.ireturn, 1), some (.bipush 8, 2), none, some (.iload_n 1, 1), some (.imul, 1), some (.iload_n 2, 1), some (.iadd, 1), some (.istore_n 3, 1), some (.aload_n 0, 1), some (.getfield 12, 3), none, none, some (.getfield 86, 3), none, none, some (.iload_n 3, 1), some (.iaload, 1), some (.bipush 9, 2), none, some (.if_icmp .lt 5, 3), none, none, some (.iconst 0, 1), some (.ireturn, 1), some (.aload_n 0, 1), some (.getfield 12, 3), none, none, some (.iload_n 1, 1), some (.iload_n 2, 1), some (.aload_n 0, 1), some (.getfield 12, 3), none, none, some (.getfield 86, 3), none, none, some (.iload_n 3, 1), some (.iaload, 1), some (.iconst 1, 1), some (.iadd, 1), some (.aload_n 0, 1), some (.getfield 12, 3), none, none, some (.getfield 94, 3), none, none, some (.iload_n 3, 1), some (.iaload, 1), some (.invokevirtual 90, 3), none, none, some (.iconst 1, 1), some (.ireturn, 1)]
theorem aX6_grow_ok : qm_tabok cX6_grow aX6_grow = true := by decide +kernel
def mX6_grow : qm_M := ((some .boolean), (fun k => qm_lk k pfRX6), (fun k => qm_lk k pcRX6), (fun k => qm_lk k [(83, 0, 3, wX0_hasTwig), (90, 0, 5, wX0_setTwig)]), qm_tab aX6_grow)
set_option maxRecDepth 20000 in
set_option maxHeartbeats 2000000 in
theorem rX6_grow_0   {a0 : Nat} {x1 : Int32} {x2 : Int32} {h : qm_H} {r : Int32 × qm_H} (ho : qX6_grow  a0 x1 x2 h = some r) : qm_Ret mX6_grow (0, [some (qm_r 0 6 a0), some (qm_i x1), some (qm_i x2), none], [], h) (qm_Gi r) := by
  unfold qX6_grow at ho
  refine qm_Ret.sts 4 (f' := (6, [some (qm_r 0 6 a0), some (qm_i x1), some (qm_i x2), none], [qm_i x2, qm_i x1, qm_r 0 0 (a0 + 1)], h)) rfl ?_
  obtain ⟨r2, h1, hr, ho⟩ := qm_b2e ho
  refine qm_Ret.call (X := wX0_hasTwig [qm_r 0 0 (a0 + 1), qm_i x1, qm_i x2] h) (o1 := (some (qm_i r2), h1)) (qm_mp (G := qm_Gi) hr) rfl ?_
  show qm_Ret _ (9, [some (qm_r 0 6 a0), some (qm_i x1), some (qm_i x2), none], [qm_i r2], h1) _
  refine qm_Ret.ne (t := 14) (e := 12) rfl (fun hc => ?_) (fun hc => ?_)
  · rw [if_pos hc] at ho
    cases ho
    exact qm_Ret.ret 2 rfl
  · rw [if_neg hc] at ho
    refine qm_Ret.sts 5 (f' := (20, [some (qm_r 0 6 a0), some (qm_i x1), some (qm_i x2), none], [qm_i (((8 : Int32) * x1) + x2)], h1)) rfl ?_
    refine qm_Ret.lets (F := fun v3 => (20, [some (qm_r 0 6 a0), some (qm_i x1), some (qm_i x2), none], [qm_i v3], h1)) (G := qm_Gi) ho (fun v3 ho => ?_)
    refine qm_Ret.sts 5 (f' := (29, [some (qm_r 0 6 a0), some (qm_i x1), some (qm_i x2), some (qm_i v3)], [qm_i v3, qm_r 1 16 ((a0 + 1) + 1)], h1)) rfl ?_
    obtain ⟨hg, ho⟩ := qm_ifn ho
    refine qm_Ret.gn (f1 := (30, [some (qm_r 0 6 a0), some (qm_i x1), some (qm_i x2), some (qm_i v3)], [qm_i (h1.1 ((a0 + 1) + 1) (v3).toNatClampNeg)], h1)) hg rfl ?_
    refine qm_Ret.sts 1 (f' := (32, [some (qm_r 0 6 a0), some (qm_i x1), some (qm_i x2), some (qm_i v3)], [qm_i (9 : Int32), qm_i (h1.1 ((a0 + 1) + 1) (v3).toNatClampNeg)], h1)) rfl ?_
    refine qm_Ret.lt (t := 37) (e := 35) rfl (fun hc => ?_) (fun hc => ?_)
    · rw [if_pos hc] at ho
      refine qm_Ret.sts 8 (f' := (51, [some (qm_r 0 6 a0), some (qm_i x1), some (qm_i x2), some (qm_i v3)], [qm_i v3, qm_r 1 16 ((a0 + 1) + 1), qm_i x2, qm_i x1, qm_r 0 0 (a0 + 1)], h1)) rfl ?_
      obtain ⟨hg, ho⟩ := qm_ifn ho
      refine qm_Ret.gn (f1 := (52, [some (qm_r 0 6 a0), some (qm_i x1), some (qm_i x2), some (qm_i v3)], [qm_i (h1.1 ((a0 + 1) + 1) (v3).toNatClampNeg), qm_i x2, qm_i x1, qm_r 0 0 (a0 + 1)], h1)) hg rfl ?_
      refine qm_Ret.sts 6 (f' := (62, [some (qm_r 0 6 a0), some (qm_i x1), some (qm_i x2), some (qm_i v3)], [qm_i v3, qm_r 1 16 ((a0 + 1) + 2), qm_i ((h1.1 ((a0 + 1) + 1) (v3).toNatClampNeg) + (1 : Int32)), qm_i x2, qm_i x1, qm_r 0 0 (a0 + 1)], h1)) rfl ?_
      obtain ⟨hg, ho⟩ := qm_ifn ho
      refine qm_Ret.gn (f1 := (63, [some (qm_r 0 6 a0), some (qm_i x1), some (qm_i x2), some (qm_i v3)], [qm_i (h1.1 ((a0 + 1) + 2) (v3).toNatClampNeg), qm_i ((h1.1 ((a0 + 1) + 1) (v3).toNatClampNeg) + (1 : Int32)), qm_i x2, qm_i x1, qm_r 0 0 (a0 + 1)], h1)) hg rfl ?_
      obtain ⟨h4, hr, ho⟩ := qm_bd ho
      refine qm_Ret.call (X := wX0_setTwig [qm_r 0 0 (a0 + 1), qm_i x1, qm_i x2, qm_i ((h1.1 ((a0 + 1) + 1) (v3).toNatClampNeg) + (1 : Int32)), qm_i (h1.1 ((a0 + 1) + 2) (v3).toNatClampNeg)] h1) (o1 := (none, h4)) (qm_mp (G := qm_Gv) hr) rfl ?_
      show qm_Ret _ (66, [some (qm_r 0 6 a0), some (qm_i x1), some (qm_i x2), some (qm_i v3)], [], h4) _
      cases ho
      exact qm_Ret.ret 2 rfl
    · rw [if_neg hc] at ho
      cases ho
      exact qm_Ret.ret 2 rfl
theorem cX6_grow_ok : ∀ q ∈ ([(83, 0, 3, wX0_hasTwig), (90, 0, 5, wX0_setTwig)] : List (Nat × Nat × Nat × qm_C)), qm_CallOK RX6 1 25 q.2.1 q.1 q.2.2.1 q.2.2.2 := List.forall_mem_cons.mpr ⟨Or.inl ⟨yX0_hasTwig, cX0_hasTwig, 3, (some .boolean), 0, 0, _, sX0_hasTwig, ⟨by decide, by decide⟩, ⟨jX0_hasTwig, kRX6_83, uRX0⟩, ⟨by decide, by decide, rfl⟩, Or.inl ⟨rfl, rfl, iX0_hasTwig, recvX0_hasTwig⟩⟩, List.forall_mem_cons.mpr ⟨Or.inl ⟨yX0_setTwig, cX0_setTwig, 6, none, 0, 0, _, sX0_setTwig, ⟨by decide, by decide⟩, ⟨jX0_setTwig, kRX6_90, uRX0⟩, ⟨by decide, by decide, rfl⟩, Or.inl ⟨rfl, rfl, iX0_setTwig, recvX0_setTwig⟩⟩, fun _ h => absurd h List.not_mem_nil⟩⟩
theorem sX6_grow : qm_Snd yX6_grow cX6_grow 4 (some .boolean) 1 25 wX6_grow := qm_met (fld := fun k => qm_lk k pfRX6) (con := fun k => qm_lk k pcRX6) (call := fun k => qm_lk k [(83, 0, 3, wX0_hasTwig), (90, 0, 5, wX0_setTwig)]) (tab := qm_tab aX6_grow) (plainFor_of_name (by decide)) (qm_fld_ok pfRX6_ok) (qm_con_ok pcRX6_ok) (fun idx kd n f hc => cX6_grow_ok (idx, kd, n, f) (qm_lk_mem hc)) (qm_tab_ok aX6_grow_ok) (fun vs h o hw => by
  unfold wX6_grow at hw
  split at hw
  · obtain ⟨r, hr, rfl⟩ := Option.map_eq_some_iff.mp hw
    exact ⟨Nat.le_of_ble_eq_true rfl, rX6_grow_0 (hr)⟩
  · cases hw)
theorem recvX6_grow : ∀ vs h o, wX6_grow vs h = some o → ∃ ci a rest, vs = qm_r 0 ci a :: rest ∧ qm_R ci = yX6_grow.cls := by
  intro vs h o hw
  unfold wX6_grow at hw
  split at hw
  · exact ⟨_, _, _, rfl, rfl⟩
  · cases hw
-- RX6 weave(II)Z
theorem jX6_weave : Jvm.Cond.code yX6_weave cX6_weave 4 (some .boolean) ∈ qm_all := List.mem_filter.mpr ⟨by decide +kernel, rfl⟩
theorem iX6_weave : Jvm.Cond.instanceMethod yX6_weave ∈ qm_all ∧ Jvm.Cond.selects yX6_weave.cls yX6_weave yX6_weave ∈ qm_all := ⟨List.mem_filter.mpr ⟨by decide +kernel, rfl⟩, List.mem_filter.mpr ⟨by decide +kernel, rfl⟩⟩
def wX6_weave : qm_C := fun vs h => match vs with
  | [.inr (.inr (some (0, 6, p0))), .inl p1, .inl p2] => (qX6_weave p0 p1 p2 h).map qm_Gi
  | _ => none
def aX6_weave : List (Option (Instr × Nat)) := [some (.iload_n 1, 1), some (.ifCond .lt 33, 3), none, none, some (.iload_n 1, 1), some (.aload_n 0, 1), some (.getfield 12, 3), none, none, some (.getfield 97, 3), none, none, some (.if_icmp .ge 22, 3), none, none, some (.iload_n 2, 1), some (.ifCond .lt 18, 3), none, none, some (.iload_n 2, 1), some (.aload_n 0, 1), some (.getfield 12, 3), none, none, some (.getfield 100, 3), none, none, some (.if_icmp .ge 7, 3), none, none, some (.iconst 1, 1), some (.goto 4, 3), none, none, some (.iconst 0, 1), some (.istore_n 3, 1), some (.iload_n 3, 1), some (.ifCond .eq 15, 3), none, none, some (.aload_n 0, 1), some (.getfield 12, 3), none, none, some (.iload_n 2, 1), some (.iload_n 1, 1), some (.invokevirtual 103, 3), none, none, some (.ifCond .ne 5, 3), none, none, some (.iconst 0, 1), some (.ireturn, 1), some (.aload_n 0, 1), some (.getfield 12, 3), none, none, some (.dup, 1), some (.getfield 106, 3), none, none, some (.iload_n 2, 1), some (.iload_n 1, 1), some (.invokestatic 110, 3), none, none, some (.ldc2_w 114, 3), none, none, some (.lxor, 1), some (.land, 1), some (.putfield 106, 3), none, none, some (.iconst 1, 1), some (.ireturn, 1)]
theorem aX6_weave_ok : qm_tabok cX6_weave aX6_weave = true := by decide +kernel
def mX6_weave : qm_M := ((some .boolean), (fun k => qm_lk k pfRX6), (fun k => qm_lk k pcRX6), (fun k => qm_lk k [(103, 0, 3, wX0_isOpen), (110, 2, 2, wX0_bit)]), qm_tab aX6_weave)
set_option maxRecDepth 20000 in
set_option maxHeartbeats 2000000 in
theorem rX6_weave_35   {a0 : Nat} {x1 : Int32} {x2 : Int32} {xs0 : Int32} {h : qm_H} {r : Int32 × qm_H} (ho : qX6_weave_35  a0 x1 x2 xs0 h = some r) : qm_Ret mX6_weave (35, [some (qm_r 0 6 a0), some (qm_i x1), some (qm_i x2), none], [qm_i xs0], h) (qm_Gi r) := by
  unfold qX6_weave_35 at ho
  refine qm_Ret.sts 2 (f' := (37, [some (qm_r 0 6 a0), some (qm_i x1), some (qm_i x2), some (qm_i xs0)], [qm_i xs0], h)) rfl ?_
  refine qm_Ret.eq (t := 52) (e := 40) rfl (fun hc => ?_) (fun hc => ?_)
  · rw [if_pos hc] at ho
    cases ho
    exact qm_Ret.ret 2 rfl
  · rw [if_neg hc] at ho
    refine qm_Ret.sts 4 (f' := (46, [some (qm_r 0 6 a0), some (qm_i x1), some (qm_i x2), some (qm_i xs0)], [qm_i x1, qm_i x2, qm_r 0 0 (a0 + 1)], h)) rfl ?_
    obtain ⟨r2, h1, hr, ho⟩ := qm_b2e ho
    refine qm_Ret.call (X := wX0_isOpen [qm_r 0 0 (a0 + 1), qm_i x2, qm_i x1] h) (o1 := (some (qm_i r2), h1)) (qm_mp (G := qm_Gi) hr) rfl ?_
    show qm_Ret _ (49, [some (qm_r 0 6 a0), some (qm_i x1), some (qm_i x2), some (qm_i xs0)], [qm_i r2], h1) _
    refine qm_Ret.ne (t := 54) (e := 52) rfl (fun hc => ?_) (fun hc => ?_)
    · rw [if_pos hc] at ho
      cases ho
      exact qm_Ret.ret 2 rfl
    · rw [if_neg hc] at ho
      refine qm_Ret.sts 6 (f' := (64, [some (qm_r 0 6 a0), some (qm_i x1), some (qm_i x2), some (qm_i xs0)], [qm_i x1, qm_i x2, qm_l (h1.2 (a0 + 1) 6), qm_r 0 0 (a0 + 1)], h1)) rfl ?_
      obtain ⟨r4, h3, hr, ho⟩ := qm_b2e ho
      refine qm_Ret.call (X := wX0_bit [qm_i x2, qm_i x1] h1) (o1 := (some (qm_l r4), h3)) (qm_mp (G := qm_Gl) hr) rfl ?_
      show qm_Ret _ (67, [some (qm_r 0 6 a0), some (qm_i x1), some (qm_i x2), some (qm_i xs0)], [qm_l r4, qm_l (h1.2 (a0 + 1) 6), qm_r 0 0 (a0 + 1)], h3) _
      refine qm_Ret.sts 4 (f' := (75, [some (qm_r 0 6 a0), some (qm_i x1), some (qm_i x2), some (qm_i xs0)], [], (qm_setl h3 (a0 + 1) 6 ((h1.2 (a0 + 1) 6) &&& (r4 ^^^ (-1 : Int64)))))) rfl ?_
      refine qm_Ret.lets (F := fun h5 => (75, [some (qm_r 0 6 a0), some (qm_i x1), some (qm_i x2), some (qm_i xs0)], [], h5)) (G := qm_Gi) ho (fun h5 ho => ?_)
      cases ho
      exact qm_Ret.ret 2 rfl
set_option maxRecDepth 20000 in
set_option maxHeartbeats 2000000 in
theorem rX6_weave_0   {a0 : Nat} {x1 : Int32} {x2 : Int32} {h : qm_H} {r : Int32 × qm_H} (ho : qX6_weave  a0 x1 x2 h = some r) : qm_Ret mX6_weave (0, [some (qm_r 0 6 a0), some (qm_i x1), some (qm_i x2), none], [], h) (qm_Gi r) := by
  unfold qX6_weave at ho
  refine qm_Ret.sts 1 (f' := (1, [some (qm_r 0 6 a0), some (qm_i x1), some (qm_i x2), none], [qm_i x1], h)) rfl ?_
  refine qm_Ret.lt (t := 34) (e := 4) rfl (fun hc => ?_) (fun hc => ?_)
  · rw [if_pos hc] at ho
    refine qm_Ret.sts 1 (f' := (35, [some (qm_r 0 6 a0), some (qm_i x1), some (qm_i x2), none], [qm_i (0 : Int32)], h)) rfl ?_
    exact rX6_weave_35 ho
  · rw [if_neg hc] at ho
    refine qm_Ret.sts 4 (f' := (12, [some (qm_r 0 6 a0), some (qm_i x1), some (qm_i x2), none], [qm_i (h.1 (a0 + 1) 3), qm_i x1], h)) rfl ?_
    refine qm_Ret.ge (t := 34) (e := 15) rfl (fun hc => ?_) (fun hc => ?_)
    · rw [if_pos hc] at ho
      refine qm_Ret.sts 1 (f' := (16, [some (qm_r 0 6 a0), some (qm_i x1), some (qm_i x2), none], [qm_i x2], h)) rfl ?_
      refine qm_Ret.lt (t := 34) (e := 19) rfl (fun hc => ?_) (fun hc => ?_)
      · rw [if_pos hc] at ho
        refine qm_Ret.sts 1 (f' := (35, [some (qm_r 0 6 a0), some (qm_i x1), some (qm_i x2), none], [qm_i (0 : Int32)], h)) rfl ?_
        exact rX6_weave_35 ho
      · rw [if_neg hc] at ho
        refine qm_Ret.sts 4 (f' := (27, [some (qm_r 0 6 a0), some (qm_i x1), some (qm_i x2), none], [qm_i (h.1 (a0 + 1) 4), qm_i x2], h)) rfl ?_
        refine qm_Ret.ge (t := 34) (e := 30) rfl (fun hc => ?_) (fun hc => ?_)
        · rw [if_pos hc] at ho
          refine qm_Ret.sts 2 (f' := (35, [some (qm_r 0 6 a0), some (qm_i x1), some (qm_i x2), none], [qm_i (1 : Int32)], h)) rfl ?_
          exact rX6_weave_35 ho
        · rw [if_neg hc] at ho
          refine qm_Ret.sts 1 (f' := (35, [some (qm_r 0 6 a0), some (qm_i x1), some (qm_i x2), none], [qm_i (0 : Int32)], h)) rfl ?_
          exact rX6_weave_35 ho
    · rw [if_neg hc] at ho
      refine qm_Ret.sts 1 (f' := (35, [some (qm_r 0 6 a0), some (qm_i x1), some (qm_i x2), none], [qm_i (0 : Int32)], h)) rfl ?_
      exact rX6_weave_35 ho
theorem cX6_weave_ok : ∀ q ∈ ([(103, 0, 3, wX0_isOpen), (110, 2, 2, wX0_bit)] : List (Nat × Nat × Nat × qm_C)), qm_CallOK RX6 2 43 q.2.1 q.1 q.2.2.1 q.2.2.2 := List.forall_mem_cons.mpr ⟨Or.inl ⟨yX0_isOpen, cX0_isOpen, 3, (some .boolean), 1, 21, _, sX0_isOpen, ⟨by decide, by decide⟩, ⟨jX0_isOpen, kRX6_103, uRX0⟩, ⟨by decide, by decide, rfl⟩, Or.inl ⟨rfl, rfl, iX0_isOpen, recvX0_isOpen⟩⟩, List.forall_mem_cons.mpr ⟨Or.inl ⟨yX0_bit, cX0_bit, 2, (some .long), 0, 0, _, sX0_bit, ⟨by decide, by decide⟩, ⟨jX0_bit, kRX6_110, uRX0⟩, ⟨by decide, by decide, rfl⟩, Or.inr (Or.inl ⟨rfl, rfl, iX0_bit⟩)⟩, fun _ h => absurd h List.not_mem_nil⟩⟩
theorem sX6_weave : qm_Snd yX6_weave cX6_weave 4 (some .boolean) 2 43 wX6_weave := qm_met (fld := fun k => qm_lk k pfRX6) (con := fun k => qm_lk k pcRX6) (call := fun k => qm_lk k [(103, 0, 3, wX0_isOpen), (110, 2, 2, wX0_bit)]) (tab := qm_tab aX6_weave) (plainFor_of_name (by decide)) (qm_fld_ok pfRX6_ok) (qm_con_ok pcRX6_ok) (fun idx kd n f hc => cX6_weave_ok (idx, kd, n, f) (qm_lk_mem hc)) (qm_tab_ok aX6_weave_ok) (fun vs h o hw => by
  unfold wX6_weave at hw
  split at hw
  · obtain ⟨r, hr, rfl⟩ := Option.map_eq_some_iff.mp hw
    exact ⟨Nat.le_of_ble_eq_true rfl, rX6_weave_0 (hr)⟩
  · cases hw)
theorem recvX6_weave : ∀ vs h o, wX6_weave vs h = some o → ∃ ci a rest, vs = qm_r 0 ci a :: rest ∧ qm_R ci = yX6_weave.cls := by
  intro vs h o hw
  unfold wX6_weave at hw
  split at hw
  · exact ⟨_, _, _, rfl, rfl⟩
  · cases hw
-- RX6 winter()V
theorem jX6_winter : Jvm.Cond.code yX6_winter cX6_winter 2 none ∈ qm_all := List.mem_filter.mpr ⟨by decide +kernel, rfl⟩
theorem iX6_winter : Jvm.Cond.instanceMethod yX6_winter ∈ qm_all ∧ Jvm.Cond.selects yX6_winter.cls yX6_winter yX6_winter ∈ qm_all := ⟨List.mem_filter.mpr ⟨by decide +kernel, rfl⟩, List.mem_filter.mpr ⟨by decide +kernel, rfl⟩⟩
def wX6_winter : qm_C := fun vs h => match vs with
  | [.inr (.inr (some (0, 6, p0)))] => (qX6_winter p0 h).map qm_Gv
  | _ => none
def aX6_winter : List (Option (Instr × Nat)) := [some (.iconst 0, 1), some (.istore_n 1, 1), some (.iload_n 1, 1), some (.bipush 16, 2), none, some (.if_icmp .ge 34, 3), none, none, some (.aload_n 0, 1), some (.getfield 12, 3), none, none, some (.getfield 94, 3), none, none, some (.iload_n 1, 1), some (.bipush 9, 2), none, some (.aload_n 0, 1), some (.getfield 12, 3), none, none, some (.getfield 94, 3), none, none, some (.iload_n 1, 1), some (.iaload, 1), some (.iconst 1, 1), some (.iadd, 1), some (.invokestatic 116, 3), none, none, some (.iastore, 1), some (.iinc 1 1, 3), none, none, some (.goto (-34), 3), none, none, some (.return_, 1)]
theorem aX6_winter_ok : qm_tabok cX6_winter aX6_winter = true := by decide +kernel
def mX6_winter : qm_M := (none, (fun k => qm_lk k pfRX6), (fun k => qm_lk k pcRX6), (fun k => qm_lk k [(116, 2, 2, wJ9_min_7cf53)]), qm_tab aX6_winter)
set_option maxRecDepth 20000 in
set_option maxHeartbeats 2000000 in
theorem rX6_winter_2   : ∀ {fuel : Nat} {a0 : Nat} {x1 : Int32} {h : qm_H} {r : qm_H}, qX6_winter_2  fuel a0 x1 h = some r → qm_Ret mX6_winter (2, [some (qm_r 0 6 a0), some (qm_i x1)], [], h) (qm_Gv r) := by
  intro fuel
  induction fuel with
  | zero => intros; rename_i ho; cases ho
  | succ n ih =>
    intro a0 x1 h r ho
    unfold qX6_winter_2 at ho
    refine qm_Ret.sts 2 (f' := (5, [some (qm_r 0 6 a0), some (qm_i x1)], [qm_i (16 : Int32), qm_i x1], h)) rfl ?_
    refine qm_Ret.ge (t := 39) (e := 8) rfl (fun hc => ?_) (fun hc => ?_)
    · rw [if_pos hc] at ho
      refine qm_Ret.sts 9 (f' := (26, [some (qm_r 0 6 a0), some (qm_i x1)], [qm_i x1, qm_r 1 16 ((a0 + 1) + 2), qm_i (9 : Int32), qm_i x1, qm_r 1 16 ((a0 + 1) + 2)], h)) rfl ?_
      obtain ⟨hg, ho⟩ := qm_ifn ho
      refine qm_Ret.gn (f1 := (27, [some (qm_r 0 6 a0), some (qm_i x1)], [qm_i (h.1 ((a0 + 1) + 2) (x1).toNatClampNeg), qm_i (9 : Int32), qm_i x1, qm_r 1 16 ((a0 + 1) + 2)], h)) hg rfl ?_
      refine qm_Ret.sts 2 (f' := (29, [some (qm_r 0 6 a0), some (qm_i x1)], [qm_i ((h.1 ((a0 + 1) + 2) (x1).toNatClampNeg) + (1 : Int32)), qm_i (9 : Int32), qm_i x1, qm_r 1 16 ((a0 + 1) + 2)], h)) rfl ?_
      obtain ⟨r2, h1, hr, ho⟩ := qm_b2e ho
      refine qm_Ret.call (X := wJ9_min_7cf53 [qm_i (9 : Int32), qm_i ((h.1 ((a0 + 1) + 2) (x1).toNatClampNeg) + (1 : Int32))] h) (o1 := (some (qm_i r2), h1)) (qm_mp (G := qm_Gi) hr) rfl ?_
      show qm_Ret _ (32, [some (qm_r 0 6 a0), some (qm_i x1)], [qm_i r2, qm_i x1, qm_r 1 16 ((a0 + 1) + 2)], h1) _
      obtain ⟨hg, ho⟩ := qm_ifn ho
      refine qm_Ret.gn (f1 := (33, [some (qm_r 0 6 a0), some (qm_i x1)], [], (qm_seti h1 ((a0 + 1) + 2) (x1).toNatClampNeg r2))) hg rfl ?_
      refine qm_Ret.lets (F := fun h3 => (33, [some (qm_r 0 6 a0), some (qm_i x1)], [], h3)) (G := qm_Gv) ho (fun h3 ho => ?_)
      refine qm_Ret.sts 2 (f' := (2, [some (qm_r 0 6 a0), some (qm_i (x1 + (1 : Int32)))], [], h3)) rfl ?_
      exact ih ho
    · rw [if_neg hc] at ho
      cases ho
      exact qm_Ret.ret 1 rfl
set_option maxRecDepth 20000 in
set_option maxHeartbeats 2000000 in
theorem rX6_winter_0   {a0 : Nat} {h : qm_H} {r : qm_H} (ho : qX6_winter  a0 h = some r) : qm_Ret mX6_winter (0, [some (qm_r 0 6 a0), none], [], h) (qm_Gv r) := by
  unfold qX6_winter at ho
  refine qm_Ret.sts 2 (f' := (2, [some (qm_r 0 6 a0), some (qm_i (0 : Int32))], [], h)) rfl ?_
  exact rX6_winter_2 ho
theorem cX6_winter_ok : ∀ q ∈ ([(116, 2, 2, wJ9_min_7cf53)] : List (Nat × Nat × Nat × qm_C)), qm_CallOK RX6 1 21 q.2.1 q.1 q.2.2.1 q.2.2.2 := List.forall_mem_cons.mpr ⟨Or.inl ⟨yJ9_min_7cf53, cJ9_min_7cf53, 2, (some .int), 0, 0, _, sJ9_min_7cf53, ⟨by decide, by decide⟩, ⟨jJ9_min_7cf53, kRX6_116, uRJ9⟩, ⟨by decide, by decide, rfl⟩, Or.inr (Or.inl ⟨rfl, rfl, iJ9_min_7cf53⟩)⟩, fun _ h => absurd h List.not_mem_nil⟩
theorem sX6_winter : qm_Snd yX6_winter cX6_winter 2 none 1 21 wX6_winter := qm_met (fld := fun k => qm_lk k pfRX6) (con := fun k => qm_lk k pcRX6) (call := fun k => qm_lk k [(116, 2, 2, wJ9_min_7cf53)]) (tab := qm_tab aX6_winter) (plainFor_of_name (by decide)) (qm_fld_ok pfRX6_ok) (qm_con_ok pcRX6_ok) (fun idx kd n f hc => cX6_winter_ok (idx, kd, n, f) (qm_lk_mem hc)) (qm_tab_ok aX6_winter_ok) (fun vs h o hw => by
  unfold wX6_winter at hw
  split at hw
  · obtain ⟨r, hr, rfl⟩ := Option.map_eq_some_iff.mp hw
    exact ⟨Nat.le_of_ble_eq_true rfl, rX6_winter_0 (hr)⟩
  · cases hw)
theorem recvX6_winter : ∀ vs h o, wX6_winter vs h = some o → ∃ ci a rest, vs = qm_r 0 ci a :: rest ∧ qm_R ci = yX6_winter.cls := by
  intro vs h o hw
  unfold wX6_winter at hw
  split at hw
  · exact ⟨_, _, _, rfl, rfl⟩
  · cases hw
-- RX6 turn(Z)Z
theorem jX6_turn : Jvm.Cond.code yX6_turn cX6_turn 2 (some .boolean) ∈ qm_all := List.mem_filter.mpr ⟨by decide +kernel, rfl⟩
theorem iX6_turn : Jvm.Cond.instanceMethod yX6_turn ∈ qm_all ∧ Jvm.Cond.selects yX6_turn.cls yX6_turn yX6_turn ∈ qm_all := ⟨List.mem_filter.mpr ⟨by decide +kernel, rfl⟩, List.mem_filter.mpr ⟨by decide +kernel, rfl⟩⟩
def wX6_turn : qm_C := fun vs h => match vs with
  | [.inr (.inr (some (0, 6, p0))), .inl p1] => (qX6_turn p0 p1 h).map qm_Gi
  | _ => none
def aX6_turn : List (Option (Instr × Nat)) := [some (.aload_n 0, 1), some (.getfield 12, 3), none, none, some (.getfield 121, 3), none, none, some (.iload_n 1, 1), some (.if_icmp .ne 5, 3), none, none, some (.iconst 0, 1), some (.ireturn, 1), some (.aload_n 0, 1), some (.getfield 12, 3), none, none, some (.iload_n 1, 1), some (.putfield 121, 3), none, none, some (.iconst 1, 1), some (.ireturn, 1)]
theorem aX6_turn_ok : qm_tabok cX6_turn aX6_turn = true := by decide +kernel
def mX6_turn : qm_M := ((some .boolean), (fun k => qm_lk k pfRX6), (fun k => qm_lk k pcRX6), (fun k => qm_lk k []), qm_tab aX6_turn)
set_option maxRecDepth 20000 in
set_option maxHeartbeats 2000000 in
theorem rX6_turn_0   {a0 : Nat} {x1 : Int32} {h : qm_H} {r : Int32 × qm_H} (ho : qX6_turn  a0 x1 h = some r) : qm_Ret mX6_turn (0, [some (qm_r 0 6 a0), some (qm_i x1)], [], h) (qm_Gi r) := by
  unfold qX6_turn at ho
  refine qm_Ret.sts 4 (f' := (8, [some (qm_r 0 6 a0), some (qm_i x1)], [qm_i x1, qm_i (h.1 (a0 + 1) 5)], h)) rfl ?_
  refine qm_Ret.ne (t := 13) (e := 11) rfl (fun hc => ?_) (fun hc => ?_)
  · rw [if_pos hc] at ho
    cases ho
    exact qm_Ret.ret 2 rfl
  · rw [if_neg hc] at ho
    refine qm_Ret.sts 3 (f' := (18, [some (qm_r 0 6 a0), some (qm_i x1)], [qm_i x1, qm_r 0 0 (a0 + 1)], h)) rfl ?_
    obtain ⟨hg, ho⟩ := qm_if ho
    refine qm_Ret.gd (f1 := (21, [some (qm_r 0 6 a0), some (qm_i x1)], [], (qm_seti h (a0 + 1) 5 x1))) ⟨rfl, Or.inr ⟨rfl, hg⟩⟩ rfl ?_
    refine qm_Ret.lets (F := fun h1 => (21, [some (qm_r 0 6 a0), some (qm_i x1)], [], h1)) (G := qm_Gi) ho (fun h1 ho => ?_)
    cases ho
    exact qm_Ret.ret 2 rfl
theorem cX6_turn_ok : ∀ q ∈ ([] : List (Nat × Nat × Nat × qm_C)), qm_CallOK RX6 0 0 q.2.1 q.1 q.2.2.1 q.2.2.2 := fun _ h => absurd h List.not_mem_nil
theorem sX6_turn : qm_Snd yX6_turn cX6_turn 2 (some .boolean) 0 0 wX6_turn := qm_met (fld := fun k => qm_lk k pfRX6) (con := fun k => qm_lk k pcRX6) (call := fun k => qm_lk k []) (tab := qm_tab aX6_turn) (plainFor_of_name (by decide)) (qm_fld_ok pfRX6_ok) (qm_con_ok pcRX6_ok) (fun idx kd n f hc => cX6_turn_ok (idx, kd, n, f) (qm_lk_mem hc)) (qm_tab_ok aX6_turn_ok) (fun vs h o hw => by
  unfold wX6_turn at hw
  split at hw
  · obtain ⟨r, hr, rfl⟩ := Option.map_eq_some_iff.mp hw
    exact ⟨Nat.le_of_ble_eq_true rfl, rX6_turn_0 (hr)⟩
  · cases hw)
theorem recvX6_turn : ∀ vs h o, wX6_turn vs h = some o → ∃ ci a rest, vs = qm_r 0 ci a :: rest ∧ qm_R ci = yX6_turn.cls := by
  intro vs h o hw
  unfold wX6_turn at hw
  split at hw
  · exact ⟨_, _, _, rfl, rfl⟩
  · cases hw
-- RX6 happens(LWillowLaw$Year;I)Z
theorem jX6_happens : Jvm.Cond.code yX6_happens cX6_happens 5 (some .boolean) ∈ qm_all := List.mem_filter.mpr ⟨by decide +kernel, rfl⟩
theorem iX6_happens : Jvm.Cond.instanceMethod yX6_happens ∈ qm_all ∧ Jvm.Cond.selects yX6_happens.cls yX6_happens yX6_happens ∈ qm_all := ⟨List.mem_filter.mpr ⟨by decide +kernel, rfl⟩, List.mem_filter.mpr ⟨by decide +kernel, rfl⟩⟩
def wX6_happens : qm_C := fun vs h => match vs with
  | [.inr (.inr (some (0, 6, p0))), .inr (.inr (some (0, 10, p1))), .inl p2] => (qX6_happens p0 p1 p2 h).map qm_Gi
  | _ => none
def aX6_happens : List (Option (Instr × Nat)) := [some (.aload_n 1, 1), some (.iload_n 2, 1), some (.invokevirtual 39, 3), none, none, some (.ifCond .ne 5, 3), none, none, some (.iconst 0, 1), some (.ireturn, 1), some (.aload_n 1, 1), some (.iload_n 2, 1), some (.iconst 1, 1), some (.invokevirtual 45, 3), none, none, some (.istore_n 3, 1), some (.aload_n 1, 1), some (.iload_n 2, 1), some (.iconst 2, 1), some (.invokevirtual 45, 3), none, none, some (.istore 4, 2), none, some (.aload_n 1, 1), some (.iload_n 2, 1), some (.iconst 0, 1), some (.invokevirtual 45, 3), none, none, some (.tableswitch 88 0 5 #[37, 52, 60, 68, 76, 82], 37), none, none, none, none, none, none, none, none, none, none, none, none, none, none, none, none, none, none, none, none, none, none, none, none, none, none, none, none, none, none, none, none, none, none, none, none, some (.aload_n 0, 1), some (.iload_n 3, 1), some (.iload 4, 2), none, some (.aload_n 1, 1), some (.iload_n 2, 1), some (.iconst 3, 1), some (.invokevirtual 45, 3), none, none, some (.invokevirtual 49, 3), none, none, some (.iconst 1, 1), some (.ireturn, 1), some (.aload_n 0, 1), some (.iload_n 3, 1), some (.iload 4, 2), none, some (.invokevirtual 53, 3), none, none, some (.ireturn, 1), some (.aload_n 0, 1), some (.iload_n 3, 1), some (.iload 4, 2), none, some (.invokevirtual 57, 3), none, none, some (.ireturn, 1), some (.aload_n 0, 1), some (.iload_n 3, 1), some (.iload 4, 2), none, some (.invokevirtual 60, 3), none, none, some (.ireturn, 1), some (.aload_n 0, 1), some (.invokevirtual 63, 3), none, none, some (.iconst 1, 1), some (.ireturn, 1), some (.aload_n 0, 1), some (.iconst 1, 1), some (.invokevirtual 66, 3), none, none, some (.ireturn, 1), some (.aload_n 0, 1), some (.iconst 0, 1), some (.invokevirtual 66, 3), none, none, some (.ireturn, 1)]
theorem aX6_happens_ok : qm_tabok cX6_happens aX6_happens = true := by decide +kernel
def mX6_happens : qm_M := ((some .boolean), (fun k => qm_lk k pfRX6), (fun k => qm_lk k pcRX6), (fun k => qm_lk k [(39, 0, 2, wX10_has), (45, 0, 3, wX10_part), (49, 0, 4, wX6_strike), (53, 0, 3, wX6_mend), (57, 0, 3, wX6_grow), (60, 0, 3, wX6_weave), (63, 0, 1, wX6_winter), (66, 0, 2, wX6_turn)]), qm_tab aX6_happens)
set_option maxRecDepth 20000 in
set_option maxHeartbeats 2000000 in
theorem rX6_happens_0   {a0 : Nat} {a1 : Nat} {x2 : Int32} {h : qm_H} {r : Int32 × qm_H} (ho : qX6_happens  a0 a1 x2 h = some r) : qm_Ret mX6_happens (0, [some (qm_r 0 6 a0), some (qm_r 0 10 a1), some (qm_i x2), none, none], [], h) (qm_Gi r) := by
  unfold qX6_happens at ho
  refine qm_Ret.sts 2 (f' := (2, [some (qm_r 0 6 a0), some (qm_r 0 10 a1), some (qm_i x2), none, none], [qm_i x2, qm_r 0 10 a1], h)) rfl ?_
  obtain ⟨r2, h1, hr, ho⟩ := qm_b2e ho
  refine qm_Ret.call (X := wX10_has [qm_r 0 10 a1, qm_i x2] h) (o1 := (some (qm_i r2), h1)) (qm_mp (G := qm_Gi) hr) rfl ?_
  show qm_Ret _ (5, [some (qm_r 0 6 a0), some (qm_r 0 10 a1), some (qm_i x2), none, none], [qm_i r2], h1) _
  refine qm_Ret.ne (t := 10) (e := 8) rfl (fun hc => ?_) (fun hc => ?_)
  · rw [if_pos hc] at ho
    cases ho
    exact qm_Ret.ret 2 rfl
  · rw [if_neg hc] at ho
    refine qm_Ret.sts 3 (f' := (13, [some (qm_r 0 6 a0), some (qm_r 0 10 a1), some (qm_i x2), none, none], [qm_i (1 : Int32), qm_i x2, qm_r 0 10 a1], h1)) rfl ?_
    obtain ⟨r4, h3, hr, ho⟩ := qm_b2e ho
    refine qm_Ret.call (X := wX10_part [qm_r 0 10 a1, qm_i x2, qm_i (1 : Int32)] h1) (o1 := (some (qm_i r4), h3)) (qm_mp (G := qm_Gi) hr) rfl ?_
    show qm_Ret _ (16, [some (qm_r 0 6 a0), some (qm_r 0 10 a1), some (qm_i x2), none, none], [qm_i r4], h3) _
    refine qm_Ret.sts 4 (f' := (20, [some (qm_r 0 6 a0), some (qm_r 0 10 a1), some (qm_i x2), some (qm_i r4), none], [qm_i (2 : Int32), qm_i x2, qm_r 0 10 a1], h3)) rfl ?_
    obtain ⟨r6, h5, hr, ho⟩ := qm_b2e ho
    refine qm_Ret.call (X := wX10_part [qm_r 0 10 a1, qm_i x2, qm_i (2 : Int32)] h3) (o1 := (some (qm_i r6), h5)) (qm_mp (G := qm_Gi) hr) rfl ?_
    show qm_Ret _ (23, [some (qm_r 0 6 a0), some (qm_r 0 10 a1), some (qm_i x2), some (qm_i r4), none], [qm_i r6], h5) _
    refine qm_Ret.sts 4 (f' := (28, [some (qm_r 0 6 a0), some (qm_r 0 10 a1), some (qm_i x2), some (qm_i r4), some (qm_i r6)], [qm_i (0 : Int32), qm_i x2, qm_r 0 10 a1], h5)) rfl ?_
    obtain ⟨r8, h7, hr, ho⟩ := qm_b2e ho
    refine qm_Ret.call (X := wX10_part [qm_r 0 10 a1, qm_i x2, qm_i (0 : Int32)] h5) (o1 := (some (qm_i r8), h7)) (qm_mp (G := qm_Gi) hr) rfl ?_
    show qm_Ret _ (31, [some (qm_r 0 6 a0), some (qm_r 0 10 a1), some (qm_i x2), some (qm_i r4), some (qm_i r6)], [qm_i r8], h7) _
    by_cases hc0 : r8 = (0 : Int32)
    · rw [if_pos hc0] at ho
      refine qm_Ret.sw (z := (0 : Int32)) (f1 := (68, [some (qm_r 0 6 a0), some (qm_r 0 10 a1), some (qm_i x2), some (qm_i r4), some (qm_i r6)], [], h7)) hc0 rfl rfl ?_
      refine qm_Ret.sts 6 (f' := (75, [some (qm_r 0 6 a0), some (qm_r 0 10 a1), some (qm_i x2), some (qm_i r4), some (qm_i r6)], [qm_i (3 : Int32), qm_i x2, qm_r 0 10 a1, qm_i r6, qm_i r4, qm_r 0 6 a0], h7)) rfl ?_
      obtain ⟨r10, h9, hr, ho⟩ := qm_b2e ho
      refine qm_Ret.call (X := wX10_part [qm_r 0 10 a1, qm_i x2, qm_i (3 : Int32)] h7) (o1 := (some (qm_i r10), h9)) (qm_mp (G := qm_Gi) hr) rfl ?_
      show qm_Ret _ (78, [some (qm_r 0 6 a0), some (qm_r 0 10 a1), some (qm_i x2), some (qm_i r4), some (qm_i r6)], [qm_i r10, qm_i r6, qm_i r4, qm_r 0 6 a0], h9) _
      obtain ⟨h11, hr, ho⟩ := qm_bd ho
      refine qm_Ret.call (X := wX6_strike [qm_r 0 6 a0, qm_i r4, qm_i r6, qm_i r10] h9) (o1 := (none, h11)) (qm_mp (G := qm_Gv) hr) rfl ?_
      show qm_Ret _ (81, [some (qm_r 0 6 a0), some (qm_r 0 10 a1), some (qm_i x2), some (qm_i r4), some (qm_i r6)], [], h11) _
      cases ho
      exact qm_Ret.ret 2 rfl
    · rw [if_neg hc0] at ho
      by_cases hc1 : r8 = (1 : Int32)
      · rw [if_pos hc1] at ho
        refine qm_Ret.sw (z := (1 : Int32)) (f1 := (83, [some (qm_r 0 6 a0), some (qm_r 0 10 a1), some (qm_i x2), some (qm_i r4), some (qm_i r6)], [], h7)) hc1 rfl rfl ?_
        refine qm_Ret.sts 3 (f' := (87, [some (qm_r 0 6 a0), some (qm_r 0 10 a1), some (qm_i x2), some (qm_i r4), some (qm_i r6)], [qm_i r6, qm_i r4, qm_r 0 6 a0], h7)) rfl ?_
        obtain ⟨r13, h12, hr, ho⟩ := qm_b2e ho
        refine qm_Ret.call (X := wX6_mend [qm_r 0 6 a0, qm_i r4, qm_i r6] h7) (o1 := (some (qm_i r13), h12)) (qm_mp (G := qm_Gi) hr) rfl ?_
        show qm_Ret _ (90, [some (qm_r 0 6 a0), some (qm_r 0 10 a1), some (qm_i x2), some (qm_i r4), some (qm_i r6)], [qm_i r13], h12) _
        obtain ⟨hz, ho⟩ := qm_if ho
        cases ho
        exact qm_Ret.gr hz rfl
      · rw [if_neg hc1] at ho
        by_cases hc2 : r8 = (2 : Int32)
        · rw [if_pos hc2] at ho
          refine qm_Ret.sw (z := (2 : Int32)) (f1 := (91, [some (qm_r 0 6 a0), some (qm_r 0 10 a1), some (qm_i x2), some (qm_i r4), some (qm_i r6)], [], h7)) hc2 rfl rfl ?_
          refine qm_Ret.sts 3 (f' := (95, [some (qm_r 0 6 a0), some (qm_r 0 10 a1), some (qm_i x2), some (qm_i r4), some (qm_i r6)], [qm_i r6, qm_i r4, qm_r 0 6 a0], h7)) rfl ?_
          obtain ⟨r15, h14, hr, ho⟩ := qm_b2e ho
          refine qm_Ret.call (X := wX6_grow [qm_r 0 6 a0, qm_i r4, qm_i r6] h7) (o1 := (some (qm_i r15), h14)) (qm_mp (G := qm_Gi) hr) rfl ?_
          show qm_Ret _ (98, [some (qm_r 0 6 a0), some (qm_r 0 10 a1), some (qm_i x2), some (qm_i r4), some (qm_i r6)], [qm_i r15], h14) _
          obtain ⟨hz, ho⟩ := qm_if ho
          cases ho
          exact qm_Ret.gr hz rfl
        · rw [if_neg hc2] at ho
          by_cases hc3 : r8 = (3 : Int32)
          · rw [if_pos hc3] at ho
            refine qm_Ret.sw (z := (3 : Int32)) (f1 := (99, [some (qm_r 0 6 a0), some (qm_r 0 10 a1), some (qm_i x2), some (qm_i r4), some (qm_i r6)], [], h7)) hc3 rfl rfl ?_
            refine qm_Ret.sts 3 (f' := (103, [some (qm_r 0 6 a0), some (qm_r 0 10 a1), some (qm_i x2), some (qm_i r4), some (qm_i r6)], [qm_i r6, qm_i r4, qm_r 0 6 a0], h7)) rfl ?_
            obtain ⟨r17, h16, hr, ho⟩ := qm_b2e ho
            refine qm_Ret.call (X := wX6_weave [qm_r 0 6 a0, qm_i r4, qm_i r6] h7) (o1 := (some (qm_i r17), h16)) (qm_mp (G := qm_Gi) hr) rfl ?_
            show qm_Ret _ (106, [some (qm_r 0 6 a0), some (qm_r 0 10 a1), some (qm_i x2), some (qm_i r4), some (qm_i r6)], [qm_i r17], h16) _
            obtain ⟨hz, ho⟩ := qm_if ho
            cases ho
            exact qm_Ret.gr hz rfl
          · rw [if_neg hc3] at ho
            by_cases hc4 : r8 = (4 : Int32)
            · rw [if_pos hc4] at ho
              refine qm_Ret.sw (z := (4 : Int32)) (f1 := (107, [some (qm_r 0 6 a0), some (qm_r 0 10 a1), some (qm_i x2), some (qm_i r4), some (qm_i r6)], [], h7)) hc4 rfl rfl ?_
              refine qm_Ret.sts 1 (f' := (108, [some (qm_r 0 6 a0), some (qm_r 0 10 a1), some (qm_i x2), some (qm_i r4), some (qm_i r6)], [qm_r 0 6 a0], h7)) rfl ?_
              obtain ⟨h18, hr, ho⟩ := qm_bd ho
              refine qm_Ret.call (X := wX6_winter [qm_r 0 6 a0] h7) (o1 := (none, h18)) (qm_mp (G := qm_Gv) hr) rfl ?_
              show qm_Ret _ (111, [some (qm_r 0 6 a0), some (qm_r 0 10 a1), some (qm_i x2), some (qm_i r4), some (qm_i r6)], [], h18) _
              cases ho
              exact qm_Ret.ret 2 rfl
            · rw [if_neg hc4] at ho
              by_cases hc5 : r8 = (5 : Int32)
              · rw [if_pos hc5] at ho
                refine qm_Ret.sw (z := (5 : Int32)) (f1 := (113, [some (qm_r 0 6 a0), some (qm_r 0 10 a1), some (qm_i x2), some (qm_i r4), some (qm_i r6)], [], h7)) hc5 rfl rfl ?_
                refine qm_Ret.sts 2 (f' := (115, [some (qm_r 0 6 a0), some (qm_r 0 10 a1), some (qm_i x2), some (qm_i r4), some (qm_i r6)], [qm_i (1 : Int32), qm_r 0 6 a0], h7)) rfl ?_
                obtain ⟨r20, h19, hr, ho⟩ := qm_b2e ho
                refine qm_Ret.call (X := wX6_turn [qm_r 0 6 a0, qm_i (1 : Int32)] h7) (o1 := (some (qm_i r20), h19)) (qm_mp (G := qm_Gi) hr) rfl ?_
                show qm_Ret _ (118, [some (qm_r 0 6 a0), some (qm_r 0 10 a1), some (qm_i x2), some (qm_i r4), some (qm_i r6)], [qm_i r20], h19) _
                obtain ⟨hz, ho⟩ := qm_if ho
                cases ho
                exact qm_Ret.gr hz rfl
              · rw [if_neg hc5] at ho
                have nhc0 := lv_neT hc0 (show (0 : Int32).toInt = 0 by decide)
                have nhc1 := lv_neT hc1 (show (1 : Int32).toInt = 1 by decide)
                have nhc2 := lv_neT hc2 (show (2 : Int32).toInt = 2 by decide)
                have nhc3 := lv_neT hc3 (show (3 : Int32).toInt = 3 by decide)
                have nhc4 := lv_neT hc4 (show (4 : Int32).toInt = 4 by decide)
                have nhc5 := lv_neT hc5 (show (5 : Int32).toInt = 5 by decide)
                refine qm_Ret.swd (d := 88) (lo := 0) (hi := 5) (pc := 31) (by omega) (by decide) rfl ?_
                show qm_Ret _ (119, [some (qm_r 0 6 a0), some (qm_r 0 10 a1), some (qm_i x2), some (qm_i r4), some (qm_i r6)], [], h7) _
                refine qm_Ret.sts 2 (f' := (121, [some (qm_r 0 6 a0), some (qm_r 0 10 a1), some (qm_i x2), some (qm_i r4), some (qm_i r6)], [qm_i (0 : Int32), qm_r 0 6 a0], h7)) rfl ?_
                obtain ⟨r22, h21, hr, ho⟩ := qm_b2e ho
                refine qm_Ret.call (X := wX6_turn [qm_r 0 6 a0, qm_i (0 : Int32)] h7) (o1 := (some (qm_i r22), h21)) (qm_mp (G := qm_Gi) hr) rfl ?_
                show qm_Ret _ (124, [some (qm_r 0 6 a0), some (qm_r 0 10 a1), some (qm_i x2), some (qm_i r4), some (qm_i r6)], [qm_i r22], h21) _
                obtain ⟨hz, ho⟩ := qm_if ho
                cases ho
                exact qm_Ret.gr hz rfl
theorem cX6_happens_ok : ∀ q ∈ ([(39, 0, 2, wX10_has), (45, 0, 3, wX10_part), (49, 0, 4, wX6_strike), (53, 0, 3, wX6_mend), (57, 0, 3, wX6_grow), (60, 0, 3, wX6_weave), (63, 0, 1, wX6_winter), (66, 0, 2, wX6_turn)] : List (Nat × Nat × Nat × qm_C)), qm_CallOK RX6 5 120 q.2.1 q.1 q.2.2.1 q.2.2.2 := List.forall_mem_cons.mpr ⟨Or.inl ⟨yX10_has, cX10_has, 2, (some .boolean), 0, 0, _, sX10_has, ⟨by decide, by decide⟩, ⟨jX10_has, kRX6_39, uRX10⟩, ⟨by decide, by decide, rfl⟩, Or.inl ⟨rfl, rfl, iX10_has, recvX10_has⟩⟩, List.forall_mem_cons.mpr ⟨Or.inl ⟨yX10_part, cX10_part, 4, (some .int), 0, 0, _, sX10_part, ⟨by decide, by decide⟩, ⟨jX10_part, kRX6_45, uRX10⟩, ⟨by decide, by decide, rfl⟩, Or.inl ⟨rfl, rfl, iX10_part, recvX10_part⟩⟩, List.forall_mem_cons.mpr ⟨Or.inl ⟨yX6_strike, cX6_strike, 5, none, 4, 96, _, sX6_strike, ⟨by decide, by decide⟩, ⟨jX6_strike, kRX6_49, uRX6⟩, ⟨by decide, by decide, rfl⟩, Or.inl ⟨rfl, rfl, iX6_strike, recvX6_strike⟩⟩, List.forall_mem_cons.mpr ⟨Or.inl ⟨yX6_mend, cX6_mend, 4, (some .boolean), 1, 25, _, sX6_mend, ⟨by decide, by decide⟩, ⟨jX6_mend, kRX6_53, uRX6⟩, ⟨by decide, by decide, rfl⟩, Or.inl ⟨rfl, rfl, iX6_mend, recvX6_mend⟩⟩, List.forall_mem_cons.mpr ⟨Or.inl ⟨yX6_grow, cX6_grow, 4, (some .boolean), 1, 25, _, sX6_grow, ⟨by decide, by decide⟩, ⟨jX6_grow, kRX6_57, uRX6⟩, ⟨by decide, by decide, rfl⟩, Or.inl ⟨rfl, rfl, iX6_grow, recvX6_grow⟩⟩, List.forall_mem_cons.mpr ⟨Or.inl ⟨yX6_weave, cX6_weave, 4, (some .boolean), 2, 43, _, sX6_weave, ⟨by decide, by decide⟩, ⟨jX6_weave, kRX6_60, uRX6⟩, ⟨by decide, by decide, rfl⟩, Or.inl ⟨rfl, rfl, iX6_weave, recvX6_weave⟩⟩, List.forall_mem_cons.mpr ⟨Or.inl ⟨yX6_winter, cX6_winter, 2, none, 1, 21, _, sX6_winter, ⟨by decide, by decide⟩, ⟨jX6_winter, kRX6_63, uRX6⟩, ⟨by decide, by decide, rfl⟩, Or.inl ⟨rfl, rfl, iX6_winter, recvX6_winter⟩⟩, List.forall_mem_cons.mpr ⟨Or.inl ⟨yX6_turn, cX6_turn, 2, (some .boolean), 0, 0, _, sX6_turn, ⟨by decide, by decide⟩, ⟨jX6_turn, kRX6_66, uRX6⟩, ⟨by decide, by decide, rfl⟩, Or.inl ⟨rfl, rfl, iX6_turn, recvX6_turn⟩⟩, fun _ h => absurd h List.not_mem_nil⟩⟩⟩⟩⟩⟩⟩⟩
theorem sX6_happens : qm_Snd yX6_happens cX6_happens 5 (some .boolean) 5 120 wX6_happens := qm_met (fld := fun k => qm_lk k pfRX6) (con := fun k => qm_lk k pcRX6) (call := fun k => qm_lk k [(39, 0, 2, wX10_has), (45, 0, 3, wX10_part), (49, 0, 4, wX6_strike), (53, 0, 3, wX6_mend), (57, 0, 3, wX6_grow), (60, 0, 3, wX6_weave), (63, 0, 1, wX6_winter), (66, 0, 2, wX6_turn)]) (tab := qm_tab aX6_happens) (plainFor_of_name (by decide)) (qm_fld_ok pfRX6_ok) (qm_con_ok pcRX6_ok) (fun idx kd n f hc => cX6_happens_ok (idx, kd, n, f) (qm_lk_mem hc)) (qm_tab_ok aX6_happens_ok) (fun vs h o hw => by
  unfold wX6_happens at hw
  split at hw
  · obtain ⟨r, hr, rfl⟩ := Option.map_eq_some_iff.mp hw
    exact ⟨Nat.le_of_ble_eq_true rfl, rX6_happens_0 (hr)⟩
  · cases hw)
theorem recvX6_happens : ∀ vs h o, wX6_happens vs h = some o → ∃ ci a rest, vs = qm_r 0 ci a :: rest ∧ qm_R ci = yX6_happens.cls := by
  intro vs h o hw
  unfold wX6_happens at hw
  split at hw
  · exact ⟨_, _, _, rfl, rfl⟩
  · cases hw
-- RX6 pass(LWillowLaw$Basket;LWillowLaw$Year;I)I
theorem jX6_pass : Jvm.Cond.code yX6_pass cX6_pass 5 (some .int) ∈ qm_all := List.mem_filter.mpr ⟨by decide +kernel, rfl⟩
theorem iX6_pass : Jvm.Cond.instanceMethod yX6_pass ∈ qm_all ∧ Jvm.Cond.selects yX6_pass.cls yX6_pass yX6_pass ∈ qm_all := ⟨List.mem_filter.mpr ⟨by decide +kernel, rfl⟩, List.mem_filter.mpr ⟨by decide +kernel, rfl⟩⟩
def wX6_pass : qm_C := fun vs h => match vs with
  | [.inr (.inr (some (0, 6, p0))), .inr (.inr (some (0, 0, p1))), .inr (.inr (some (0, 10, p2))), .inl p3] => (qX6_pass p0 p1 p2 p3 h).map qm_Gi
  | _ => none
def aX6_pass : List (Option (Instr × Nat)) := [some (.aload_n 0, 1), some (.aload_n 1, 1), some (.invokevirtual 32, 3), none, none, some (.iconst 0, 1), some (.istore 4, 2), none, some (.iload 4, 2), none, some (.iload_n 3, 1), some (.if_icmp .ge 19, 3), none, none, some (.aload_n 0, 1), some (.aload_n 2, 1), some (.iload 4, 2), none, some (.invokevirtual 35, 3), none, none, some (.ifCond .eq 9, 3), none, none, some (.iinc 4 1, 3), none, none, some (.goto (-19), 3), none, none, some (.iload 4, 2), none, some (.ireturn, 1)]
theorem aX6_pass_ok : qm_tabok cX6_pass aX6_pass = true := by decide +kernel
def mX6_pass : qm_M := ((some .int), (fun k => qm_lk k pfRX6), (fun k => qm_lk k pcRX6), (fun k => qm_lk k [(35, 0, 3, wX6_happens), (32, 0, 2, wX6_begin)]), qm_tab aX6_pass)
set_option maxRecDepth 20000 in
set_option maxHeartbeats 2000000 in
theorem rX6_pass_8   : ∀ {fuel : Nat} {a0 : Nat} {a2 : Nat} {x3 : Int32} {x4 : Int32} {ad1 : Nat} {h : qm_H} {r : Int32 × qm_H}, qX6_pass_8  fuel a0 a2 x3 x4 h = some r → qm_Ret mX6_pass (8, [some (qm_r 0 6 a0), some (qm_r 0 0 ad1), some (qm_r 0 10 a2), some (qm_i x3), some (qm_i x4)], [], h) (qm_Gi r) := by
  intro fuel
  induction fuel with
  | zero => intros; rename_i ho; cases ho
  | succ n ih =>
    intro a0 a2 x3 x4 ad1 h r ho
    unfold qX6_pass_8 at ho
    refine qm_Ret.sts 2 (f' := (11, [some (qm_r 0 6 a0), some (qm_r 0 0 ad1), some (qm_r 0 10 a2), some (qm_i x3), some (qm_i x4)], [qm_i x3, qm_i x4], h)) rfl ?_
    refine qm_Ret.ge (t := 30) (e := 14) rfl (fun hc => ?_) (fun hc => ?_)
    · rw [if_pos hc] at ho
      refine qm_Ret.sts 3 (f' := (18, [some (qm_r 0 6 a0), some (qm_r 0 0 ad1), some (qm_r 0 10 a2), some (qm_i x3), some (qm_i x4)], [qm_i x4, qm_r 0 10 a2, qm_r 0 6 a0], h)) rfl ?_
      obtain ⟨r2, h1, hr, ho⟩ := qm_b2e ho
      refine qm_Ret.call (X := wX6_happens [qm_r 0 6 a0, qm_r 0 10 a2, qm_i x4] h) (o1 := (some (qm_i r2), h1)) (qm_mp (G := qm_Gi) hr) rfl ?_
      show qm_Ret _ (21, [some (qm_r 0 6 a0), some (qm_r 0 0 ad1), some (qm_r 0 10 a2), some (qm_i x3), some (qm_i x4)], [qm_i r2], h1) _
      refine qm_Ret.eq (t := 30) (e := 24) rfl (fun hc => ?_) (fun hc => ?_)
      · rw [if_pos hc] at ho
        cases ho
        exact qm_Ret.ret 2 rfl
      · rw [if_neg hc] at ho
        refine qm_Ret.sts 2 (f' := (8, [some (qm_r 0 6 a0), some (qm_r 0 0 ad1), some (qm_r 0 10 a2), some (qm_i x3), some (qm_i (x4 + (1 : Int32)))], [], h1)) rfl ?_
        exact ih ho
    · rw [if_neg hc] at ho
      cases ho
      exact qm_Ret.ret 2 rfl
set_option maxRecDepth 20000 in
set_option maxHeartbeats 2000000 in
theorem rX6_pass_0   {a0 : Nat} {a1 : Nat} {a2 : Nat} {x3 : Int32} {h : qm_H} {r : Int32 × qm_H} (ho : qX6_pass  a0 a1 a2 x3 h = some r) : qm_Ret mX6_pass (0, [some (qm_r 0 6 a0), some (qm_r 0 0 a1), some (qm_r 0 10 a2), some (qm_i x3), none], [], h) (qm_Gi r) := by
  unfold qX6_pass at ho
  refine qm_Ret.sts 2 (f' := (2, [some (qm_r 0 6 a0), some (qm_r 0 0 a1), some (qm_r 0 10 a2), some (qm_i x3), none], [qm_r 0 0 a1, qm_r 0 6 a0], h)) rfl ?_
  obtain ⟨h1, hr, ho⟩ := qm_bd ho
  refine qm_Ret.call (X := wX6_begin [qm_r 0 6 a0, qm_r 0 0 a1] h) (o1 := (none, h1)) (qm_mp (G := qm_Gv) hr) rfl ?_
  show qm_Ret _ (5, [some (qm_r 0 6 a0), some (qm_r 0 0 a1), some (qm_r 0 10 a2), some (qm_i x3), none], [], h1) _
  refine qm_Ret.sts 2 (f' := (8, [some (qm_r 0 6 a0), some (qm_r 0 0 a1), some (qm_r 0 10 a2), some (qm_i x3), some (qm_i (0 : Int32))], [], h1)) rfl ?_
  exact rX6_pass_8 ho
theorem cX6_pass_ok : ∀ q ∈ ([(35, 0, 3, wX6_happens), (32, 0, 2, wX6_begin)] : List (Nat × Nat × Nat × qm_C)), qm_CallOK RX6 6 144 q.2.1 q.1 q.2.2.1 q.2.2.2 := List.forall_mem_cons.mpr ⟨Or.inl ⟨yX6_happens, cX6_happens, 5, (some .boolean), 5, 120, _, sX6_happens, ⟨by decide, by decide⟩, ⟨jX6_happens, kRX6_35, uRX6⟩, ⟨by decide, by decide, rfl⟩, Or.inl ⟨rfl, rfl, iX6_happens, recvX6_happens⟩⟩, List.forall_mem_cons.mpr ⟨Or.inl ⟨yX6_begin, cX6_begin, 2, none, 2, 81, _, sX6_begin, ⟨by decide, by decide⟩, ⟨jX6_begin, kRX6_32, uRX6⟩, ⟨by decide, by decide, rfl⟩, Or.inl ⟨rfl, rfl, iX6_begin, recvX6_begin⟩⟩, fun _ h => absurd h List.not_mem_nil⟩⟩
theorem sX6_pass : qm_Snd yX6_pass cX6_pass 5 (some .int) 6 144 wX6_pass := qm_met (fld := fun k => qm_lk k pfRX6) (con := fun k => qm_lk k pcRX6) (call := fun k => qm_lk k [(35, 0, 3, wX6_happens), (32, 0, 2, wX6_begin)]) (tab := qm_tab aX6_pass) (plainFor_of_name (by decide)) (qm_fld_ok pfRX6_ok) (qm_con_ok pcRX6_ok) (fun idx kd n f hc => cX6_pass_ok (idx, kd, n, f) (qm_lk_mem hc)) (qm_tab_ok aX6_pass_ok) (fun vs h o hw => by
  unfold wX6_pass at hw
  split at hw
  · obtain ⟨r, hr, rfl⟩ := Option.map_eq_some_iff.mp hw
    exact ⟨Nat.le_of_ble_eq_true rfl, rX6_pass_0 (hr)⟩
  · cases hw)
theorem recvX6_pass : ∀ vs h o, wX6_pass vs h = some o → ∃ ci a rest, vs = qm_r 0 ci a :: rest ∧ qm_R ci = yX6_pass.cls := by
  intro vs h o hw
  unfold wX6_pass at hw
  split at hw
  · exact ⟨_, _, _, rfl, rfl⟩
  · cases hw
