-- RX11 till(II)I
theorem jX11_till : Jvm.Cond.code yX11_till cX11_till 5 (some .int) ∈ qm_all := List.mem_filter.mpr ⟨by decide +kernel, rfl⟩
theorem iX11_till : Jvm.Cond.instanceMethod yX11_till ∈ qm_all ∧ Jvm.Cond.selects yX11_till.cls yX11_till yX11_till ∈ qm_all := ⟨List.mem_filter.mpr ⟨by decide +kernel, rfl⟩, List.mem_filter.mpr ⟨by decide +kernel, rfl⟩⟩
def wX11_till : qm_C := fun vs h => match vs with
  | [.inr (.inr (some (0, 11, p0))), .inl p1, .inl p2] => (qX11_till p0 p1 p2 h).map qm_Gi
  | _ => none
def aX11_till : List (Option (Instr × Nat)) := [some (.aload_n 0, 1), some (.getfield 10, 3), none, none, some (.iload_n 1, 1), some (.invokevirtual 93, 3), none, none, some (.astore_n 3, 1), some (.aload_n 0, 1), some (.getfield 10, 3), none, none, some (.iload_n 2, 1), some (.invokevirtual 219, 3), none, none, some (.astore 4, 2), none, some (.aload_n 3, 1), some (.ifnull 8, 3), none, none, some (.aload 4, 2), none, some (.ifnonnull 7, 3), none, none, some (.iconst (-1), 1), some (.goto 18, 3), none, none, some (.aload_n 0, 1), some (.getfield 36, 3), none, none, some (.aload_n 3, 1), some (.aload 4, 2), none, some (.aload 4, 2), none, some (.getfield 223, 3), none, none, some (.invokevirtual 232, 3), none, none, some (.ireturn, 1)]
theorem aX11_till_ok : qm_tabok cX11_till aX11_till = true := by decide +kernel
def mX11_till : qm_M := ((some .int), (fun k => qm_lk k pfRX11), (fun k => qm_lk k pcRX11), (fun k => qm_lk k [(93, 0, 2, wX9_basketAt), (219, 0, 2, wX9_yearAt), (232, 0, 4, wX6_pass)]), qm_tab aX11_till)
set_option maxRecDepth 20000 in
set_option maxHeartbeats 2000000 in
theorem rX11_till_0   {a0 : Nat} {x1 : Int32} {x2 : Int32} {h : qm_H} {r : Int32 × qm_H} (ho : qX11_till  a0 x1 x2 h = some r) : qm_Ret mX11_till (0, [some (qm_r 0 11 a0), some (qm_i x1), some (qm_i x2), none, none], [], h) (qm_Gi r) := by
  unfold qX11_till at ho
  refine qm_Ret.sts 3 (f' := (5, [some (qm_r 0 11 a0), some (qm_i x1), some (qm_i x2), none, none], [qm_i x1, qm_r 0 9 (a0 + 1)], h)) rfl ?_
  obtain ⟨r2, h1, hr, ho⟩ := qm_b2e ho
  refine qm_Ret.call (X := wX9_basketAt [qm_r 0 9 (a0 + 1), qm_i x1] h) (o1 := (some (qm_oo 0 r2), h1)) (qm_mp (G := (qm_Go 0)) hr) rfl ?_
  show qm_Ret _ (8, [some (qm_r 0 11 a0), some (qm_i x1), some (qm_i x2), none, none], [qm_oo 0 r2], h1) _
  refine qm_Ret.sts 4 (f' := (14, [some (qm_r 0 11 a0), some (qm_i x1), some (qm_i x2), some (qm_oo 0 r2), none], [qm_i x2, qm_r 0 9 (a0 + 1)], h1)) rfl ?_
  obtain ⟨r4, h3, hr, ho⟩ := qm_b2e ho
  refine qm_Ret.call (X := wX9_yearAt [qm_r 0 9 (a0 + 1), qm_i x2] h1) (o1 := (some (qm_oo 10 r4), h3)) (qm_mp (G := (qm_Go 10)) hr) rfl ?_
  show qm_Ret _ (17, [some (qm_r 0 11 a0), some (qm_i x1), some (qm_i x2), some (qm_oo 0 r2), none], [qm_oo 10 r4], h3) _
  refine qm_Ret.sts 2 (f' := (20, [some (qm_r 0 11 a0), some (qm_i x1), some (qm_i x2), some (qm_oo 0 r2), some (qm_oo 10 r4)], [qm_oo 0 r2], h3)) rfl ?_
  cases r2 with
  | none =>
    simp only [qm_om] at ho
    cases ho
    exact qm_Ret.ret 4 rfl
  | some b5 =>
    simp only [qm_om] at ho
    refine qm_Ret.sts 2 (f' := (25, [some (qm_r 0 11 a0), some (qm_i x1), some (qm_i x2), some (qm_r 0 0 b5), some (qm_oo 10 r4)], [qm_oo 10 r4], h3)) rfl ?_
    cases r4 with
    | none =>
      simp only [qm_om] at ho
      cases ho
      exact qm_Ret.ret 4 rfl
    | some b6 =>
      simp only [qm_om] at ho
      refine qm_Ret.sts 7 (f' := (44, [some (qm_r 0 11 a0), some (qm_i x1), some (qm_i x2), some (qm_r 0 0 b5), some (qm_r 0 10 b6)], [qm_i (h3.1 b6 1), qm_r 0 10 b6, qm_r 0 0 b5, qm_r 0 6 (a0 + 44)], h3)) rfl ?_
      obtain ⟨r8, h7, hr, ho⟩ := qm_b2e ho
      refine qm_Ret.call (X := wX6_pass [qm_r 0 6 (a0 + 44), qm_r 0 0 b5, qm_r 0 10 b6, qm_i (h3.1 b6 1)] h3) (o1 := (some (qm_i r8), h7)) (qm_mp (G := qm_Gi) hr) rfl ?_
      show qm_Ret _ (47, [some (qm_r 0 11 a0), some (qm_i x1), some (qm_i x2), some (qm_r 0 0 b5), some (qm_r 0 10 b6)], [qm_i r8], h7) _
      cases ho
      exact qm_Ret.ret 1 rfl
theorem cX11_till_ok : ∀ q ∈ ([(93, 0, 2, wX9_basketAt), (219, 0, 2, wX9_yearAt), (232, 0, 4, wX6_pass)] : List (Nat × Nat × Nat × qm_C)), qm_CallOK RX11 7 168 q.2.1 q.1 q.2.2.1 q.2.2.2 := List.forall_mem_cons.mpr ⟨Or.inl ⟨yX9_basketAt, cX9_basketAt, 2, (some (.object "WillowLaw$Basket")), 0, 0, _, sX9_basketAt, ⟨by decide, by decide⟩, ⟨jX9_basketAt, kRX11_93, uRX9⟩, ⟨by decide, by decide, rfl⟩, Or.inl ⟨rfl, rfl, iX9_basketAt, recvX9_basketAt⟩⟩, List.forall_mem_cons.mpr ⟨Or.inl ⟨yX9_yearAt, cX9_yearAt, 2, (some (.object "WillowLaw$Year")), 0, 0, _, sX9_yearAt, ⟨by decide, by decide⟩, ⟨jX9_yearAt, kRX11_219, uRX9⟩, ⟨by decide, by decide, rfl⟩, Or.inl ⟨rfl, rfl, iX9_yearAt, recvX9_yearAt⟩⟩, List.forall_mem_cons.mpr ⟨Or.inl ⟨yX6_pass, cX6_pass, 5, (some .int), 6, 144, _, sX6_pass, ⟨by decide, by decide⟩, ⟨jX6_pass, kRX11_232, uRX6⟩, ⟨by decide, by decide, rfl⟩, Or.inl ⟨rfl, rfl, iX6_pass, recvX6_pass⟩⟩, fun _ h => absurd h List.not_mem_nil⟩⟩⟩
theorem sX11_till : qm_Snd yX11_till cX11_till 5 (some .int) 7 168 wX11_till := qm_met (fld := fun k => qm_lk k pfRX11) (con := fun k => qm_lk k pcRX11) (call := fun k => qm_lk k [(93, 0, 2, wX9_basketAt), (219, 0, 2, wX9_yearAt), (232, 0, 4, wX6_pass)]) (tab := qm_tab aX11_till) (plainFor_of_name (by decide)) (qm_fld_ok pfRX11_ok) (qm_con_ok pcRX11_ok) (fun idx kd n f hc => cX11_till_ok (idx, kd, n, f) (qm_lk_mem hc)) (qm_tab_ok aX11_till_ok) (fun vs h o hw => by
  unfold wX11_till at hw
  split at hw
  · obtain ⟨r, hr, rfl⟩ := Option.map_eq_some_iff.mp hw
    exact ⟨Nat.le_of_ble_eq_true rfl, rX11_till_0 (hr)⟩
  · cases hw)
theorem recvX11_till : ∀ vs h o, wX11_till vs h = some o → ∃ ci a rest, vs = qm_r 0 ci a :: rest ∧ qm_R ci = yX11_till.cls := by
  intro vs h o hw
  unfold wX11_till at hw
  split at hw
  · exact ⟨_, _, _, rfl, rfl⟩
  · cases hw
-- RX11 state(IIII)I
theorem jX11_state : Jvm.Cond.code yX11_state cX11_state 7 (some .int) ∈ qm_all := List.mem_filter.mpr ⟨by decide +kernel, rfl⟩
theorem iX11_state : Jvm.Cond.instanceMethod yX11_state ∈ qm_all ∧ Jvm.Cond.selects yX11_state.cls yX11_state yX11_state ∈ qm_all := ⟨List.mem_filter.mpr ⟨by decide +kernel, rfl⟩, List.mem_filter.mpr ⟨by decide +kernel, rfl⟩⟩
def wX11_state : qm_C := fun vs h => match vs with
  | [.inr (.inr (some (0, 11, p0))), .inl p1, .inl p2, .inl p3, .inl p4] => (qX11_state p0 p1 p2 p3 p4 h).map qm_Gi
  | _ => none
def aX11_state : List (Option (Instr × Nat)) := [some (.aload_n 0, 1), some (.getfield 10, 3), none, none, some (.iload_n 1, 1), some (.invokevirtual 93, 3), none, none, some (.astore 5, 2), none, some (.aload_n 0, 1), some (.getfield 10, 3), none, none, some (.iload_n 2, 1), some (.invokevirtual 219, 3), none, none, some (.astore 6, 2), none, some (.aload 5, 2), none, some (.ifnull 21, 3), none, none, some (.aload 6, 2), none, some (.ifnull 16, 3), none, none, some (.iload_n 3, 1), some (.ifCond .lt 12, 3), none, none, some (.iload_n 3, 1), some (.aload 6, 2), none, some (.getfield 223, 3), none, none, some (.if_icmp .le 6, 3), none, none, some (.bipush (-2), 2), none, some (.ireturn, 1), some (.aload_n 0, 1), some (.getfield 36, 3), none, none, some (.aload 5, 2), none, some (.aload 6, 2), none, some (.iload_n 3, 1), some (.invokevirtual 232, 3), none, none, some (.iload_n 3, 1), some (.if_icmp .ne 15, 3), none, none, some (.aload_n 0, 1), some (.getfield 36, 3), none, none, some (.iload 4, 2), none, some (.invokevirtual 236, 3), none, none, some (.goto 5, 3), none, none, some (.bipush (-2), 2), none, some (.ireturn, 1)]
theorem aX11_state_ok : qm_tabok cX11_state aX11_state = true := by decide +kernel
def mX11_state : qm_M := ((some .int), (fun k => qm_lk k pfRX11), (fun k => qm_lk k pcRX11), (fun k => qm_lk k [(93, 0, 2, wX9_basketAt), (219, 0, 2, wX9_yearAt), (232, 0, 4, wX6_pass), (236, 0, 2, wX6_part)]), qm_tab aX11_state)
set_option maxRecDepth 20000 in
set_option maxHeartbeats 2000000 in
theorem rX11_state_0   {a0 : Nat} {x1 : Int32} {x2 : Int32} {x3 : Int32} {x4 : Int32} {h : qm_H} {r : Int32 × qm_H} (ho : qX11_state  a0 x1 x2 x3 x4 h = some r) : qm_Ret mX11_state (0, [some (qm_r 0 11 a0), some (qm_i x1), some (qm_i x2), some (qm_i x3), some (qm_i x4), none, none], [], h) (qm_Gi r) := by
  unfold qX11_state at ho
  refine qm_Ret.sts 3 (f' := (5, [some (qm_r 0 11 a0), some (qm_i x1), some (qm_i x2), some (qm_i x3), some (qm_i x4), none, none], [qm_i x1, qm_r 0 9 (a0 + 1)], h)) rfl ?_
  obtain ⟨r2, h1, hr, ho⟩ := qm_b2e ho
  refine qm_Ret.call (X := wX9_basketAt [qm_r 0 9 (a0 + 1), qm_i x1] h) (o1 := (some (qm_oo 0 r2), h1)) (qm_mp (G := (qm_Go 0)) hr) rfl ?_
  show qm_Ret _ (8, [some (qm_r 0 11 a0), some (qm_i x1), some (qm_i x2), some (qm_i x3), some (qm_i x4), none, none], [qm_oo 0 r2], h1) _
  refine qm_Ret.sts 4 (f' := (15, [some (qm_r 0 11 a0), some (qm_i x1), some (qm_i x2), some (qm_i x3), some (qm_i x4), some (qm_oo 0 r2), none], [qm_i x2, qm_r 0 9 (a0 + 1)], h1)) rfl ?_
  obtain ⟨r4, h3, hr, ho⟩ := qm_b2e ho
  refine qm_Ret.call (X := wX9_yearAt [qm_r 0 9 (a0 + 1), qm_i x2] h1) (o1 := (some (qm_oo 10 r4), h3)) (qm_mp (G := (qm_Go 10)) hr) rfl ?_
  show qm_Ret _ (18, [some (qm_r 0 11 a0), some (qm_i x1), some (qm_i x2), some (qm_i x3), some (qm_i x4), some (qm_oo 0 r2), none], [qm_oo 10 r4], h3) _
  refine qm_Ret.sts 2 (f' := (22, [some (qm_r 0 11 a0), some (qm_i x1), some (qm_i x2), some (qm_i x3), some (qm_i x4), some (qm_oo 0 r2), some (qm_oo 10 r4)], [qm_oo 0 r2], h3)) rfl ?_
  cases r2 with
  | none =>
    simp only [qm_om] at ho
    cases ho
    exact qm_Ret.ret 3 rfl
  | some b5 =>
    simp only [qm_om] at ho
    refine qm_Ret.sts 2 (f' := (27, [some (qm_r 0 11 a0), some (qm_i x1), some (qm_i x2), some (qm_i x3), some (qm_i x4), some (qm_r 0 0 b5), some (qm_oo 10 r4)], [qm_oo 10 r4], h3)) rfl ?_
    cases r4 with
    | none =>
      simp only [qm_om] at ho
      cases ho
      exact qm_Ret.ret 3 rfl
    | some b6 =>
      simp only [qm_om] at ho
      refine qm_Ret.sts 2 (f' := (31, [some (qm_r 0 11 a0), some (qm_i x1), some (qm_i x2), some (qm_i x3), some (qm_i x4), some (qm_r 0 0 b5), some (qm_r 0 10 b6)], [qm_i x3], h3)) rfl ?_
      refine qm_Ret.lt (t := 43) (e := 34) rfl (fun hc => ?_) (fun hc => ?_)
      · rw [if_pos hc] at ho
        cases ho
        exact qm_Ret.ret 2 rfl
      · rw [if_neg hc] at ho
        refine qm_Ret.sts 3 (f' := (40, [some (qm_r 0 11 a0), some (qm_i x1), some (qm_i x2), some (qm_i x3), some (qm_i x4), some (qm_r 0 0 b5), some (qm_r 0 10 b6)], [qm_i (h3.1 b6 1), qm_i x3], h3)) rfl ?_
        refine qm_Ret.le (t := 46) (e := 43) rfl (fun hc => ?_) (fun hc => ?_)
        · rw [if_pos hc] at ho
          cases ho
          exact qm_Ret.ret 2 rfl
        · rw [if_neg hc] at ho
          refine qm_Ret.sts 5 (f' := (55, [some (qm_r 0 11 a0), some (qm_i x1), some (qm_i x2), some (qm_i x3), some (qm_i x4), some (qm_r 0 0 b5), some (qm_r 0 10 b6)], [qm_i x3, qm_r 0 10 b6, qm_r 0 0 b5, qm_r 0 6 (a0 + 44)], h3)) rfl ?_
          obtain ⟨r8, h7, hr, ho⟩ := qm_b2e ho
          refine qm_Ret.call (X := wX6_pass [qm_r 0 6 (a0 + 44), qm_r 0 0 b5, qm_r 0 10 b6, qm_i x3] h3) (o1 := (some (qm_i r8), h7)) (qm_mp (G := qm_Gi) hr) rfl ?_
          show qm_Ret _ (58, [some (qm_r 0 11 a0), some (qm_i x1), some (qm_i x2), some (qm_i x3), some (qm_i x4), some (qm_r 0 0 b5), some (qm_r 0 10 b6)], [qm_i r8], h7) _
          refine qm_Ret.sts 1 (f' := (59, [some (qm_r 0 11 a0), some (qm_i x1), some (qm_i x2), some (qm_i x3), some (qm_i x4), some (qm_r 0 0 b5), some (qm_r 0 10 b6)], [qm_i x3, qm_i r8], h7)) rfl ?_
          refine qm_Ret.ne (t := 74) (e := 62) rfl (fun hc => ?_) (fun hc => ?_)
          · rw [if_pos hc] at ho
            refine qm_Ret.sts 3 (f' := (68, [some (qm_r 0 11 a0), some (qm_i x1), some (qm_i x2), some (qm_i x3), some (qm_i x4), some (qm_r 0 0 b5), some (qm_r 0 10 b6)], [qm_i x4, qm_r 0 6 (a0 + 44)], h7)) rfl ?_
            obtain ⟨r10, h9, hr, ho⟩ := qm_b2e ho
            refine qm_Ret.call (X := wX6_part [qm_r 0 6 (a0 + 44), qm_i x4] h7) (o1 := (some (qm_i r10), h9)) (qm_mp (G := qm_Gi) hr) rfl ?_
            show qm_Ret _ (71, [some (qm_r 0 11 a0), some (qm_i x1), some (qm_i x2), some (qm_i x3), some (qm_i x4), some (qm_r 0 0 b5), some (qm_r 0 10 b6)], [qm_i r10], h9) _
            cases ho
            exact qm_Ret.ret 2 rfl
          · rw [if_neg hc] at ho
            cases ho
            exact qm_Ret.ret 2 rfl
theorem cX11_state_ok : ∀ q ∈ ([(93, 0, 2, wX9_basketAt), (219, 0, 2, wX9_yearAt), (232, 0, 4, wX6_pass), (236, 0, 2, wX6_part)] : List (Nat × Nat × Nat × qm_C)), qm_CallOK RX11 7 168 q.2.1 q.1 q.2.2.1 q.2.2.2 := List.forall_mem_cons.mpr ⟨Or.inl ⟨yX9_basketAt, cX9_basketAt, 2, (some (.object "WillowLaw$Basket")), 0, 0, _, sX9_basketAt, ⟨by decide, by decide⟩, ⟨jX9_basketAt, kRX11_93, uRX9⟩, ⟨by decide, by decide, rfl⟩, Or.inl ⟨rfl, rfl, iX9_basketAt, recvX9_basketAt⟩⟩, List.forall_mem_cons.mpr ⟨Or.inl ⟨yX9_yearAt, cX9_yearAt, 2, (some (.object "WillowLaw$Year")), 0, 0, _, sX9_yearAt, ⟨by decide, by decide⟩, ⟨jX9_yearAt, kRX11_219, uRX9⟩, ⟨by decide, by decide, rfl⟩, Or.inl ⟨rfl, rfl, iX9_yearAt, recvX9_yearAt⟩⟩, List.forall_mem_cons.mpr ⟨Or.inl ⟨yX6_pass, cX6_pass, 5, (some .int), 6, 144, _, sX6_pass, ⟨by decide, by decide⟩, ⟨jX6_pass, kRX11_232, uRX6⟩, ⟨by decide, by decide, rfl⟩, Or.inl ⟨rfl, rfl, iX6_pass, recvX6_pass⟩⟩, List.forall_mem_cons.mpr ⟨Or.inl ⟨yX6_part, cX6_part, 2, (some .int), 4, 94, _, sX6_part, ⟨by decide, by decide⟩, ⟨jX6_part, kRX11_236, uRX6⟩, ⟨by decide, by decide, rfl⟩, Or.inl ⟨rfl, rfl, iX6_part, recvX6_part⟩⟩, fun _ h => absurd h List.not_mem_nil⟩⟩⟩⟩
theorem sX11_state : qm_Snd yX11_state cX11_state 7 (some .int) 7 168 wX11_state := qm_met (fld := fun k => qm_lk k pfRX11) (con := fun k => qm_lk k pcRX11) (call := fun k => qm_lk k [(93, 0, 2, wX9_basketAt), (219, 0, 2, wX9_yearAt), (232, 0, 4, wX6_pass), (236, 0, 2, wX6_part)]) (tab := qm_tab aX11_state) (plainFor_of_name (by decide)) (qm_fld_ok pfRX11_ok) (qm_con_ok pcRX11_ok) (fun idx kd n f hc => cX11_state_ok (idx, kd, n, f) (qm_lk_mem hc)) (qm_tab_ok aX11_state_ok) (fun vs h o hw => by
  unfold wX11_state at hw
  split at hw
  · obtain ⟨r, hr, rfl⟩ := Option.map_eq_some_iff.mp hw
    exact ⟨Nat.le_of_ble_eq_true rfl, rX11_state_0 (hr)⟩
  · cases hw)
theorem recvX11_state : ∀ vs h o, wX11_state vs h = some o → ∃ ci a rest, vs = qm_r 0 ci a :: rest ∧ qm_R ci = yX11_state.cls := by
  intro vs h o hw
  unfold wX11_state at hw
  split at hw
  · exact ⟨_, _, _, rfl, rfl⟩
  · cases hw
-- RX11 drawn(IIII)I
theorem jX11_drawn : Jvm.Cond.code yX11_drawn cX11_drawn 6 (some .int) ∈ qm_all := List.mem_filter.mpr ⟨by decide +kernel, rfl⟩
theorem iX11_drawn : Jvm.Cond.instanceMethod yX11_drawn ∈ qm_all ∧ Jvm.Cond.selects yX11_drawn.cls yX11_drawn yX11_drawn ∈ qm_all := ⟨List.mem_filter.mpr ⟨by decide +kernel, rfl⟩, List.mem_filter.mpr ⟨by decide +kernel, rfl⟩⟩
def wX11_drawn : qm_C := fun vs h => match vs with
  | [.inr (.inr (some (0, 11, p0))), .inl p1, .inl p2, .inl p3, .inl p4] => (qX11_drawn p0 p1 p2 p3 p4 h).map qm_Gi
  | _ => none
def aX11_drawn : List (Option (Instr × Nat)) := [some (.aload_n 0, 1), some (.getfield 10, 3), none, none, some (.iload_n 1, 1), some (.invokevirtual 93, 3), none, none, some (.astore 5, 2), none, some (.aload 5, 2), none, some (.ifnull 13, 3), none, none, some (.iload_n 3, 1), some (.ifCond .lt 9, 3), none, none, some (.iload_n 3, 1), some (.bipush 60, 2), none, some (.if_icmp .le 6, 3), none, none, some (.bipush (-2), 2), none, some (.ireturn, 1), some (.aload_n 0, 1), some (.getfield 36, 3), none, none, some (.aload 5, 2), none, some (.iload_n 2, 1), some (.iload_n 3, 1), some (.invokevirtual 237, 3), none, none, some (.aload_n 0, 1), some (.getfield 36, 3), none, none, some (.iload 4, 2), none, some (.invokevirtual 236, 3), none, none, some (.ireturn, 1)]
theorem aX11_drawn_ok : qm_tabok cX11_drawn aX11_drawn = true := by decide +kernel
def mX11_drawn : qm_M := ((some .int), (fun k => qm_lk k pfRX11), (fun k => qm_lk k pcRX11), (fun k => qm_lk k [(93, 0, 2, wX9_basketAt), (237, 0, 4, wX6_draw), (236, 0, 2, wX6_part)]), qm_tab aX11_drawn)
set_option maxRecDepth 20000 in
set_option maxHeartbeats 2000000 in
theorem rX11_drawn_0   {a0 : Nat} {x1 : Int32} {x2 : Int32} {x3 : Int32} {x4 : Int32} {h : qm_H} {r : Int32 × qm_H} (ho : qX11_drawn  a0 x1 x2 x3 x4 h = some r) : qm_Ret mX11_drawn (0, [some (qm_r 0 11 a0), some (qm_i x1), some (qm_i x2), some (qm_i x3), some (qm_i x4), none], [], h) (qm_Gi r) := by
  unfold qX11_drawn at ho
  refine qm_Ret.sts 3 (f' := (5, [some (qm_r 0 11 a0), some (qm_i x1), some (qm_i x2), some (qm_i x3), some (qm_i x4), none], [qm_i x1, qm_r 0 9 (a0 + 1)], h)) rfl ?_
  obtain ⟨r2, h1, hr, ho⟩ := qm_b2e ho
  refine qm_Ret.call (X := wX9_basketAt [qm_r 0 9 (a0 + 1), qm_i x1] h) (o1 := (some (qm_oo 0 r2), h1)) (qm_mp (G := (qm_Go 0)) hr) rfl ?_
  show qm_Ret _ (8, [some (qm_r 0 11 a0), some (qm_i x1), some (qm_i x2), some (qm_i x3), some (qm_i x4), none], [qm_oo 0 r2], h1) _
  refine qm_Ret.sts 2 (f' := (12, [some (qm_r 0 11 a0), some (qm_i x1), some (qm_i x2), some (qm_i x3), some (qm_i x4), some (qm_oo 0 r2)], [qm_oo 0 r2], h1)) rfl ?_
  cases r2 with
  | none =>
    simp only [qm_om] at ho
    cases ho
    exact qm_Ret.ret 3 rfl
  | some b3 =>
    simp only [qm_om] at ho
    refine qm_Ret.sts 2 (f' := (16, [some (qm_r 0 11 a0), some (qm_i x1), some (qm_i x2), some (qm_i x3), some (qm_i x4), some (qm_r 0 0 b3)], [qm_i x3], h1)) rfl ?_
    refine qm_Ret.lt (t := 25) (e := 19) rfl (fun hc => ?_) (fun hc => ?_)
    · rw [if_pos hc] at ho
      cases ho
      exact qm_Ret.ret 2 rfl
    · rw [if_neg hc] at ho
      refine qm_Ret.sts 2 (f' := (22, [some (qm_r 0 11 a0), some (qm_i x1), some (qm_i x2), some (qm_i x3), some (qm_i x4), some (qm_r 0 0 b3)], [qm_i (60 : Int32), qm_i x3], h1)) rfl ?_
      refine qm_Ret.le (t := 28) (e := 25) rfl (fun hc => ?_) (fun hc => ?_)
      · rw [if_pos hc] at ho
        cases ho
        exact qm_Ret.ret 2 rfl
      · rw [if_neg hc] at ho
        refine qm_Ret.sts 5 (f' := (36, [some (qm_r 0 11 a0), some (qm_i x1), some (qm_i x2), some (qm_i x3), some (qm_i x4), some (qm_r 0 0 b3)], [qm_i x3, qm_i x2, qm_r 0 0 b3, qm_r 0 6 (a0 + 44)], h1)) rfl ?_
        obtain ⟨h4, hr, ho⟩ := qm_bd ho
        refine qm_Ret.call (X := wX6_draw [qm_r 0 6 (a0 + 44), qm_r 0 0 b3, qm_i x2, qm_i x3] h1) (o1 := (none, h4)) (qm_mp (G := qm_Gv) hr) rfl ?_
        show qm_Ret _ (39, [some (qm_r 0 11 a0), some (qm_i x1), some (qm_i x2), some (qm_i x3), some (qm_i x4), some (qm_r 0 0 b3)], [], h4) _
        refine qm_Ret.sts 3 (f' := (45, [some (qm_r 0 11 a0), some (qm_i x1), some (qm_i x2), some (qm_i x3), some (qm_i x4), some (qm_r 0 0 b3)], [qm_i x4, qm_r 0 6 (a0 + 44)], h4)) rfl ?_
        obtain ⟨r6, h5, hr, ho⟩ := qm_b2e ho
        refine qm_Ret.call (X := wX6_part [qm_r 0 6 (a0 + 44), qm_i x4] h4) (o1 := (some (qm_i r6), h5)) (qm_mp (G := qm_Gi) hr) rfl ?_
        show qm_Ret _ (48, [some (qm_r 0 11 a0), some (qm_i x1), some (qm_i x2), some (qm_i x3), some (qm_i x4), some (qm_r 0 0 b3)], [qm_i r6], h5) _
        cases ho
        exact qm_Ret.ret 1 rfl
theorem cX11_drawn_ok : ∀ q ∈ ([(93, 0, 2, wX9_basketAt), (237, 0, 4, wX6_draw), (236, 0, 2, wX6_part)] : List (Nat × Nat × Nat × qm_C)), qm_CallOK RX11 7 167 q.2.1 q.1 q.2.2.1 q.2.2.2 := List.forall_mem_cons.mpr ⟨Or.inl ⟨yX9_basketAt, cX9_basketAt, 2, (some (.object "WillowLaw$Basket")), 0, 0, _, sX9_basketAt, ⟨by decide, by decide⟩, ⟨jX9_basketAt, kRX11_93, uRX9⟩, ⟨by decide, by decide, rfl⟩, Or.inl ⟨rfl, rfl, iX9_basketAt, recvX9_basketAt⟩⟩, List.forall_mem_cons.mpr ⟨Or.inl ⟨yX6_draw, cX6_draw, 5, none, 6, 143, _, sX6_draw, ⟨by decide, by decide⟩, ⟨jX6_draw, kRX11_237, uRX6⟩, ⟨by decide, by decide, rfl⟩, Or.inl ⟨rfl, rfl, iX6_draw, recvX6_draw⟩⟩, List.forall_mem_cons.mpr ⟨Or.inl ⟨yX6_part, cX6_part, 2, (some .int), 4, 94, _, sX6_part, ⟨by decide, by decide⟩, ⟨jX6_part, kRX11_236, uRX6⟩, ⟨by decide, by decide, rfl⟩, Or.inl ⟨rfl, rfl, iX6_part, recvX6_part⟩⟩, fun _ h => absurd h List.not_mem_nil⟩⟩⟩
theorem sX11_drawn : qm_Snd yX11_drawn cX11_drawn 6 (some .int) 7 167 wX11_drawn := qm_met (fld := fun k => qm_lk k pfRX11) (con := fun k => qm_lk k pcRX11) (call := fun k => qm_lk k [(93, 0, 2, wX9_basketAt), (237, 0, 4, wX6_draw), (236, 0, 2, wX6_part)]) (tab := qm_tab aX11_drawn) (plainFor_of_name (by decide)) (qm_fld_ok pfRX11_ok) (qm_con_ok pcRX11_ok) (fun idx kd n f hc => cX11_drawn_ok (idx, kd, n, f) (qm_lk_mem hc)) (qm_tab_ok aX11_drawn_ok) (fun vs h o hw => by
  unfold wX11_drawn at hw
  split at hw
  · obtain ⟨r, hr, rfl⟩ := Option.map_eq_some_iff.mp hw
    exact ⟨Nat.le_of_ble_eq_true rfl, rX11_drawn_0 (hr)⟩
  · cases hw)
theorem recvX11_drawn : ∀ vs h o, wX11_drawn vs h = some o → ∃ ci a rest, vs = qm_r 0 ci a :: rest ∧ qm_R ci = yX11_drawn.cls := by
  intro vs h o hw
  unfold wX11_drawn at hw
  split at hw
  · exact ⟨_, _, _, rfl, rfl⟩
  · cases hw
-- RX11 precedent(IIII)I
theorem jX11_precedent : Jvm.Cond.code yX11_precedent cX11_precedent 8 (some .int) ∈ qm_all := List.mem_filter.mpr ⟨by decide +kernel, rfl⟩
theorem iX11_precedent : Jvm.Cond.instanceMethod yX11_precedent ∈ qm_all ∧ Jvm.Cond.selects yX11_precedent.cls yX11_precedent yX11_precedent ∈ qm_all := ⟨List.mem_filter.mpr ⟨by decide +kernel, rfl⟩, List.mem_filter.mpr ⟨by decide +kernel, rfl⟩⟩
def wX11_precedent : qm_C := fun vs h => match vs with
  | [.inr (.inr (some (0, 11, p0))), .inl p1, .inl p2, .inl p3, .inl p4] => (qX11_precedent p0 p1 p2 p3 p4 h).map qm_Gi
  | _ => none
def aX11_precedent : List (Option (Instr × Nat)) := [some (.aload_n 0, 1), some (.getfield 10, 3), none, none, some (.iload_n 1, 1), some (.invokevirtual 93, 3), none, none, some (.astore 5, 2), none, some (.aload_n 0, 1), some (.getfield 10, 3), none, none, some (.iload_n 2, 1), some (.invokevirtual 219, 3), none, none, some (.astore 6, 2), none, some (.aload 5, 2), none, some (.ifnull 17, 3), none, none, some (.aload 6, 2), none, some (.ifnull 12, 3), none, none, some (.iload_n 3, 1), some (.iload 4, 2), none, some (.invokestatic 123, 3), none, none, some (.ifCond .ne 6, 3), none, none, some (.bipush (-2), 2), none, some (.ireturn, 1), some (.aload_n 0, 1), some (.getfield 36, 3), none, none, some (.aload 5, 2), none, some (.invokevirtual 241, 3), none, none, some (.iconst 0, 1), some (.istore 7, 2), none, some (.iload 7, 2), none, some (.aload 6, 2), none, some (.getfield 223, 3), none, none, some (.if_icmp .gt 45, 3), none, none, some (.aload_n 0, 1), some (.getfield 36, 3), none, none, some (.getfield 245, 3), none, none, some (.iload_n 3, 1), some (.iload 4, 2), none, some (.invokevirtual 131, 3), none, none, some (.iconst (-1), 1), some (.if_icmp .eq 6, 3), none, none, some (.iload 7, 2), none, some (.ireturn, 1), some (.aload_n 0, 1), some (.getfield 36, 3), none, none, some (.aload 6, 2), none, some (.iload 7, 2), none, some (.invokevirtual 249, 3), none, none, some (.ifCond .ne 5, 3), none, none, some (.iconst (-1), 1), some (.ireturn, 1), some (.iinc 7 1, 3), none, none, some (.goto (-49), 3), none, none, some (.iconst (-1), 1), some (.ireturn, 1)]
theorem aX11_precedent_ok : qm_tabok cX11_precedent aX11_precedent = true := by decide +kernel
def mX11_precedent : qm_M := ((some .int), (fun k => qm_lk k pfRX11), (fun k => qm_lk k pcRX11), (fun k => qm_lk k [(131, 0, 3, wX0_gapFor), (249, 0, 3, wX6_happens), (93, 0, 2, wX9_basketAt), (219, 0, 2, wX9_yearAt), (123, 2, 2, wX11_isSize), (241, 0, 2, wX6_begin)]), qm_tab aX11_precedent)
set_option maxRecDepth 20000 in
set_option maxHeartbeats 2000000 in
theorem rX11_precedent_54   : ∀ {fuel : Nat} {a0 : Nat} {x3 : Int32} {x4 : Int32} {a6 : Nat} {x7 : Int32} {xd1 : Int32} {xd2 : Int32} {ad5 : Nat} {h : qm_H} {r : Int32 × qm_H}, qX11_precedent_54  fuel a0 x3 x4 a6 x7 h = some r → qm_Ret mX11_precedent (54, [some (qm_r 0 11 a0), some (qm_i xd1), some (qm_i xd2), some (qm_i x3), some (qm_i x4), some (qm_r 0 0 ad5), some (qm_r 0 10 a6), some (qm_i x7)], [], h) (qm_Gi r) := by
  intro fuel
  induction fuel with
  | zero => intros; rename_i ho; cases ho
  | succ n ih =>
    intro a0 x3 x4 a6 x7 xd1 xd2 ad5 h r ho
    unfold qX11_precedent_54 at ho
    refine qm_Ret.sts 3 (f' := (61, [some (qm_r 0 11 a0), some (qm_i xd1), some (qm_i xd2), some (qm_i x3), some (qm_i x4), some (qm_r 0 0 ad5), some (qm_r 0 10 a6), some (qm_i x7)], [qm_i (h.1 a6 1), qm_i x7], h)) rfl ?_
    refine qm_Ret.gt (t := 106) (e := 64) rfl (fun hc => ?_) (fun hc => ?_)
    · rw [if_pos hc] at ho
      cases ho
      exact qm_Ret.ret 2 rfl
    · rw [if_neg hc] at ho
      refine qm_Ret.sts 5 (f' := (74, [some (qm_r 0 11 a0), some (qm_i xd1), some (qm_i xd2), some (qm_i x3), some (qm_i x4), some (qm_r 0 0 ad5), some (qm_r 0 10 a6), some (qm_i x7)], [qm_i x4, qm_i x3, qm_r 0 0 ((a0 + 44) + 1)], h)) rfl ?_
      obtain ⟨r2, h1, hr, ho⟩ := qm_b2e ho
      refine qm_Ret.call (X := wX0_gapFor [qm_r 0 0 ((a0 + 44) + 1), qm_i x3, qm_i x4] h) (o1 := (some (qm_i r2), h1)) (qm_mp (G := qm_Gi) hr) rfl ?_
      show qm_Ret _ (77, [some (qm_r 0 11 a0), some (qm_i xd1), some (qm_i xd2), some (qm_i x3), some (qm_i x4), some (qm_r 0 0 ad5), some (qm_r 0 10 a6), some (qm_i x7)], [qm_i r2], h1) _
      refine qm_Ret.sts 1 (f' := (78, [some (qm_r 0 11 a0), some (qm_i xd1), some (qm_i xd2), some (qm_i x3), some (qm_i x4), some (qm_r 0 0 ad5), some (qm_r 0 10 a6), some (qm_i x7)], [qm_i (-1 : Int32), qm_i r2], h1)) rfl ?_
      refine qm_Ret.eq (t := 84) (e := 81) rfl (fun hc => ?_) (fun hc => ?_)
      · rw [if_pos hc] at ho
        refine qm_Ret.sts 4 (f' := (92, [some (qm_r 0 11 a0), some (qm_i xd1), some (qm_i xd2), some (qm_i x3), some (qm_i x4), some (qm_r 0 0 ad5), some (qm_r 0 10 a6), some (qm_i x7)], [qm_i x7, qm_r 0 10 a6, qm_r 0 6 (a0 + 44)], h1)) rfl ?_
        obtain ⟨r4, h3, hr, ho⟩ := qm_b2e ho
        refine qm_Ret.call (X := wX6_happens [qm_r 0 6 (a0 + 44), qm_r 0 10 a6, qm_i x7] h1) (o1 := (some (qm_i r4), h3)) (qm_mp (G := qm_Gi) hr) rfl ?_
        show qm_Ret _ (95, [some (qm_r 0 11 a0), some (qm_i xd1), some (qm_i xd2), some (qm_i x3), some (qm_i x4), some (qm_r 0 0 ad5), some (qm_r 0 10 a6), some (qm_i x7)], [qm_i r4], h3) _
        refine qm_Ret.ne (t := 100) (e := 98) rfl (fun hc => ?_) (fun hc => ?_)
        · rw [if_pos hc] at ho
          cases ho
          exact qm_Ret.ret 2 rfl
        · rw [if_neg hc] at ho
          refine qm_Ret.sts 2 (f' := (54, [some (qm_r 0 11 a0), some (qm_i xd1), some (qm_i xd2), some (qm_i x3), some (qm_i x4), some (qm_r 0 0 ad5), some (qm_r 0 10 a6), some (qm_i (x7 + (1 : Int32)))], [], h3)) rfl ?_
          exact ih ho
      · rw [if_neg hc] at ho
        cases ho
        exact qm_Ret.ret 2 rfl
set_option maxRecDepth 20000 in
set_option maxHeartbeats 2000000 in
theorem rX11_precedent_0   {a0 : Nat} {x1 : Int32} {x2 : Int32} {x3 : Int32} {x4 : Int32} {h : qm_H} {r : Int32 × qm_H} (ho : qX11_precedent  a0 x1 x2 x3 x4 h = some r) : qm_Ret mX11_precedent (0, [some (qm_r 0 11 a0), some (qm_i x1), some (qm_i x2), some (qm_i x3), some (qm_i x4), none, none, none], [], h) (qm_Gi r) := by
  unfold qX11_precedent at ho
  refine qm_Ret.sts 3 (f' := (5, [some (qm_r 0 11 a0), some (qm_i x1), some (qm_i x2), some (qm_i x3), some (qm_i x4), none, none, none], [qm_i x1, qm_r 0 9 (a0 + 1)], h)) rfl ?_
  obtain ⟨r2, h1, hr, ho⟩ := qm_b2e ho
  refine qm_Ret.call (X := wX9_basketAt [qm_r 0 9 (a0 + 1), qm_i x1] h) (o1 := (some (qm_oo 0 r2), h1)) (qm_mp (G := (qm_Go 0)) hr) rfl ?_
  show qm_Ret _ (8, [some (qm_r 0 11 a0), some (qm_i x1), some (qm_i x2), some (qm_i x3), some (qm_i x4), none, none, none], [qm_oo 0 r2], h1) _
  refine qm_Ret.sts 4 (f' := (15, [some (qm_r 0 11 a0), some (qm_i x1), some (qm_i x2), some (qm_i x3), some (qm_i x4), some (qm_oo 0 r2), none, none], [qm_i x2, qm_r 0 9 (a0 + 1)], h1)) rfl ?_
  obtain ⟨r4, h3, hr, ho⟩ := qm_b2e ho
  refine qm_Ret.call (X := wX9_yearAt [qm_r 0 9 (a0 + 1), qm_i x2] h1) (o1 := (some (qm_oo 10 r4), h3)) (qm_mp (G := (qm_Go 10)) hr) rfl ?_
  show qm_Ret _ (18, [some (qm_r 0 11 a0), some (qm_i x1), some (qm_i x2), some (qm_i x3), some (qm_i x4), some (qm_oo 0 r2), none, none], [qm_oo 10 r4], h3) _
  refine qm_Ret.sts 2 (f' := (22, [some (qm_r 0 11 a0), some (qm_i x1), some (qm_i x2), some (qm_i x3), some (qm_i x4), some (qm_oo 0 r2), some (qm_oo 10 r4), none], [qm_oo 0 r2], h3)) rfl ?_
  cases r2 with
  | none =>
    simp only [qm_om] at ho
    cases ho
    exact qm_Ret.ret 3 rfl
  | some b5 =>
    simp only [qm_om] at ho
    refine qm_Ret.sts 2 (f' := (27, [some (qm_r 0 11 a0), some (qm_i x1), some (qm_i x2), some (qm_i x3), some (qm_i x4), some (qm_r 0 0 b5), some (qm_oo 10 r4), none], [qm_oo 10 r4], h3)) rfl ?_
    cases r4 with
    | none =>
      simp only [qm_om] at ho
      cases ho
      exact qm_Ret.ret 3 rfl
    | some b6 =>
      simp only [qm_om] at ho
      refine qm_Ret.sts 3 (f' := (33, [some (qm_r 0 11 a0), some (qm_i x1), some (qm_i x2), some (qm_i x3), some (qm_i x4), some (qm_r 0 0 b5), some (qm_r 0 10 b6), none], [qm_i x4, qm_i x3], h3)) rfl ?_
      obtain ⟨r8, h7, hr, ho⟩ := qm_b2e ho
      refine qm_Ret.call (X := wX11_isSize [qm_i x3, qm_i x4] h3) (o1 := (some (qm_i r8), h7)) (qm_mp (G := qm_Gi) hr) rfl ?_
      show qm_Ret _ (36, [some (qm_r 0 11 a0), some (qm_i x1), some (qm_i x2), some (qm_i x3), some (qm_i x4), some (qm_r 0 0 b5), some (qm_r 0 10 b6), none], [qm_i r8], h7) _
      refine qm_Ret.ne (t := 42) (e := 39) rfl (fun hc => ?_) (fun hc => ?_)
      · rw [if_pos hc] at ho
        cases ho
        exact qm_Ret.ret 2 rfl
      · rw [if_neg hc] at ho
        refine qm_Ret.sts 3 (f' := (48, [some (qm_r 0 11 a0), some (qm_i x1), some (qm_i x2), some (qm_i x3), some (qm_i x4), some (qm_r 0 0 b5), some (qm_r 0 10 b6), none], [qm_r 0 0 b5, qm_r 0 6 (a0 + 44)], h7)) rfl ?_
        obtain ⟨h9, hr, ho⟩ := qm_bd ho
        refine qm_Ret.call (X := wX6_begin [qm_r 0 6 (a0 + 44), qm_r 0 0 b5] h7) (o1 := (none, h9)) (qm_mp (G := qm_Gv) hr) rfl ?_
        show qm_Ret _ (51, [some (qm_r 0 11 a0), some (qm_i x1), some (qm_i x2), some (qm_i x3), some (qm_i x4), some (qm_r 0 0 b5), some (qm_r 0 10 b6), none], [], h9) _
        refine qm_Ret.sts 2 (f' := (54, [some (qm_r 0 11 a0), some (qm_i x1), some (qm_i x2), some (qm_i x3), some (qm_i x4), some (qm_r 0 0 b5), some (qm_r 0 10 b6), some (qm_i (0 : Int32))], [], h9)) rfl ?_
        exact rX11_precedent_54 ho
theorem cX11_precedent_ok : ∀ q ∈ ([(131, 0, 3, wX0_gapFor), (249, 0, 3, wX6_happens), (93, 0, 2, wX9_basketAt), (219, 0, 2, wX9_yearAt), (123, 2, 2, wX11_isSize), (241, 0, 2, wX6_begin)] : List (Nat × Nat × Nat × qm_C)), qm_CallOK RX11 6 144 q.2.1 q.1 q.2.2.1 q.2.2.2 := List.forall_mem_cons.mpr ⟨Or.inl ⟨yX0_gapFor, cX0_gapFor, 3, (some .int), 2, 58, _, sX0_gapFor, ⟨by decide, by decide⟩, ⟨jX0_gapFor, kRX11_131, uRX0⟩, ⟨by decide, by decide, rfl⟩, Or.inl ⟨rfl, rfl, iX0_gapFor, recvX0_gapFor⟩⟩, List.forall_mem_cons.mpr ⟨Or.inl ⟨yX6_happens, cX6_happens, 5, (some .boolean), 5, 120, _, sX6_happens, ⟨by decide, by decide⟩, ⟨jX6_happens, kRX11_249, uRX6⟩, ⟨by decide, by decide, rfl⟩, Or.inl ⟨rfl, rfl, iX6_happens, recvX6_happens⟩⟩, List.forall_mem_cons.mpr ⟨Or.inl ⟨yX9_basketAt, cX9_basketAt, 2, (some (.object "WillowLaw$Basket")), 0, 0, _, sX9_basketAt, ⟨by decide, by decide⟩, ⟨jX9_basketAt, kRX11_93, uRX9⟩, ⟨by decide, by decide, rfl⟩, Or.inl ⟨rfl, rfl, iX9_basketAt, recvX9_basketAt⟩⟩, List.forall_mem_cons.mpr ⟨Or.inl ⟨yX9_yearAt, cX9_yearAt, 2, (some (.object "WillowLaw$Year")), 0, 0, _, sX9_yearAt, ⟨by decide, by decide⟩, ⟨jX9_yearAt, kRX11_219, uRX9⟩, ⟨by decide, by decide, rfl⟩, Or.inl ⟨rfl, rfl, iX9_yearAt, recvX9_yearAt⟩⟩, List.forall_mem_cons.mpr ⟨Or.inl ⟨yX11_isSize, cX11_isSize, 2, (some .boolean), 0, 0, _, sX11_isSize, ⟨by decide, by decide⟩, ⟨jX11_isSize, kRX11_123, uRX11⟩, ⟨by decide, by decide, rfl⟩, Or.inr (Or.inl ⟨rfl, rfl, iX11_isSize⟩)⟩, List.forall_mem_cons.mpr ⟨Or.inl ⟨yX6_begin, cX6_begin, 2, none, 2, 81, _, sX6_begin, ⟨by decide, by decide⟩, ⟨jX6_begin, kRX11_241, uRX6⟩, ⟨by decide, by decide, rfl⟩, Or.inl ⟨rfl, rfl, iX6_begin, recvX6_begin⟩⟩, fun _ h => absurd h List.not_mem_nil⟩⟩⟩⟩⟩⟩
theorem sX11_precedent : qm_Snd yX11_precedent cX11_precedent 8 (some .int) 6 144 wX11_precedent := qm_met (fld := fun k => qm_lk k pfRX11) (con := fun k => qm_lk k pcRX11) (call := fun k => qm_lk k [(131, 0, 3, wX0_gapFor), (249, 0, 3, wX6_happens), (93, 0, 2, wX9_basketAt), (219, 0, 2, wX9_yearAt), (123, 2, 2, wX11_isSize), (241, 0, 2, wX6_begin)]) (tab := qm_tab aX11_precedent) (plainFor_of_name (by decide)) (qm_fld_ok pfRX11_ok) (qm_con_ok pcRX11_ok) (fun idx kd n f hc => cX11_precedent_ok (idx, kd, n, f) (qm_lk_mem hc)) (qm_tab_ok aX11_precedent_ok) (fun vs h o hw => by
  unfold wX11_precedent at hw
  split at hw
  · obtain ⟨r, hr, rfl⟩ := Option.map_eq_some_iff.mp hw
    exact ⟨Nat.le_of_ble_eq_true rfl, rX11_precedent_0 (hr)⟩
  · cases hw)
theorem recvX11_precedent : ∀ vs h o, wX11_precedent vs h = some o → ∃ ci a rest, vs = qm_r 0 ci a :: rest ∧ qm_R ci = yX11_precedent.cls := by
  intro vs h o hw
  unfold wX11_precedent at hw
  split at hw
  · exact ⟨_, _, _, rfl, rfl⟩
  · cases hw
-- RX11 parish(II)I
theorem jX11_parish : Jvm.Cond.code yX11_parish cX11_parish 4 (some .int) ∈ qm_all := List.mem_filter.mpr ⟨by decide +kernel, rfl⟩
theorem iX11_parish : Jvm.Cond.instanceMethod yX11_parish ∈ qm_all ∧ Jvm.Cond.selects yX11_parish.cls yX11_parish yX11_parish ∈ qm_all := ⟨List.mem_filter.mpr ⟨by decide +kernel, rfl⟩, List.mem_filter.mpr ⟨by decide +kernel, rfl⟩⟩
def wX11_parish : qm_C := fun vs h => match vs with
  | [.inr (.inr (some (0, 11, p0))), .inl p1, .inl p2] => (qX11_parish p0 p1 p2 h).map qm_Gi
  | _ => none
def aX11_parish : List (Option (Instr × Nat)) := [some (.aload_n 0, 1), some (.getfield 10, 3), none, none, some (.iload_n 1, 1), some (.invokevirtual 253, 3), none, none, some (.astore_n 3, 1), some (.aload_n 3, 1), some (.ifnonnull 7, 3), none, none, some (.iconst (-1), 1), some (.goto 8, 3), none, none, some (.aload_n 3, 1), some (.iload_n 2, 1), some (.invokevirtual 257, 3), none, none, some (.ireturn, 1)]
theorem aX11_parish_ok : qm_tabok cX11_parish aX11_parish = true := by decide +kernel
def mX11_parish : qm_M := ((some .int), (fun k => qm_lk k pfRX11), (fun k => qm_lk k pcRX11), (fun k => qm_lk k [(253, 0, 2, wX9_parishAt), (257, 0, 2, wX2_part)]), qm_tab aX11_parish)
set_option maxRecDepth 20000 in
set_option maxHeartbeats 2000000 in
theorem rX11_parish_0   {a0 : Nat} {x1 : Int32} {x2 : Int32} {h : qm_H} {r : Int32 × qm_H} (ho : qX11_parish  a0 x1 x2 h = some r) : qm_Ret mX11_parish (0, [some (qm_r 0 11 a0), some (qm_i x1), some (qm_i x2), none], [], h) (qm_Gi r) := by
  unfold qX11_parish at ho
  refine qm_Ret.sts 3 (f' := (5, [some (qm_r 0 11 a0), some (qm_i x1), some (qm_i x2), none], [qm_i x1, qm_r 0 9 (a0 + 1)], h)) rfl ?_
  obtain ⟨r2, h1, hr, ho⟩ := qm_b2e ho
  refine qm_Ret.call (X := wX9_parishAt [qm_r 0 9 (a0 + 1), qm_i x1] h) (o1 := (some (qm_oo 2 r2), h1)) (qm_mp (G := (qm_Go 2)) hr) rfl ?_
  show qm_Ret _ (8, [some (qm_r 0 11 a0), some (qm_i x1), some (qm_i x2), none], [qm_oo 2 r2], h1) _
  refine qm_Ret.sts 2 (f' := (10, [some (qm_r 0 11 a0), some (qm_i x1), some (qm_i x2), some (qm_oo 2 r2)], [qm_oo 2 r2], h1)) rfl ?_
  cases r2 with
  | none =>
    simp only [qm_om] at ho
    cases ho
    exact qm_Ret.ret 4 rfl
  | some b3 =>
    simp only [qm_om] at ho
    refine qm_Ret.sts 3 (f' := (19, [some (qm_r 0 11 a0), some (qm_i x1), some (qm_i x2), some (qm_r 0 2 b3)], [qm_i x2, qm_r 0 2 b3], h1)) rfl ?_
    obtain ⟨r5, h4, hr, ho⟩ := qm_b2e ho
    refine qm_Ret.call (X := wX2_part [qm_r 0 2 b3, qm_i x2] h1) (o1 := (some (qm_i r5), h4)) (qm_mp (G := qm_Gi) hr) rfl ?_
    show qm_Ret _ (22, [some (qm_r 0 11 a0), some (qm_i x1), some (qm_i x2), some (qm_r 0 2 b3)], [qm_i r5], h4) _
    cases ho
    exact qm_Ret.ret 1 rfl
theorem cX11_parish_ok : ∀ q ∈ ([(253, 0, 2, wX9_parishAt), (257, 0, 2, wX2_part)] : List (Nat × Nat × Nat × qm_C)), qm_CallOK RX11 1 21 q.2.1 q.1 q.2.2.1 q.2.2.2 := List.forall_mem_cons.mpr ⟨Or.inl ⟨yX9_parishAt, cX9_parishAt, 2, (some (.object "WillowLaw$Parish")), 0, 0, _, sX9_parishAt, ⟨by decide, by decide⟩, ⟨jX9_parishAt, kRX11_253, uRX9⟩, ⟨by decide, by decide, rfl⟩, Or.inl ⟨rfl, rfl, iX9_parishAt, recvX9_parishAt⟩⟩, List.forall_mem_cons.mpr ⟨Or.inl ⟨yX2_part, cX2_part, 2, (some .int), 0, 0, _, sX2_part, ⟨by decide, by decide⟩, ⟨jX2_part, kRX11_257, uRX2⟩, ⟨by decide, by decide, rfl⟩, Or.inl ⟨rfl, rfl, iX2_part, recvX2_part⟩⟩, fun _ h => absurd h List.not_mem_nil⟩⟩
theorem sX11_parish : qm_Snd yX11_parish cX11_parish 4 (some .int) 1 21 wX11_parish := qm_met (fld := fun k => qm_lk k pfRX11) (con := fun k => qm_lk k pcRX11) (call := fun k => qm_lk k [(253, 0, 2, wX9_parishAt), (257, 0, 2, wX2_part)]) (tab := qm_tab aX11_parish) (plainFor_of_name (by decide)) (qm_fld_ok pfRX11_ok) (qm_con_ok pcRX11_ok) (fun idx kd n f hc => cX11_parish_ok (idx, kd, n, f) (qm_lk_mem hc)) (qm_tab_ok aX11_parish_ok) (fun vs h o hw => by
  unfold wX11_parish at hw
  split at hw
  · obtain ⟨r, hr, rfl⟩ := Option.map_eq_some_iff.mp hw
    exact ⟨Nat.le_of_ble_eq_true rfl, rX11_parish_0 (hr)⟩
  · cases hw)
theorem recvX11_parish : ∀ vs h o, wX11_parish vs h = some o → ∃ ci a rest, vs = qm_r 0 ci a :: rest ∧ qm_R ci = yX11_parish.cls := by
  intro vs h o hw
  unfold wX11_parish at hw
  split at hw
  · exact ⟨_, _, _, rfl, rfl⟩
  · cases hw
-- RX11 cutting(II)I
theorem jX11_cutting : Jvm.Cond.code yX11_cutting cX11_cutting 4 (some .int) ∈ qm_all := List.mem_filter.mpr ⟨by decide +kernel, rfl⟩
theorem iX11_cutting : Jvm.Cond.instanceMethod yX11_cutting ∈ qm_all ∧ Jvm.Cond.selects yX11_cutting.cls yX11_cutting yX11_cutting ∈ qm_all := ⟨List.mem_filter.mpr ⟨by decide +kernel, rfl⟩, List.mem_filter.mpr ⟨by decide +kernel, rfl⟩⟩
def wX11_cutting : qm_C := fun vs h => match vs with
  | [.inr (.inr (some (0, 11, p0))), .inl p1, .inl p2] => (qX11_cutting p0 p1 p2 h).map qm_Gi
  | _ => none
def aX11_cutting : List (Option (Instr × Nat)) := [some (.aload_n 0, 1), some (.getfield 10, 3), none, none, some (.iload_n 1, 1), some (.invokevirtual 253, 3), none, none, some (.astore_n 3, 1), some (.aload_n 3, 1), some (.ifnonnull 5, 3), none, none, some (.iconst (-1), 1), some (.ireturn, 1), some (.iload_n 2, 1), some (.tableswitch 55 (-3) (-1) #[46, 37, 28], 28), none, none, none, none, none, none, none, none, none, none, none, none, none, none, none, none, none, none, none, none, none, none, none, none, none, none, none, some (.aload_n 0, 1), some (.getfield 50, 3), none, none, some (.aload_n 3, 1), some (.invokevirtual 260, 3), none, none, some (.ireturn, 1), some (.aload_n 0, 1), some (.getfield 50, 3), none, none, some (.aload_n 3, 1), some (.invokevirtual 264, 3), none, none, some (.ireturn, 1), some (.aload_n 0, 1), some (.getfield 50, 3), none, none, some (.aload_n 3, 1), some (.invokevirtual 267, 3), none, none, some (.ireturn, 1), some (.iload_n 2, 1), some (.ifCond .lt 11, 3), none, none, some (.iload_n 2, 1), some (.aload_n 3, 1), some (.getfield 270, 3), none, none, some (.if_icmp .lt 7, 3), none, none, some (.iconst (-1), 1), some (.goto 12, 3), none, none, some (.aload_n 0, 1), some (.getfield 50, 3), none, none, some (.aload_n 3, 1), some (.iload_n 2, 1), some (.invokevirtual 273, 3), none, none, some (.ireturn, 1)]
theorem aX11_cutting_ok : qm_tabok cX11_cutting aX11_cutting = true := by decide +kernel
def mX11_cutting : qm_M := ((some .int), (fun k => qm_lk k pfRX11), (fun k => qm_lk k pcRX11), (fun k => qm_lk k [(253, 0, 2, wX9_parishAt), (267, 0, 2, wX4_longest), (264, 0, 2, wX4_spare), (260, 0, 2, wX4_fewest), (273, 0, 3, wX4_rodOf)]), qm_tab aX11_cutting)
set_option maxRecDepth 20000 in
set_option maxHeartbeats 2000000 in
theorem rX11_cutting_0   {a0 : Nat} {x1 : Int32} {x2 : Int32} {h : qm_H} {r : Int32 × qm_H} (ho : qX11_cutting  a0 x1 x2 h = some r) : qm_Ret mX11_cutting (0, [some (qm_r 0 11 a0), some (qm_i x1), some (qm_i x2), none], [], h) (qm_Gi r) := by
  unfold qX11_cutting at ho
  refine qm_Ret.sts 3 (f' := (5, [some (qm_r 0 11 a0), some (qm_i x1), some (qm_i x2), none], [qm_i x1, qm_r 0 9 (a0 + 1)], h)) rfl ?_
  obtain ⟨r2, h1, hr, ho⟩ := qm_b2e ho
  refine qm_Ret.call (X := wX9_parishAt [qm_r 0 9 (a0 + 1), qm_i x1] h) (o1 := (some (qm_oo 2 r2), h1)) (qm_mp (G := (qm_Go 2)) hr) rfl ?_
  show qm_Ret _ (8, [some (qm_r 0 11 a0), some (qm_i x1), some (qm_i x2), none], [qm_oo 2 r2], h1) _
  refine qm_Ret.sts 2 (f' := (10, [some (qm_r 0 11 a0), some (qm_i x1), some (qm_i x2), some (qm_oo 2 r2)], [qm_oo 2 r2], h1)) rfl ?_
  cases r2 with
  | none =>
    simp only [qm_om] at ho
    cases ho
    exact qm_Ret.ret 3 rfl
  | some b3 =>
    simp only [qm_om] at ho
    refine qm_Ret.sts 2 (f' := (16, [some (qm_r 0 11 a0), some (qm_i x1), some (qm_i x2), some (qm_r 0 2 b3)], [qm_i x2], h1)) rfl ?_
    by_cases hc0 : x2 = (-3 : Int32)
    · rw [if_pos hc0] at ho
      refine qm_Ret.sw (z := (-3 : Int32)) (f1 := (62, [some (qm_r 0 11 a0), some (qm_i x1), some (qm_i x2), some (qm_r 0 2 b3)], [], h1)) hc0 rfl rfl ?_
      refine qm_Ret.sts 3 (f' := (67, [some (qm_r 0 11 a0), some (qm_i x1), some (qm_i x2), some (qm_r 0 2 b3)], [qm_r 0 2 b3, qm_r 0 4 (a0 + 53)], h1)) rfl ?_
      obtain ⟨r5, h4, hr, ho⟩ := qm_b2e ho
      refine qm_Ret.call (X := wX4_longest [qm_r 0 4 (a0 + 53), qm_r 0 2 b3] h1) (o1 := (some (qm_i r5), h4)) (qm_mp (G := qm_Gi) hr) rfl ?_
      show qm_Ret _ (70, [some (qm_r 0 11 a0), some (qm_i x1), some (qm_i x2), some (qm_r 0 2 b3)], [qm_i r5], h4) _
      cases ho
      exact qm_Ret.ret 1 rfl
    · rw [if_neg hc0] at ho
      by_cases hc1 : x2 = (-2 : Int32)
      · rw [if_pos hc1] at ho
        refine qm_Ret.sw (z := (-2 : Int32)) (f1 := (53, [some (qm_r 0 11 a0), some (qm_i x1), some (qm_i x2), some (qm_r 0 2 b3)], [], h1)) hc1 rfl rfl ?_
        refine qm_Ret.sts 3 (f' := (58, [some (qm_r 0 11 a0), some (qm_i x1), some (qm_i x2), some (qm_r 0 2 b3)], [qm_r 0 2 b3, qm_r 0 4 (a0 + 53)], h1)) rfl ?_
        obtain ⟨r7, h6, hr, ho⟩ := qm_b2e ho
        refine qm_Ret.call (X := wX4_spare [qm_r 0 4 (a0 + 53), qm_r 0 2 b3] h1) (o1 := (some (qm_i r7), h6)) (qm_mp (G := qm_Gi) hr) rfl ?_
        show qm_Ret _ (61, [some (qm_r 0 11 a0), some (qm_i x1), some (qm_i x2), some (qm_r 0 2 b3)], [qm_i r7], h6) _
        cases ho
        exact qm_Ret.ret 1 rfl
      · rw [if_neg hc1] at ho
        by_cases hc2 : x2 = (-1 : Int32)
        · rw [if_pos hc2] at ho
          refine qm_Ret.sw (z := (-1 : Int32)) (f1 := (44, [some (qm_r 0 11 a0), some (qm_i x1), some (qm_i x2), some (qm_r 0 2 b3)], [], h1)) hc2 rfl rfl ?_
          refine qm_Ret.sts 3 (f' := (49, [some (qm_r 0 11 a0), some (qm_i x1), some (qm_i x2), some (qm_r 0 2 b3)], [qm_r 0 2 b3, qm_r 0 4 (a0 + 53)], h1)) rfl ?_
          obtain ⟨r9, h8, hr, ho⟩ := qm_b2e ho
          refine qm_Ret.call (X := wX4_fewest [qm_r 0 4 (a0 + 53), qm_r 0 2 b3] h1) (o1 := (some (qm_i r9), h8)) (qm_mp (G := qm_Gi) hr) rfl ?_
          show qm_Ret _ (52, [some (qm_r 0 11 a0), some (qm_i x1), some (qm_i x2), some (qm_r 0 2 b3)], [qm_i r9], h8) _
          cases ho
          exact qm_Ret.ret 1 rfl
        · rw [if_neg hc2] at ho
          have nhc0 := lv_neT hc0 (show (-3 : Int32).toInt = -3 by decide)
          have nhc1 := lv_neT hc1 (show (-2 : Int32).toInt = -2 by decide)
          have nhc2 := lv_neT hc2 (show (-1 : Int32).toInt = -1 by decide)
          refine qm_Ret.swd (d := 55) (lo := -3) (hi := -1) (pc := 16) (by omega) (by decide) rfl ?_
          show qm_Ret _ (71, [some (qm_r 0 11 a0), some (qm_i x1), some (qm_i x2), some (qm_r 0 2 b3)], [], h1) _
          refine qm_Ret.sts 1 (f' := (72, [some (qm_r 0 11 a0), some (qm_i x1), some (qm_i x2), some (qm_r 0 2 b3)], [qm_i x2], h1)) rfl ?_
          refine qm_Ret.lt (t := 83) (e := 75) rfl (fun hc => ?_) (fun hc => ?_)
          · rw [if_pos hc] at ho
            cases ho
            exact qm_Ret.ret 3 rfl
          · rw [if_neg hc] at ho
            refine qm_Ret.sts 3 (f' := (80, [some (qm_r 0 11 a0), some (qm_i x1), some (qm_i x2), some (qm_r 0 2 b3)], [qm_i (h1.1 b3 3), qm_i x2], h1)) rfl ?_
            refine qm_Ret.lt (t := 87) (e := 83) rfl (fun hc => ?_) (fun hc => ?_)
            · rw [if_pos hc] at ho
              refine qm_Ret.sts 4 (f' := (93, [some (qm_r 0 11 a0), some (qm_i x1), some (qm_i x2), some (qm_r 0 2 b3)], [qm_i x2, qm_r 0 2 b3, qm_r 0 4 (a0 + 53)], h1)) rfl ?_
              obtain ⟨r11, h10, hr, ho⟩ := qm_b2e ho
              refine qm_Ret.call (X := wX4_rodOf [qm_r 0 4 (a0 + 53), qm_r 0 2 b3, qm_i x2] h1) (o1 := (some (qm_i r11), h10)) (qm_mp (G := qm_Gi) hr) rfl ?_
              show qm_Ret _ (96, [some (qm_r 0 11 a0), some (qm_i x1), some (qm_i x2), some (qm_r 0 2 b3)], [qm_i r11], h10) _
              cases ho
              exact qm_Ret.ret 1 rfl
            · rw [if_neg hc] at ho
              cases ho
              exact qm_Ret.ret 3 rfl
theorem cX11_cutting_ok : ∀ q ∈ ([(253, 0, 2, wX9_parishAt), (267, 0, 2, wX4_longest), (264, 0, 2, wX4_spare), (260, 0, 2, wX4_fewest), (273, 0, 3, wX4_rodOf)] : List (Nat × Nat × Nat × qm_C)), qm_CallOK RX11 5 123 q.2.1 q.1 q.2.2.1 q.2.2.2 := List.forall_mem_cons.mpr ⟨Or.inl ⟨yX9_parishAt, cX9_parishAt, 2, (some (.object "WillowLaw$Parish")), 0, 0, _, sX9_parishAt, ⟨by decide, by decide⟩, ⟨jX9_parishAt, kRX11_253, uRX9⟩, ⟨by decide, by decide, rfl⟩, Or.inl ⟨rfl, rfl, iX9_parishAt, recvX9_parishAt⟩⟩, List.forall_mem_cons.mpr ⟨Or.inl ⟨yX4_longest, cX4_longest, 4, (some .int), 3, 70, _, sX4_longest, ⟨by decide, by decide⟩, ⟨jX4_longest, kRX11_267, uRX4⟩, ⟨by decide, by decide, rfl⟩, Or.inl ⟨rfl, rfl, iX4_longest, recvX4_longest⟩⟩, List.forall_mem_cons.mpr ⟨Or.inl ⟨yX4_spare, cX4_spare, 3, (some .int), 3, 70, _, sX4_spare, ⟨by decide, by decide⟩, ⟨jX4_spare, kRX11_264, uRX4⟩, ⟨by decide, by decide, rfl⟩, Or.inl ⟨rfl, rfl, iX4_spare, recvX4_spare⟩⟩, List.forall_mem_cons.mpr ⟨Or.inl ⟨yX4_fewest, cX4_fewest, 3, (some .int), 3, 70, _, sX4_fewest, ⟨by decide, by decide⟩, ⟨jX4_fewest, kRX11_260, uRX4⟩, ⟨by decide, by decide, rfl⟩, Or.inl ⟨rfl, rfl, iX4_fewest, recvX4_fewest⟩⟩, List.forall_mem_cons.mpr ⟨Or.inl ⟨yX4_rodOf, cX4_rodOf, 7, (some .int), 4, 97, _, sX4_rodOf, ⟨by decide, by decide⟩, ⟨jX4_rodOf, kRX11_273, uRX4⟩, ⟨by decide, by decide, rfl⟩, Or.inl ⟨rfl, rfl, iX4_rodOf, recvX4_rodOf⟩⟩, fun _ h => absurd h List.not_mem_nil⟩⟩⟩⟩⟩
theorem sX11_cutting : qm_Snd yX11_cutting cX11_cutting 4 (some .int) 5 123 wX11_cutting := qm_met (fld := fun k => qm_lk k pfRX11) (con := fun k => qm_lk k pcRX11) (call := fun k => qm_lk k [(253, 0, 2, wX9_parishAt), (267, 0, 2, wX4_longest), (264, 0, 2, wX4_spare), (260, 0, 2, wX4_fewest), (273, 0, 3, wX4_rodOf)]) (tab := qm_tab aX11_cutting) (plainFor_of_name (by decide)) (qm_fld_ok pfRX11_ok) (qm_con_ok pcRX11_ok) (fun idx kd n f hc => cX11_cutting_ok (idx, kd, n, f) (qm_lk_mem hc)) (qm_tab_ok aX11_cutting_ok) (fun vs h o hw => by
  unfold wX11_cutting at hw
  split at hw
  · obtain ⟨r, hr, rfl⟩ := Option.map_eq_some_iff.mp hw
    exact ⟨Nat.le_of_ble_eq_true rfl, rX11_cutting_0 (hr)⟩
  · cases hw)
theorem recvX11_cutting : ∀ vs h o, wX11_cutting vs h = some o → ∃ ci a rest, vs = qm_r 0 ci a :: rest ∧ qm_R ci = yX11_cutting.cls := by
  intro vs h o hw
  unfold wX11_cutting at hw
  split at hw
  · exact ⟨_, _, _, rfl, rfl⟩
  · cases hw
-- RX11 kept(I)I
theorem jX11_kept : Jvm.Cond.code yX11_kept cX11_kept 4 (some .int) ∈ qm_all := List.mem_filter.mpr ⟨by decide +kernel, rfl⟩
theorem iX11_kept : Jvm.Cond.instanceMethod yX11_kept ∈ qm_all ∧ Jvm.Cond.selects yX11_kept.cls yX11_kept yX11_kept ∈ qm_all := ⟨List.mem_filter.mpr ⟨by decide +kernel, rfl⟩, List.mem_filter.mpr ⟨by decide +kernel, rfl⟩⟩
def wX11_kept : qm_C := fun vs h => match vs with
  | [.inr (.inr (some (0, 11, p0))), .inl p1] => (qX11_kept p0 p1 h).map qm_Gi
  | _ => none
def aX11_kept : List (Option (Instr × Nat)) := [some (.aload_n 0, 1), some (.getfield 10, 3), none, none, some (.iload_n 1, 1), some (.invokevirtual 253, 3), none, none, some (.astore_n 2, 1), some (.aload_n 2, 1), some (.ifnonnull 5, 3), none, none, some (.iconst (-1), 1), some (.ireturn, 1), some (.aload_n 0, 1), some (.getfield 50, 3), none, none, some (.aload_n 2, 1), some (.invokevirtual 260, 3), none, none, some (.istore_n 3, 1), some (.iload_n 3, 1), some (.iconst (-1), 1), some (.if_icmp .ne 7, 3), none, none, some (.iconst (-1), 1), some (.goto 9, 3), none, none, some (.aload_n 2, 1), some (.getfield 277, 3), none, none, some (.iload_n 3, 1), some (.isub, 1), some (.ireturn, 1)]
theorem aX11_kept_ok : qm_tabok cX11_kept aX11_kept = true := by decide +kernel
def mX11_kept : qm_M := ((some .int), (fun k => qm_lk k pfRX11), (fun k => qm_lk k pcRX11), (fun k => qm_lk k [(253, 0, 2, wX9_parishAt), (260, 0, 2, wX4_fewest)]), qm_tab aX11_kept)
set_option maxRecDepth 20000 in
set_option maxHeartbeats 2000000 in
theorem rX11_kept_0   {a0 : Nat} {x1 : Int32} {h : qm_H} {r : Int32 × qm_H} (ho : qX11_kept  a0 x1 h = some r) : qm_Ret mX11_kept (0, [some (qm_r 0 11 a0), some (qm_i x1), none, none], [], h) (qm_Gi r) := by
  unfold qX11_kept at ho
  refine qm_Ret.sts 3 (f' := (5, [some (qm_r 0 11 a0), some (qm_i x1), none, none], [qm_i x1, qm_r 0 9 (a0 + 1)], h)) rfl ?_
  obtain ⟨r2, h1, hr, ho⟩ := qm_b2e ho
  refine qm_Ret.call (X := wX9_parishAt [qm_r 0 9 (a0 + 1), qm_i x1] h) (o1 := (some (qm_oo 2 r2), h1)) (qm_mp (G := (qm_Go 2)) hr) rfl ?_
  show qm_Ret _ (8, [some (qm_r 0 11 a0), some (qm_i x1), none, none], [qm_oo 2 r2], h1) _
  refine qm_Ret.sts 2 (f' := (10, [some (qm_r 0 11 a0), some (qm_i x1), some (qm_oo 2 r2), none], [qm_oo 2 r2], h1)) rfl ?_
  cases r2 with
  | none =>
    simp only [qm_om] at ho
    cases ho
    exact qm_Ret.ret 3 rfl
  | some b3 =>
    simp only [qm_om] at ho
    refine qm_Ret.sts 4 (f' := (20, [some (qm_r 0 11 a0), some (qm_i x1), some (qm_r 0 2 b3), none], [qm_r 0 2 b3, qm_r 0 4 (a0 + 53)], h1)) rfl ?_
    obtain ⟨r5, h4, hr, ho⟩ := qm_b2e ho
    refine qm_Ret.call (X := wX4_fewest [qm_r 0 4 (a0 + 53), qm_r 0 2 b3] h1) (o1 := (some (qm_i r5), h4)) (qm_mp (G := qm_Gi) hr) rfl ?_
    show qm_Ret _ (23, [some (qm_r 0 11 a0), some (qm_i x1), some (qm_r 0 2 b3), none], [qm_i r5], h4) _
    refine qm_Ret.sts 3 (f' := (26, [some (qm_r 0 11 a0), some (qm_i x1), some (qm_r 0 2 b3), some (qm_i r5)], [qm_i (-1 : Int32), qm_i r5], h4)) rfl ?_
    refine qm_Ret.ne (t := 33) (e := 29) rfl (fun hc => ?_) (fun hc => ?_)
    · rw [if_pos hc] at ho
      cases ho
      exact qm_Ret.ret 3 rfl
    · rw [if_neg hc] at ho
      cases ho
      exact qm_Ret.ret 5 rfl
theorem cX11_kept_ok : ∀ q ∈ ([(253, 0, 2, wX9_parishAt), (260, 0, 2, wX4_fewest)] : List (Nat × Nat × Nat × qm_C)), qm_CallOK RX11 4 92 q.2.1 q.1 q.2.2.1 q.2.2.2 := List.forall_mem_cons.mpr ⟨Or.inl ⟨yX9_parishAt, cX9_parishAt, 2, (some (.object "WillowLaw$Parish")), 0, 0, _, sX9_parishAt, ⟨by decide, by decide⟩, ⟨jX9_parishAt, kRX11_253, uRX9⟩, ⟨by decide, by decide, rfl⟩, Or.inl ⟨rfl, rfl, iX9_parishAt, recvX9_parishAt⟩⟩, List.forall_mem_cons.mpr ⟨Or.inl ⟨yX4_fewest, cX4_fewest, 3, (some .int), 3, 70, _, sX4_fewest, ⟨by decide, by decide⟩, ⟨jX4_fewest, kRX11_260, uRX4⟩, ⟨by decide, by decide, rfl⟩, Or.inl ⟨rfl, rfl, iX4_fewest, recvX4_fewest⟩⟩, fun _ h => absurd h List.not_mem_nil⟩⟩
theorem sX11_kept : qm_Snd yX11_kept cX11_kept 4 (some .int) 4 92 wX11_kept := qm_met (fld := fun k => qm_lk k pfRX11) (con := fun k => qm_lk k pcRX11) (call := fun k => qm_lk k [(253, 0, 2, wX9_parishAt), (260, 0, 2, wX4_fewest)]) (tab := qm_tab aX11_kept) (plainFor_of_name (by decide)) (qm_fld_ok pfRX11_ok) (qm_con_ok pcRX11_ok) (fun idx kd n f hc => cX11_kept_ok (idx, kd, n, f) (qm_lk_mem hc)) (qm_tab_ok aX11_kept_ok) (fun vs h o hw => by
  unfold wX11_kept at hw
  split at hw
  · obtain ⟨r, hr, rfl⟩ := Option.map_eq_some_iff.mp hw
    exact ⟨Nat.le_of_ble_eq_true rfl, rX11_kept_0 (hr)⟩
  · cases hw)
theorem recvX11_kept : ∀ vs h o, wX11_kept vs h = some o → ∃ ci a rest, vs = qm_r 0 ci a :: rest ∧ qm_R ci = yX11_kept.cls := by
  intro vs h o hw
  unfold wX11_kept at hw
  split at hw
  · exact ⟨_, _, _, rfl, rfl⟩
  · cases hw
-- RX11 game(IZZ)I
theorem jX11_game : Jvm.Cond.code yX11_game cX11_game 5 (some .int) ∈ qm_all := List.mem_filter.mpr ⟨by decide +kernel, rfl⟩
theorem iX11_game : Jvm.Cond.instanceMethod yX11_game ∈ qm_all ∧ Jvm.Cond.selects yX11_game.cls yX11_game yX11_game ∈ qm_all := ⟨List.mem_filter.mpr ⟨by decide +kernel, rfl⟩, List.mem_filter.mpr ⟨by decide +kernel, rfl⟩⟩
def wX11_game : qm_C := fun vs h => match vs with
  | [.inr (.inr (some (0, 11, p0))), .inl p1, .inl p2, .inl p3] => (qX11_game p0 p1 p2 p3 h).map qm_Gi
  | _ => none
def aX11_game : List (Option (Instr × Nat)) := [some (.aload_n 0, 1), some (.getfield 10, 3), none, none, some (.iload_n 1, 1), some (.invokevirtual 253, 3), none, none, some (.astore 4, 2), none, some (.aload 4, 2), none, some (.ifnonnull 6, 3), none, none, some (.bipush (-2), 2), none, some (.ireturn, 1), some (.iload_n 3, 1), some (.ifCond .eq 10, 3), none, none, some (.aload 4, 2), none, some (.iload_n 2, 1), some (.invokevirtual 280, 3), none, none, some (.ireturn, 1), some (.aload 4, 2), none, some (.iconst (-1), 1), some (.iconst 0, 1), some (.iload_n 2, 1), some (.invokevirtual 283, 3), none, none, some (.ifCond .eq 7, 3), none, none, some (.iconst 1, 1), some (.goto 4, 3), none, none, some (.iconst 0, 1), some (.ireturn, 1)]
theorem aX11_game_ok : qm_tabok cX11_game aX11_game = true := by decide +kernel
def mX11_game : qm_M := ((some .int), (fun k => qm_lk k pfRX11), (fun k => qm_lk k pcRX11), (fun k => qm_lk k [(253, 0, 2, wX9_parishAt), (283, 0, 4, wX2_wins), (280, 0, 2, wX2_winningCut)]), qm_tab aX11_game)
set_option maxRecDepth 20000 in
set_option maxHeartbeats 2000000 in
theorem rX11_game_0   {a0 : Nat} {x1 : Int32} {x2 : Int32} {x3 : Int32} {h : qm_H} {r : Int32 × qm_H} (ho : qX11_game  a0 x1 x2 x3 h = some r) : qm_Ret mX11_game (0, [some (qm_r 0 11 a0), some (qm_i x1), some (qm_i x2), some (qm_i x3), none], [], h) (qm_Gi r) := by
  unfold qX11_game at ho
  refine qm_Ret.sts 3 (f' := (5, [some (qm_r 0 11 a0), some (qm_i x1), some (qm_i x2), some (qm_i x3), none], [qm_i x1, qm_r 0 9 (a0 + 1)], h)) rfl ?_
  obtain ⟨r2, h1, hr, ho⟩ := qm_b2e ho
  refine qm_Ret.call (X := wX9_parishAt [qm_r 0 9 (a0 + 1), qm_i x1] h) (o1 := (some (qm_oo 2 r2), h1)) (qm_mp (G := (qm_Go 2)) hr) rfl ?_
  show qm_Ret _ (8, [some (qm_r 0 11 a0), some (qm_i x1), some (qm_i x2), some (qm_i x3), none], [qm_oo 2 r2], h1) _
  refine qm_Ret.sts 2 (f' := (12, [some (qm_r 0 11 a0), some (qm_i x1), some (qm_i x2), some (qm_i x3), some (qm_oo 2 r2)], [qm_oo 2 r2], h1)) rfl ?_
  cases r2 with
  | none =>
    simp only [qm_om] at ho
    cases ho
    exact qm_Ret.ret 3 rfl
  | some b3 =>
    simp only [qm_om] at ho
    refine qm_Ret.sts 2 (f' := (19, [some (qm_r 0 11 a0), some (qm_i x1), some (qm_i x2), some (qm_i x3), some (qm_r 0 2 b3)], [qm_i x3], h1)) rfl ?_
    refine qm_Ret.eq (t := 29) (e := 22) rfl (fun hc => ?_) (fun hc => ?_)
    · rw [if_pos hc] at ho
      refine qm_Ret.sts 4 (f' := (34, [some (qm_r 0 11 a0), some (qm_i x1), some (qm_i x2), some (qm_i x3), some (qm_r 0 2 b3)], [qm_i x2, qm_i (0 : Int32), qm_i (-1 : Int32), qm_r 0 2 b3], h1)) rfl ?_
      obtain ⟨r5, h4, hr, ho⟩ := qm_b2e ho
      refine qm_Ret.call (X := wX2_wins [qm_r 0 2 b3, qm_i (-1 : Int32), qm_i (0 : Int32), qm_i x2] h1) (o1 := (some (qm_i r5), h4)) (qm_mp (G := qm_Gi) hr) rfl ?_
      show qm_Ret _ (37, [some (qm_r 0 11 a0), some (qm_i x1), some (qm_i x2), some (qm_i x3), some (qm_r 0 2 b3)], [qm_i r5], h4) _
      refine qm_Ret.eq (t := 44) (e := 40) rfl (fun hc => ?_) (fun hc => ?_)
      · rw [if_pos hc] at ho
        cases ho
        exact qm_Ret.ret 2 rfl
      · rw [if_neg hc] at ho
        cases ho
        exact qm_Ret.ret 3 rfl
    · rw [if_neg hc] at ho
      refine qm_Ret.sts 2 (f' := (25, [some (qm_r 0 11 a0), some (qm_i x1), some (qm_i x2), some (qm_i x3), some (qm_r 0 2 b3)], [qm_i x2, qm_r 0 2 b3], h1)) rfl ?_
      obtain ⟨r7, h6, hr, ho⟩ := qm_b2e ho
      refine qm_Ret.call (X := wX2_winningCut [qm_r 0 2 b3, qm_i x2] h1) (o1 := (some (qm_i r7), h6)) (qm_mp (G := qm_Gi) hr) rfl ?_
      show qm_Ret _ (28, [some (qm_r 0 11 a0), some (qm_i x1), some (qm_i x2), some (qm_i x3), some (qm_r 0 2 b3)], [qm_i r7], h6) _
      cases ho
      exact qm_Ret.ret 1 rfl
theorem cX11_game_ok : ∀ q ∈ ([(253, 0, 2, wX9_parishAt), (283, 0, 4, wX2_wins), (280, 0, 2, wX2_winningCut)] : List (Nat × Nat × Nat × qm_C)), qm_CallOK RX11 2 51 q.2.1 q.1 q.2.2.1 q.2.2.2 := List.forall_mem_cons.mpr ⟨Or.inl ⟨yX9_parishAt, cX9_parishAt, 2, (some (.object "WillowLaw$Parish")), 0, 0, _, sX9_parishAt, ⟨by decide, by decide⟩, ⟨jX9_parishAt, kRX11_253, uRX9⟩, ⟨by decide, by decide, rfl⟩, Or.inl ⟨rfl, rfl, iX9_parishAt, recvX9_parishAt⟩⟩, List.forall_mem_cons.mpr ⟨Or.inl ⟨yX2_wins, cX2_wins, 9, (some .boolean), 0, 0, _, sX2_wins, ⟨by decide, by decide⟩, ⟨jX2_wins, kRX11_283, uRX2⟩, ⟨by decide, by decide, rfl⟩, Or.inl ⟨rfl, rfl, iX2_wins, recvX2_wins⟩⟩, List.forall_mem_cons.mpr ⟨Or.inl ⟨yX2_winningCut, cX2_winningCut, 4, (some .int), 1, 28, _, sX2_winningCut, ⟨by decide, by decide⟩, ⟨jX2_winningCut, kRX11_280, uRX2⟩, ⟨by decide, by decide, rfl⟩, Or.inl ⟨rfl, rfl, iX2_winningCut, recvX2_winningCut⟩⟩, fun _ h => absurd h List.not_mem_nil⟩⟩⟩
theorem sX11_game : qm_Snd yX11_game cX11_game 5 (some .int) 2 51 wX11_game := qm_met (fld := fun k => qm_lk k pfRX11) (con := fun k => qm_lk k pcRX11) (call := fun k => qm_lk k [(253, 0, 2, wX9_parishAt), (283, 0, 4, wX2_wins), (280, 0, 2, wX2_winningCut)]) (tab := qm_tab aX11_game) (plainFor_of_name (by decide)) (qm_fld_ok pfRX11_ok) (qm_con_ok pcRX11_ok) (fun idx kd n f hc => cX11_game_ok (idx, kd, n, f) (qm_lk_mem hc)) (qm_tab_ok aX11_game_ok) (fun vs h o hw => by
  unfold wX11_game at hw
  split at hw
  · obtain ⟨r, hr, rfl⟩ := Option.map_eq_some_iff.mp hw
    exact ⟨Nat.le_of_ble_eq_true rfl, rX11_game_0 (hr)⟩
  · cases hw)
theorem recvX11_game : ∀ vs h o, wX11_game vs h = some o → ∃ ci a rest, vs = qm_r 0 ci a :: rest ∧ qm_R ci = yX11_game.cls := by
  intro vs h o hw
  unfold wX11_game at hw
  split at hw
  · exact ⟨_, _, _, rfl, rfl⟩
  · cases hw
-- RX11 divided(III)I
theorem jX11_divided : Jvm.Cond.code yX11_divided cX11_divided 5 (some .int) ∈ qm_all := List.mem_filter.mpr ⟨by decide +kernel, rfl⟩
theorem iX11_divided : Jvm.Cond.instanceMethod yX11_divided ∈ qm_all ∧ Jvm.Cond.selects yX11_divided.cls yX11_divided yX11_divided ∈ qm_all := ⟨List.mem_filter.mpr ⟨by decide +kernel, rfl⟩, List.mem_filter.mpr ⟨by decide +kernel, rfl⟩⟩
def wX11_divided : qm_C := fun vs h => match vs with
  | [.inr (.inr (some (0, 11, p0))), .inl p1, .inl p2, .inl p3] => (qX11_divided p0 p1 p2 p3 h).map qm_Gi
  | _ => none
def aX11_divided : List (Option (Instr × Nat)) := [some (.aload_n 0, 1), some (.getfield 10, 3), none, none, some (.iload_n 1, 1), some (.invokevirtual 253, 3), none, none, some (.astore 4, 2), none, some (.aload 4, 2), none, some (.ifnull 27, 3), none, none, some (.iload_n 2, 1), some (.iconst 1, 1), some (.if_icmp .lt 22, 3), none, none, some (.iload_n 2, 1), some (.iconst 4, 1), some (.if_icmp .gt 17, 3), none, none, some (.iload_n 3, 1), some (.iconst (-1), 1), some (.if_icmp .lt 12, 3), none, none, some (.iload_n 3, 1), some (.aload 4, 2), none, some (.getfield 277, 3), none, none, some (.if_icmp .lt 5, 3), none, none, some (.iconst (-1), 1), some (.ireturn, 1), some (.aload_n 0, 1), some (.getfield 50, 3), none, none, some (.aload 4, 2), none, some (.iload_n 2, 1), some (.invokevirtual 287, 3), none, none, some (.iload_n 3, 1), some (.iconst (-1), 1), some (.if_icmp .ne 13, 3), none, none, some (.aload_n 0, 1), some (.getfield 50, 3), none, none, some (.getfield 291, 3), none, none, some (.goto 12, 3), none, none, some (.aload_n 0, 1), some (.getfield 50, 3), none, none, some (.getfield 294, 3), none, none, some (.iload_n 3, 1), some (.iaload, 1), some (.ireturn, 1)]
theorem aX11_divided_ok : qm_tabok cX11_divided aX11_divided = true := by decide +kernel
def mX11_divided : qm_M := ((some .int), (fun k => qm_lk k pfRX11), (fun k => qm_lk k pcRX11), (fun k => qm_lk k [(253, 0, 2, wX9_parishAt), (287, 0, 3, wX4_divide)]), qm_tab aX11_divided)
set_option maxRecDepth 20000 in
set_option maxHeartbeats 2000000 in
theorem rX11_divided_0   {a0 : Nat} {x1 : Int32} {x2 : Int32} {x3 : Int32} {h : qm_H} {r : Int32 × qm_H} (ho : qX11_divided  a0 x1 x2 x3 h = some r) : qm_Ret mX11_divided (0, [some (qm_r 0 11 a0), some (qm_i x1), some (qm_i x2), some (qm_i x3), none], [], h) (qm_Gi r) := by
  unfold qX11_divided at ho
  refine qm_Ret.sts 3 (f' := (5, [some (qm_r 0 11 a0), some (qm_i x1), some (qm_i x2), some (qm_i x3), none], [qm_i x1, qm_r 0 9 (a0 + 1)], h)) rfl ?_
  obtain ⟨r2, h1, hr, ho⟩ := qm_b2e ho
  refine qm_Ret.call (X := wX9_parishAt [qm_r 0 9 (a0 + 1), qm_i x1] h) (o1 := (some (qm_oo 2 r2), h1)) (qm_mp (G := (qm_Go 2)) hr) rfl ?_
  show qm_Ret _ (8, [some (qm_r 0 11 a0), some (qm_i x1), some (qm_i x2), some (qm_i x3), none], [qm_oo 2 r2], h1) _
  refine qm_Ret.sts 2 (f' := (12, [some (qm_r 0 11 a0), some (qm_i x1), some (qm_i x2), some (qm_i x3), some (qm_oo 2 r2)], [qm_oo 2 r2], h1)) rfl ?_
  cases r2 with
  | none =>
    simp only [qm_om] at ho
    cases ho
    exact qm_Ret.ret 3 rfl
  | some b3 =>
    simp only [qm_om] at ho
    refine qm_Ret.sts 3 (f' := (17, [some (qm_r 0 11 a0), some (qm_i x1), some (qm_i x2), some (qm_i x3), some (qm_r 0 2 b3)], [qm_i (1 : Int32), qm_i x2], h1)) rfl ?_
    refine qm_Ret.lt (t := 39) (e := 20) rfl (fun hc => ?_) (fun hc => ?_)
    · rw [if_pos hc] at ho
      cases ho
      exact qm_Ret.ret 2 rfl
    · rw [if_neg hc] at ho
      refine qm_Ret.sts 2 (f' := (22, [some (qm_r 0 11 a0), some (qm_i x1), some (qm_i x2), some (qm_i x3), some (qm_r 0 2 b3)], [qm_i (4 : Int32), qm_i x2], h1)) rfl ?_
      refine qm_Ret.gt (t := 39) (e := 25) rfl (fun hc => ?_) (fun hc => ?_)
      · rw [if_pos hc] at ho
        cases ho
        exact qm_Ret.ret 2 rfl
      · rw [if_neg hc] at ho
        refine qm_Ret.sts 2 (f' := (27, [some (qm_r 0 11 a0), some (qm_i x1), some (qm_i x2), some (qm_i x3), some (qm_r 0 2 b3)], [qm_i (-1 : Int32), qm_i x3], h1)) rfl ?_
        refine qm_Ret.lt (t := 39) (e := 30) rfl (fun hc => ?_) (fun hc => ?_)
        · rw [if_pos hc] at ho
          cases ho
          exact qm_Ret.ret 2 rfl
        · rw [if_neg hc] at ho
          refine qm_Ret.sts 3 (f' := (36, [some (qm_r 0 11 a0), some (qm_i x1), some (qm_i x2), some (qm_i x3), some (qm_r 0 2 b3)], [qm_i (h1.1 b3 2), qm_i x3], h1)) rfl ?_
          refine qm_Ret.lt (t := 41) (e := 39) rfl (fun hc => ?_) (fun hc => ?_)
          · rw [if_pos hc] at ho
            refine qm_Ret.sts 4 (f' := (48, [some (qm_r 0 11 a0), some (qm_i x1), some (qm_i x2), some (qm_i x3), some (qm_r 0 2 b3)], [qm_i x2, qm_r 0 2 b3, qm_r 0 4 (a0 + 53)], h1)) rfl ?_
            obtain ⟨h4, hr, ho⟩ := qm_bd ho
            refine qm_Ret.call (X := wX4_divide [qm_r 0 4 (a0 + 53), qm_r 0 2 b3, qm_i x2] h1) (o1 := (none, h4)) (qm_mp (G := qm_Gv) hr) rfl ?_
            show qm_Ret _ (51, [some (qm_r 0 11 a0), some (qm_i x1), some (qm_i x2), some (qm_i x3), some (qm_r 0 2 b3)], [], h4) _
            refine qm_Ret.sts 2 (f' := (53, [some (qm_r 0 11 a0), some (qm_i x1), some (qm_i x2), some (qm_i x3), some (qm_r 0 2 b3)], [qm_i (-1 : Int32), qm_i x3], h4)) rfl ?_
            refine qm_Ret.ne (t := 66) (e := 56) rfl (fun hc => ?_) (fun hc => ?_)
            · rw [if_pos hc] at ho
              cases ho
              exact qm_Ret.ret 5 rfl
            · rw [if_neg hc] at ho
              refine qm_Ret.sts 4 (f' := (74, [some (qm_r 0 11 a0), some (qm_i x1), some (qm_i x2), some (qm_i x3), some (qm_r 0 2 b3)], [qm_i x3, qm_r 1 6 ((a0 + 53) + 5)], h4)) rfl ?_
              obtain ⟨hg, ho⟩ := qm_ifn ho
              refine qm_Ret.gn (f1 := (75, [some (qm_r 0 11 a0), some (qm_i x1), some (qm_i x2), some (qm_i x3), some (qm_r 0 2 b3)], [qm_i (h4.1 ((a0 + 53) + 5) (x3).toNatClampNeg)], h4)) hg rfl ?_
              cases ho
              exact qm_Ret.ret 1 rfl
          · rw [if_neg hc] at ho
            cases ho
            exact qm_Ret.ret 2 rfl
theorem cX11_divided_ok : ∀ q ∈ ([(253, 0, 2, wX9_parishAt), (287, 0, 3, wX4_divide)] : List (Nat × Nat × Nat × qm_C)), qm_CallOK RX11 3 74 q.2.1 q.1 q.2.2.1 q.2.2.2 := List.forall_mem_cons.mpr ⟨Or.inl ⟨yX9_parishAt, cX9_parishAt, 2, (some (.object "WillowLaw$Parish")), 0, 0, _, sX9_parishAt, ⟨by decide, by decide⟩, ⟨jX9_parishAt, kRX11_253, uRX9⟩, ⟨by decide, by decide, rfl⟩, Or.inl ⟨rfl, rfl, iX9_parishAt, recvX9_parishAt⟩⟩, List.forall_mem_cons.mpr ⟨Or.inl ⟨yX4_divide, cX4_divide, 7, none, 2, 48, _, sX4_divide, ⟨by decide, by decide⟩, ⟨jX4_divide, kRX11_287, uRX4⟩, ⟨by decide, by decide, rfl⟩, Or.inl ⟨rfl, rfl, iX4_divide, recvX4_divide⟩⟩, fun _ h => absurd h List.not_mem_nil⟩⟩
theorem sX11_divided : qm_Snd yX11_divided cX11_divided 5 (some .int) 3 74 wX11_divided := qm_met (fld := fun k => qm_lk k pfRX11) (con := fun k => qm_lk k pcRX11) (call := fun k => qm_lk k [(253, 0, 2, wX9_parishAt), (287, 0, 3, wX4_divide)]) (tab := qm_tab aX11_divided) (plainFor_of_name (by decide)) (qm_fld_ok pfRX11_ok) (qm_con_ok pcRX11_ok) (fun idx kd n f hc => cX11_divided_ok (idx, kd, n, f) (qm_lk_mem hc)) (qm_tab_ok aX11_divided_ok) (fun vs h o hw => by
  unfold wX11_divided at hw
  split at hw
  · obtain ⟨r, hr, rfl⟩ := Option.map_eq_some_iff.mp hw
    exact ⟨Nat.le_of_ble_eq_true rfl, rX11_divided_0 (hr)⟩
  · cases hw)
theorem recvX11_divided : ∀ vs h o, wX11_divided vs h = some o → ∃ ci a rest, vs = qm_r 0 ci a :: rest ∧ qm_R ci = yX11_divided.cls := by
  intro vs h o hw
  unfold wX11_divided at hw
  split at hw
  · exact ⟨_, _, _, rfl, rfl⟩
  · cases hw
-- RX11 clues(II)I
theorem jX11_clues : Jvm.Cond.code yX11_clues cX11_clues 4 (some .int) ∈ qm_all := List.mem_filter.mpr ⟨by decide +kernel, rfl⟩
theorem iX11_clues : Jvm.Cond.instanceMethod yX11_clues ∈ qm_all ∧ Jvm.Cond.selects yX11_clues.cls yX11_clues yX11_clues ∈ qm_all := ⟨List.mem_filter.mpr ⟨by decide +kernel, rfl⟩, List.mem_filter.mpr ⟨by decide +kernel, rfl⟩⟩
def wX11_clues : qm_C := fun vs h => match vs with
  | [.inr (.inr (some (0, 11, p0))), .inl p1, .inl p2] => (qX11_clues p0 p1 p2 h).map qm_Gi
  | _ => none
def aX11_clues : List (Option (Instr × Nat)) := [some (.aload_n 0, 1), some (.getfield 10, 3), none, none, some (.iload_n 1, 1), some (.invokevirtual 297, 3), none, none, some (.astore_n 3, 1), some (.aload_n 3, 1), some (.ifnonnull 7, 3), none, none, some (.iconst (-1), 1), some (.goto 8, 3), none, none, some (.aload_n 3, 1), some (.iload_n 2, 1), some (.invokevirtual 301, 3), none, none, some (.ireturn, 1)]
theorem aX11_clues_ok : qm_tabok cX11_clues aX11_clues = true := by decide +kernel
def mX11_clues : qm_M := ((some .int), (fun k => qm_lk k pfRX11), (fun k => qm_lk k pcRX11), (fun k => qm_lk k [(297, 0, 2, wX9_cluesAt), (301, 0, 2, wX1_part)]), qm_tab aX11_clues)
set_option maxRecDepth 20000 in
set_option maxHeartbeats 2000000 in
theorem rX11_clues_0   {a0 : Nat} {x1 : Int32} {x2 : Int32} {h : qm_H} {r : Int32 × qm_H} (ho : qX11_clues  a0 x1 x2 h = some r) : qm_Ret mX11_clues (0, [some (qm_r 0 11 a0), some (qm_i x1), some (qm_i x2), none], [], h) (qm_Gi r) := by
  unfold qX11_clues at ho
  refine qm_Ret.sts 3 (f' := (5, [some (qm_r 0 11 a0), some (qm_i x1), some (qm_i x2), none], [qm_i x1, qm_r 0 9 (a0 + 1)], h)) rfl ?_
  obtain ⟨r2, h1, hr, ho⟩ := qm_b2e ho
  refine qm_Ret.call (X := wX9_cluesAt [qm_r 0 9 (a0 + 1), qm_i x1] h) (o1 := (some (qm_oo 1 r2), h1)) (qm_mp (G := (qm_Go 1)) hr) rfl ?_
  show qm_Ret _ (8, [some (qm_r 0 11 a0), some (qm_i x1), some (qm_i x2), none], [qm_oo 1 r2], h1) _
  refine qm_Ret.sts 2 (f' := (10, [some (qm_r 0 11 a0), some (qm_i x1), some (qm_i x2), some (qm_oo 1 r2)], [qm_oo 1 r2], h1)) rfl ?_
  cases r2 with
  | none =>
    simp only [qm_om] at ho
    cases ho
    exact qm_Ret.ret 4 rfl
  | some b3 =>
    simp only [qm_om] at ho
    refine qm_Ret.sts 3 (f' := (19, [some (qm_r 0 11 a0), some (qm_i x1), some (qm_i x2), some (qm_r 0 1 b3)], [qm_i x2, qm_r 0 1 b3], h1)) rfl ?_
    obtain ⟨r5, h4, hr, ho⟩ := qm_b2e ho
    refine qm_Ret.call (X := wX1_part [qm_r 0 1 b3, qm_i x2] h1) (o1 := (some (qm_i r5), h4)) (qm_mp (G := qm_Gi) hr) rfl ?_
    show qm_Ret _ (22, [some (qm_r 0 11 a0), some (qm_i x1), some (qm_i x2), some (qm_r 0 1 b3)], [qm_i r5], h4) _
    cases ho
    exact qm_Ret.ret 1 rfl
theorem cX11_clues_ok : ∀ q ∈ ([(297, 0, 2, wX9_cluesAt), (301, 0, 2, wX1_part)] : List (Nat × Nat × Nat × qm_C)), qm_CallOK RX11 1 23 q.2.1 q.1 q.2.2.1 q.2.2.2 := List.forall_mem_cons.mpr ⟨Or.inl ⟨yX9_cluesAt, cX9_cluesAt, 2, (some (.object "WillowLaw$Clues")), 0, 0, _, sX9_cluesAt, ⟨by decide, by decide⟩, ⟨jX9_cluesAt, kRX11_297, uRX9⟩, ⟨by decide, by decide, rfl⟩, Or.inl ⟨rfl, rfl, iX9_cluesAt, recvX9_cluesAt⟩⟩, List.forall_mem_cons.mpr ⟨Or.inl ⟨yX1_part, cX1_part, 4, (some .int), 0, 0, _, sX1_part, ⟨by decide, by decide⟩, ⟨jX1_part, kRX11_301, uRX1⟩, ⟨by decide, by decide, rfl⟩, Or.inl ⟨rfl, rfl, iX1_part, recvX1_part⟩⟩, fun _ h => absurd h List.not_mem_nil⟩⟩
theorem sX11_clues : qm_Snd yX11_clues cX11_clues 4 (some .int) 1 23 wX11_clues := qm_met (fld := fun k => qm_lk k pfRX11) (con := fun k => qm_lk k pcRX11) (call := fun k => qm_lk k [(297, 0, 2, wX9_cluesAt), (301, 0, 2, wX1_part)]) (tab := qm_tab aX11_clues) (plainFor_of_name (by decide)) (qm_fld_ok pfRX11_ok) (qm_con_ok pcRX11_ok) (fun idx kd n f hc => cX11_clues_ok (idx, kd, n, f) (qm_lk_mem hc)) (qm_tab_ok aX11_clues_ok) (fun vs h o hw => by
  unfold wX11_clues at hw
  split at hw
  · obtain ⟨r, hr, rfl⟩ := Option.map_eq_some_iff.mp hw
    exact ⟨Nat.le_of_ble_eq_true rfl, rX11_clues_0 (hr)⟩
  · cases hw)
theorem recvX11_clues : ∀ vs h o, wX11_clues vs h = some o → ∃ ci a rest, vs = qm_r 0 ci a :: rest ∧ qm_R ci = yX11_clues.cls := by
  intro vs h o hw
  unfold wX11_clues at hw
  split at hw
  · exact ⟨_, _, _, rfl, rfl⟩
  · cases hw
-- RX11 gaps(II)I
theorem jX11_gaps : Jvm.Cond.code yX11_gaps cX11_gaps 5 (some .int) ∈ qm_all := List.mem_filter.mpr ⟨by decide +kernel, rfl⟩
theorem iX11_gaps : Jvm.Cond.instanceMethod yX11_gaps ∈ qm_all ∧ Jvm.Cond.selects yX11_gaps.cls yX11_gaps yX11_gaps ∈ qm_all := ⟨List.mem_filter.mpr ⟨by decide +kernel, rfl⟩, List.mem_filter.mpr ⟨by decide +kernel, rfl⟩⟩
def wX11_gaps : qm_C := fun vs h => match vs with
  | [.inr (.inr (some (0, 11, p0))), .inl p1, .inl p2] => (qX11_gaps p0 p1 p2 h).map qm_Gi
  | _ => none
def aX11_gaps : List (Option (Instr × Nat)) := [some (.aload_n 0, 1), some (.getfield 10, 3), none, none, some (.iload_n 1, 1), some (.invokevirtual 297, 3), none, none, some (.astore_n 3, 1), some (.aload_n 3, 1), some (.ifnonnull 6, 3), none, none, some (.bipush (-2), 2), none, some (.ireturn, 1), some (.aload_n 3, 1), some (.getfield 304, 3), none, none, some (.aload_n 3, 1), some (.getfield 305, 3), none, none, some (.imul, 1), some (.istore 4, 2), none, some (.iload_n 2, 1), some (.ifCond .ne 12, 3), none, none, some (.aload_n 0, 1), some (.getfield 57, 3), none, none, some (.aload_n 3, 1), some (.invokevirtual 306, 3), none, none, some (.ireturn, 1), some (.iload_n 2, 1), some (.iconst 1, 1), some (.if_icmp .ne 12, 3), none, none, some (.aload_n 0, 1), some (.getfield 57, 3), none, none, some (.aload_n 3, 1), some (.invokevirtual 310, 3), none, none, some (.ireturn, 1), some (.iload_n 2, 1), some (.bipush 100, 2), none, some (.if_icmp .lt 25, 3), none, none, some (.iload_n 2, 1), some (.bipush 100, 2), none, some (.iload 4, 2), none, some (.iadd, 1), some (.if_icmp .ge 16, 3), none, none, some (.aload_n 0, 1), some (.getfield 57, 3), none, none, some (.aload_n 3, 1), some (.iload_n 2, 1), some (.bipush 100, 2), none, some (.isub, 1), some (.invokevirtual 313, 3), none, none, some (.ireturn, 1), some (.iload_n 2, 1), some (.sipush 1000, 3), none, none, some (.if_icmp .lt 19, 3), none, none, some (.aload_n 0, 1), some (.getfield 57, 3), none, none, some (.aload_n 3, 1), some (.iload_n 2, 1), some (.sipush 1000, 3), none, none, some (.isub, 1), some (.invokevirtual 317, 3), none, none, some (.goto 5, 3), none, none, some (.bipush (-2), 2), none, some (.ireturn, 1)]
theorem aX11_gaps_ok : qm_tabok cX11_gaps aX11_gaps = true := by decide +kernel
def mX11_gaps : qm_M := ((some .int), (fun k => qm_lk k pfRX11), (fun k => qm_lk k pcRX11), (fun k => qm_lk k [(317, 0, 3, wX5_gapAt), (297, 0, 2, wX9_cluesAt), (313, 0, 3, wX5_sureOf), (310, 0, 2, wX5_bestAsked), (306, 0, 2, wX5_howMany)]), qm_tab aX11_gaps)
set_option maxRecDepth 20000 in
set_option maxHeartbeats 2000000 in
theorem rX11_gaps_82   {a0 : Nat} {x2 : Int32} {a3 : Nat} {xd1 : Int32} {xd4 : Int32} {h : qm_H} {r : Int32 × qm_H} (ho : qX11_gaps_82  a0 x2 a3 h = some r) : qm_Ret mX11_gaps (82, [some (qm_r 0 11 a0), some (qm_i xd1), some (qm_i x2), some (qm_r 0 1 a3), some (qm_i xd4)], [], h) (qm_Gi r) := by
  unfold qX11_gaps_82 at ho
  refine qm_Ret.sts 2 (f' := (86, [some (qm_r 0 11 a0), some (qm_i xd1), some (qm_i x2), some (qm_r 0 1 a3), some (qm_i xd4)], [qm_i (1000 : Int32), qm_i x2], h)) rfl ?_
  refine qm_Ret.lt (t := 105) (e := 89) rfl (fun hc => ?_) (fun hc => ?_)
  · rw [if_pos hc] at ho
    cases ho
    exact qm_Ret.ret 2 rfl
  · rw [if_neg hc] at ho
    refine qm_Ret.sts 6 (f' := (99, [some (qm_r 0 11 a0), some (qm_i xd1), some (qm_i x2), some (qm_r 0 1 a3), some (qm_i xd4)], [qm_i (x2 - (1000 : Int32)), qm_r 0 1 a3, qm_r 0 5 (a0 + 60)], h)) rfl ?_
    obtain ⟨r2, h1, hr, ho⟩ := qm_b2e ho
    refine qm_Ret.call (X := wX5_gapAt [qm_r 0 5 (a0 + 60), qm_r 0 1 a3, qm_i (x2 - (1000 : Int32))] h) (o1 := (some (qm_i r2), h1)) (qm_mp (G := qm_Gi) hr) rfl ?_
    show qm_Ret _ (102, [some (qm_r 0 11 a0), some (qm_i xd1), some (qm_i x2), some (qm_r 0 1 a3), some (qm_i xd4)], [qm_i r2], h1) _
    cases ho
    exact qm_Ret.ret 2 rfl
set_option maxRecDepth 20000 in
set_option maxHeartbeats 2000000 in
theorem rX11_gaps_0   {a0 : Nat} {x1 : Int32} {x2 : Int32} {h : qm_H} {r : Int32 × qm_H} (ho : qX11_gaps  a0 x1 x2 h = some r) : qm_Ret mX11_gaps (0, [some (qm_r 0 11 a0), some (qm_i x1), some (qm_i x2), none, none], [], h) (qm_Gi r) := by
  unfold qX11_gaps at ho
  refine qm_Ret.sts 3 (f' := (5, [some (qm_r 0 11 a0), some (qm_i x1), some (qm_i x2), none, none], [qm_i x1, qm_r 0 9 (a0 + 1)], h)) rfl ?_
  obtain ⟨r2, h1, hr, ho⟩ := qm_b2e ho
  refine qm_Ret.call (X := wX9_cluesAt [qm_r 0 9 (a0 + 1), qm_i x1] h) (o1 := (some (qm_oo 1 r2), h1)) (qm_mp (G := (qm_Go 1)) hr) rfl ?_
  show qm_Ret _ (8, [some (qm_r 0 11 a0), some (qm_i x1), some (qm_i x2), none, none], [qm_oo 1 r2], h1) _
  refine qm_Ret.sts 2 (f' := (10, [some (qm_r 0 11 a0), some (qm_i x1), some (qm_i x2), some (qm_oo 1 r2), none], [qm_oo 1 r2], h1)) rfl ?_
  cases r2 with
  | none =>
    simp only [qm_om] at ho
    cases ho
    exact qm_Ret.ret 3 rfl
  | some b3 =>
    simp only [qm_om] at ho
    refine qm_Ret.sts 6 (f' := (25, [some (qm_r 0 11 a0), some (qm_i x1), some (qm_i x2), some (qm_r 0 1 b3), none], [qm_i ((h1.1 b3 1) * (h1.1 b3 2))], h1)) rfl ?_
    refine qm_Ret.lets (F := fun v4 => (25, [some (qm_r 0 11 a0), some (qm_i x1), some (qm_i x2), some (qm_r 0 1 b3), none], [qm_i v4], h1)) (G := qm_Gi) ho (fun v4 ho => ?_)
    refine qm_Ret.sts 2 (f' := (28, [some (qm_r 0 11 a0), some (qm_i x1), some (qm_i x2), some (qm_r 0 1 b3), some (qm_i v4)], [qm_i x2], h1)) rfl ?_
    refine qm_Ret.ne (t := 40) (e := 31) rfl (fun hc => ?_) (fun hc => ?_)
    · rw [if_pos hc] at ho
      refine qm_Ret.sts 3 (f' := (36, [some (qm_r 0 11 a0), some (qm_i x1), some (qm_i x2), some (qm_r 0 1 b3), some (qm_i v4)], [qm_r 0 1 b3, qm_r 0 5 (a0 + 60)], h1)) rfl ?_
      obtain ⟨r10, h9, hr, ho⟩ := qm_b2e ho
      refine qm_Ret.call (X := wX5_howMany [qm_r 0 5 (a0 + 60), qm_r 0 1 b3] h1) (o1 := (some (qm_i r10), h9)) (qm_mp (G := qm_Gi) hr) rfl ?_
      show qm_Ret _ (39, [some (qm_r 0 11 a0), some (qm_i x1), some (qm_i x2), some (qm_r 0 1 b3), some (qm_i v4)], [qm_i r10], h9) _
      cases ho
      exact qm_Ret.ret 1 rfl
    · rw [if_neg hc] at ho
      refine qm_Ret.sts 2 (f' := (42, [some (qm_r 0 11 a0), some (qm_i x1), some (qm_i x2), some (qm_r 0 1 b3), some (qm_i v4)], [qm_i (1 : Int32), qm_i x2], h1)) rfl ?_
      refine qm_Ret.ne (t := 54) (e := 45) rfl (fun hc => ?_) (fun hc => ?_)
      · rw [if_pos hc] at ho
        refine qm_Ret.sts 3 (f' := (50, [some (qm_r 0 11 a0), some (qm_i x1), some (qm_i x2), some (qm_r 0 1 b3), some (qm_i v4)], [qm_r 0 1 b3, qm_r 0 5 (a0 + 60)], h1)) rfl ?_
        obtain ⟨r8, h7, hr, ho⟩ := qm_b2e ho
        refine qm_Ret.call (X := wX5_bestAsked [qm_r 0 5 (a0 + 60), qm_r 0 1 b3] h1) (o1 := (some (qm_i r8), h7)) (qm_mp (G := qm_Gi) hr) rfl ?_
        show qm_Ret _ (53, [some (qm_r 0 11 a0), some (qm_i x1), some (qm_i x2), some (qm_r 0 1 b3), some (qm_i v4)], [qm_i r8], h7) _
        cases ho
        exact qm_Ret.ret 1 rfl
      · rw [if_neg hc] at ho
        refine qm_Ret.sts 2 (f' := (57, [some (qm_r 0 11 a0), some (qm_i x1), some (qm_i x2), some (qm_r 0 1 b3), some (qm_i v4)], [qm_i (100 : Int32), qm_i x2], h1)) rfl ?_
        refine qm_Ret.lt (t := 82) (e := 60) rfl (fun hc => ?_) (fun hc => ?_)
        · rw [if_pos hc] at ho
          exact rX11_gaps_82 ho
        · rw [if_neg hc] at ho
          refine qm_Ret.sts 4 (f' := (66, [some (qm_r 0 11 a0), some (qm_i x1), some (qm_i x2), some (qm_r 0 1 b3), some (qm_i v4)], [qm_i ((100 : Int32) + v4), qm_i x2], h1)) rfl ?_
          refine qm_Ret.ge (t := 82) (e := 69) rfl (fun hc => ?_) (fun hc => ?_)
          · rw [if_pos hc] at ho
            refine qm_Ret.sts 6 (f' := (78, [some (qm_r 0 11 a0), some (qm_i x1), some (qm_i x2), some (qm_r 0 1 b3), some (qm_i v4)], [qm_i (x2 - (100 : Int32)), qm_r 0 1 b3, qm_r 0 5 (a0 + 60)], h1)) rfl ?_
            obtain ⟨r6, h5, hr, ho⟩ := qm_b2e ho
            refine qm_Ret.call (X := wX5_sureOf [qm_r 0 5 (a0 + 60), qm_r 0 1 b3, qm_i (x2 - (100 : Int32))] h1) (o1 := (some (qm_i r6), h5)) (qm_mp (G := qm_Gi) hr) rfl ?_
            show qm_Ret _ (81, [some (qm_r 0 11 a0), some (qm_i x1), some (qm_i x2), some (qm_r 0 1 b3), some (qm_i v4)], [qm_i r6], h5) _
            cases ho
            exact qm_Ret.ret 1 rfl
          · rw [if_neg hc] at ho
            exact rX11_gaps_82 ho
theorem cX11_gaps_ok : ∀ q ∈ ([(317, 0, 3, wX5_gapAt), (297, 0, 2, wX9_cluesAt), (313, 0, 3, wX5_sureOf), (310, 0, 2, wX5_bestAsked), (306, 0, 2, wX5_howMany)] : List (Nat × Nat × Nat × qm_C)), qm_CallOK RX11 5 128 q.2.1 q.1 q.2.2.1 q.2.2.2 := List.forall_mem_cons.mpr ⟨Or.inl ⟨yX5_gapAt, cX5_gapAt, 3, (some .int), 4, 102, _, sX5_gapAt, ⟨by decide, by decide⟩, ⟨jX5_gapAt, kRX11_317, uRX5⟩, ⟨by decide, by decide, rfl⟩, Or.inl ⟨rfl, rfl, iX5_gapAt, recvX5_gapAt⟩⟩, List.forall_mem_cons.mpr ⟨Or.inl ⟨yX9_cluesAt, cX9_cluesAt, 2, (some (.object "WillowLaw$Clues")), 0, 0, _, sX9_cluesAt, ⟨by decide, by decide⟩, ⟨jX9_cluesAt, kRX11_297, uRX9⟩, ⟨by decide, by decide, rfl⟩, Or.inl ⟨rfl, rfl, iX9_cluesAt, recvX9_cluesAt⟩⟩, List.forall_mem_cons.mpr ⟨Or.inl ⟨yX5_sureOf, cX5_sureOf, 3, (some .int), 4, 102, _, sX5_sureOf, ⟨by decide, by decide⟩, ⟨jX5_sureOf, kRX11_313, uRX5⟩, ⟨by decide, by decide, rfl⟩, Or.inl ⟨rfl, rfl, iX5_sureOf, recvX5_sureOf⟩⟩, List.forall_mem_cons.mpr ⟨Or.inl ⟨yX5_bestAsked, cX5_bestAsked, 7, (some .int), 4, 102, _, sX5_bestAsked, ⟨by decide, by decide⟩, ⟨jX5_bestAsked, kRX11_310, uRX5⟩, ⟨by decide, by decide, rfl⟩, Or.inl ⟨rfl, rfl, iX5_bestAsked, recvX5_bestAsked⟩⟩, List.forall_mem_cons.mpr ⟨Or.inl ⟨yX5_howMany, cX5_howMany, 2, (some .int), 4, 102, _, sX5_howMany, ⟨by decide, by decide⟩, ⟨jX5_howMany, kRX11_306, uRX5⟩, ⟨by decide, by decide, rfl⟩, Or.inl ⟨rfl, rfl, iX5_howMany, recvX5_howMany⟩⟩, fun _ h => absurd h List.not_mem_nil⟩⟩⟩⟩⟩
theorem sX11_gaps : qm_Snd yX11_gaps cX11_gaps 5 (some .int) 5 128 wX11_gaps := qm_met (fld := fun k => qm_lk k pfRX11) (con := fun k => qm_lk k pcRX11) (call := fun k => qm_lk k [(317, 0, 3, wX5_gapAt), (297, 0, 2, wX9_cluesAt), (313, 0, 3, wX5_sureOf), (310, 0, 2, wX5_bestAsked), (306, 0, 2, wX5_howMany)]) (tab := qm_tab aX11_gaps) (plainFor_of_name (by decide)) (qm_fld_ok pfRX11_ok) (qm_con_ok pcRX11_ok) (fun idx kd n f hc => cX11_gaps_ok (idx, kd, n, f) (qm_lk_mem hc)) (qm_tab_ok aX11_gaps_ok) (fun vs h o hw => by
  unfold wX11_gaps at hw
  split at hw
  · obtain ⟨r, hr, rfl⟩ := Option.map_eq_some_iff.mp hw
    exact ⟨Nat.le_of_ble_eq_true rfl, rX11_gaps_0 (hr)⟩
  · cases hw)
theorem recvX11_gaps : ∀ vs h o, wX11_gaps vs h = some o → ∃ ci a rest, vs = qm_r 0 ci a :: rest ∧ qm_R ci = yX11_gaps.cls := by
  intro vs h o hw
  unfold wX11_gaps at hw
  split at hw
  · exact ⟨_, _, _, rfl, rfl⟩
  · cases hw
-- RX12 in(III)Z
theorem jX12_in : Jvm.Cond.code yX12_in cX12_in 3 (some .boolean) ∈ qm_all := List.mem_filter.mpr ⟨by decide +kernel, rfl⟩
theorem iX12_in : Jvm.Cond.static yX12_in ∈ qm_all := List.mem_filter.mpr ⟨by decide +kernel, rfl⟩
def wX12_in : qm_C := fun vs h => match vs with
  | [.inl p0, .inl p1, .inl p2] => (qX12_in p0 p1 p2 h).map qm_Gi
  | _ => none
def aX12_in : List (Option (Instr × Nat)) := [some (.iload_n 0, 1), some (.iload_n 1, 1), some (.if_icmp .lt 12, 3), none, none, some (.iload_n 0, 1), some (.iload_n 2, 1), some (.if_icmp .gt 7, 3), none, none, some (.iconst 1, 1), some (.goto 4, 3), none, none, some (.iconst 0, 1), some (.ireturn, 1)]
theorem aX12_in_ok : qm_tabok cX12_in aX12_in = true := by decide +kernel
def mX12_in : qm_M := ((some .boolean), (fun k => qm_lk k pfRX12), (fun k => qm_lk k pcRX12), (fun k => qm_lk k []), qm_tab aX12_in)
set_option maxRecDepth 20000 in
set_option maxHeartbeats 2000000 in
theorem rX12_in_0   {x0 : Int32} {x1 : Int32} {x2 : Int32} {h : qm_H} {r : Int32 × qm_H} (ho : qX12_in  x0 x1 x2 h = some r) : qm_Ret mX12_in (0, [some (qm_i x0), some (qm_i x1), some (qm_i x2)], [], h) (qm_Gi r) := by
  unfold qX12_in at ho
  refine qm_Ret.sts 2 (f' := (2, [some (qm_i x0), some (qm_i x1), some (qm_i x2)], [qm_i x1, qm_i x0], h)) rfl ?_
  refine qm_Ret.lt (t := 14) (e := 5) rfl (fun hc => ?_) (fun hc => ?_)
  · rw [if_pos hc] at ho
    cases ho
    exact qm_Ret.ret 2 rfl
  · rw [if_neg hc] at ho
    refine qm_Ret.sts 2 (f' := (7, [some (qm_i x0), some (qm_i x1), some (qm_i x2)], [qm_i x2, qm_i x0], h)) rfl ?_
    refine qm_Ret.gt (t := 14) (e := 10) rfl (fun hc => ?_) (fun hc => ?_)
    · rw [if_pos hc] at ho
      cases ho
      exact qm_Ret.ret 2 rfl
    · rw [if_neg hc] at ho
      cases ho
      exact qm_Ret.ret 3 rfl
theorem cX12_in_ok : ∀ q ∈ ([] : List (Nat × Nat × Nat × qm_C)), qm_CallOK RX12 0 0 q.2.1 q.1 q.2.2.1 q.2.2.2 := fun _ h => absurd h List.not_mem_nil
theorem sX12_in : qm_Snd yX12_in cX12_in 3 (some .boolean) 0 0 wX12_in := qm_met (fld := fun k => qm_lk k pfRX12) (con := fun k => qm_lk k pcRX12) (call := fun k => qm_lk k []) (tab := qm_tab aX12_in) (plainFor_of_name (by decide)) (qm_fld_ok pfRX12_ok) (qm_con_ok pcRX12_ok) (fun idx kd n f hc => cX12_in_ok (idx, kd, n, f) (qm_lk_mem hc)) (qm_tab_ok aX12_in_ok) (fun vs h o hw => by
  unfold wX12_in at hw
  split at hw
  · obtain ⟨r, hr, rfl⟩ := Option.map_eq_some_iff.mp hw
    exact ⟨Nat.le_of_ble_eq_true rfl, rX12_in_0 (hr)⟩
  · cases hw)
-- RX12 has(II)Z
theorem jX12_has : Jvm.Cond.code yX12_has cX12_has 2 (some .boolean) ∈ qm_all := List.mem_filter.mpr ⟨by decide +kernel, rfl⟩
theorem iX12_has : Jvm.Cond.static yX12_has ∈ qm_all := List.mem_filter.mpr ⟨by decide +kernel, rfl⟩
def wX12_has : qm_C := fun vs h => match vs with
  | [.inl p0, .inl p1] => (qX12_has p0 p1 h).map qm_Gi
  | _ => none
def aX12_has : List (Option (Instr × Nat)) := [some (.iload_n 0, 1), some (.iload_n 1, 1), some (.ishr, 1), some (.iconst 1, 1), some (.iand, 1), some (.iconst 1, 1), some (.if_icmp .ne 7, 3), none, none, some (.iconst 1, 1), some (.goto 4, 3), none, none, some (.iconst 0, 1), some (.ireturn, 1)]
theorem aX12_has_ok : qm_tabok cX12_has aX12_has = true := by decide +kernel
def mX12_has : qm_M := ((some .boolean), (fun k => qm_lk k pfRX12), (fun k => qm_lk k pcRX12), (fun k => qm_lk k []), qm_tab aX12_has)
set_option maxRecDepth 20000 in
set_option maxHeartbeats 2000000 in
theorem rX12_has_0   {x0 : Int32} {x1 : Int32} {h : qm_H} {r : Int32 × qm_H} (ho : qX12_has  x0 x1 h = some r) : qm_Ret mX12_has (0, [some (qm_i x0), some (qm_i x1)], [], h) (qm_Gi r) := by
  unfold qX12_has at ho
  refine qm_Ret.sts 6 (f' := (6, [some (qm_i x0), some (qm_i x1)], [qm_i (1 : Int32), qm_i ((qm_ishr x0 x1) &&& (1 : Int32))], h)) rfl ?_
  refine qm_Ret.ne (t := 13) (e := 9) rfl (fun hc => ?_) (fun hc => ?_)
  · rw [if_pos hc] at ho
    cases ho
    exact qm_Ret.ret 3 rfl
  · rw [if_neg hc] at ho
    cases ho
    exact qm_Ret.ret 2 rfl
theorem cX12_has_ok : ∀ q ∈ ([] : List (Nat × Nat × Nat × qm_C)), qm_CallOK RX12 0 0 q.2.1 q.1 q.2.2.1 q.2.2.2 := fun _ h => absurd h List.not_mem_nil
theorem sX12_has : qm_Snd yX12_has cX12_has 2 (some .boolean) 0 0 wX12_has := qm_met (fld := fun k => qm_lk k pfRX12) (con := fun k => qm_lk k pcRX12) (call := fun k => qm_lk k []) (tab := qm_tab aX12_has) (plainFor_of_name (by decide)) (qm_fld_ok pfRX12_ok) (qm_con_ok pcRX12_ok) (fun idx kd n f hc => cX12_has_ok (idx, kd, n, f) (qm_lk_mem hc)) (qm_tab_ok aX12_has_ok) (fun vs h o hw => by
  unfold wX12_has at hw
  split at hw
  · obtain ⟨r, hr, rfl⟩ := Option.map_eq_some_iff.mp hw
    exact ⟨Nat.le_of_ble_eq_true rfl, rX12_has_0 (hr)⟩
  · cases hw)
-- RX12 greater(II)I
theorem jX12_greater : Jvm.Cond.code yX12_greater cX12_greater 2 (some .int) ∈ qm_all := List.mem_filter.mpr ⟨by decide +kernel, rfl⟩
theorem iX12_greater : Jvm.Cond.static yX12_greater ∈ qm_all := List.mem_filter.mpr ⟨by decide +kernel, rfl⟩
def wX12_greater : qm_C := fun vs h => match vs with
  | [.inl p0, .inl p1] => (qX12_greater p0 p1 h).map qm_Gi
  | _ => none
def aX12_greater : List (Option (Instr × Nat)) := [some (.iload_n 0, 1), some (.iload_n 1, 1), some (.if_icmp .le 7, 3), none, none, some (.iload_n 0, 1), some (.goto 4, 3), none, none, some (.iload_n 1, 1), some (.ireturn, 1)]
theorem aX12_greater_ok : qm_tabok cX12_greater aX12_greater = true := by decide +kernel
def mX12_greater : qm_M := ((some .int), (fun k => qm_lk k pfRX12), (fun k => qm_lk k pcRX12), (fun k => qm_lk k []), qm_tab aX12_greater)
set_option maxRecDepth 20000 in
set_option maxHeartbeats 2000000 in
theorem rX12_greater_0   {x0 : Int32} {x1 : Int32} {h : qm_H} {r : Int32 × qm_H} (ho : qX12_greater  x0 x1 h = some r) : qm_Ret mX12_greater (0, [some (qm_i x0), some (qm_i x1)], [], h) (qm_Gi r) := by
  unfold qX12_greater at ho
  refine qm_Ret.sts 2 (f' := (2, [some (qm_i x0), some (qm_i x1)], [qm_i x1, qm_i x0], h)) rfl ?_
  refine qm_Ret.le (t := 9) (e := 5) rfl (fun hc => ?_) (fun hc => ?_)
  · rw [if_pos hc] at ho
    cases ho
    exact qm_Ret.ret 3 rfl
  · rw [if_neg hc] at ho
    cases ho
    exact qm_Ret.ret 2 rfl
theorem cX12_greater_ok : ∀ q ∈ ([] : List (Nat × Nat × Nat × qm_C)), qm_CallOK RX12 0 0 q.2.1 q.1 q.2.2.1 q.2.2.2 := fun _ h => absurd h List.not_mem_nil
theorem sX12_greater : qm_Snd yX12_greater cX12_greater 2 (some .int) 0 0 wX12_greater := qm_met (fld := fun k => qm_lk k pfRX12) (con := fun k => qm_lk k pcRX12) (call := fun k => qm_lk k []) (tab := qm_tab aX12_greater) (plainFor_of_name (by decide)) (qm_fld_ok pfRX12_ok) (qm_con_ok pcRX12_ok) (fun idx kd n f hc => cX12_greater_ok (idx, kd, n, f) (qm_lk_mem hc)) (qm_tab_ok aX12_greater_ok) (fun vs h o hw => by
  unfold wX12_greater at hw
  split at hw
  · obtain ⟨r, hr, rfl⟩ := Option.map_eq_some_iff.mp hw
    exact ⟨Nat.le_of_ble_eq_true rfl, rX12_greater_0 (hr)⟩
  · cases hw)
-- RX12 lesser(II)I
theorem jX12_lesser : Jvm.Cond.code yX12_lesser cX12_lesser 2 (some .int) ∈ qm_all := List.mem_filter.mpr ⟨by decide +kernel, rfl⟩
theorem iX12_lesser : Jvm.Cond.static yX12_lesser ∈ qm_all := List.mem_filter.mpr ⟨by decide +kernel, rfl⟩
def wX12_lesser : qm_C := fun vs h => match vs with
  | [.inl p0, .inl p1] => (qX12_lesser p0 p1 h).map qm_Gi
  | _ => none
def aX12_lesser : List (Option (Instr × Nat)) := [some (.iload_n 0, 1), some (.iload_n 1, 1), some (.if_icmp .ge 7, 3), none, none, some (.iload_n 0, 1), some (.goto 4, 3), none, none, some (.iload_n 1, 1), some (.ireturn, 1)]
theorem aX12_lesser_ok : qm_tabok cX12_lesser aX12_lesser = true := by decide +kernel
def mX12_lesser : qm_M := ((some .int), (fun k => qm_lk k pfRX12), (fun k => qm_lk k pcRX12), (fun k => qm_lk k []), qm_tab aX12_lesser)
set_option maxRecDepth 20000 in
set_option maxHeartbeats 2000000 in
theorem rX12_lesser_0   {x0 : Int32} {x1 : Int32} {h : qm_H} {r : Int32 × qm_H} (ho : qX12_lesser  x0 x1 h = some r) : qm_Ret mX12_lesser (0, [some (qm_i x0), some (qm_i x1)], [], h) (qm_Gi r) := by
  unfold qX12_lesser at ho
  refine qm_Ret.sts 2 (f' := (2, [some (qm_i x0), some (qm_i x1)], [qm_i x1, qm_i x0], h)) rfl ?_
  refine qm_Ret.ge (t := 9) (e := 5) rfl (fun hc => ?_) (fun hc => ?_)
  · rw [if_pos hc] at ho
    cases ho
    exact qm_Ret.ret 3 rfl
  · rw [if_neg hc] at ho
    cases ho
    exact qm_Ret.ret 2 rfl
theorem cX12_lesser_ok : ∀ q ∈ ([] : List (Nat × Nat × Nat × qm_C)), qm_CallOK RX12 0 0 q.2.1 q.1 q.2.2.1 q.2.2.2 := fun _ h => absurd h List.not_mem_nil
theorem sX12_lesser : qm_Snd yX12_lesser cX12_lesser 2 (some .int) 0 0 wX12_lesser := qm_met (fld := fun k => qm_lk k pfRX12) (con := fun k => qm_lk k pcRX12) (call := fun k => qm_lk k []) (tab := qm_tab aX12_lesser) (plainFor_of_name (by decide)) (qm_fld_ok pfRX12_ok) (qm_con_ok pcRX12_ok) (fun idx kd n f hc => cX12_lesser_ok (idx, kd, n, f) (qm_lk_mem hc)) (qm_tab_ok aX12_lesser_ok) (fun vs h o hw => by
  unfold wX12_lesser at hw
  split at hw
  · obtain ⟨r, hr, rfl⟩ := Option.map_eq_some_iff.mp hw
    exact ⟨Nat.le_of_ble_eq_true rfl, rX12_lesser_0 (hr)⟩
  · cases hw)
-- RX12 ones(I)I
theorem jX12_ones : Jvm.Cond.code yX12_ones cX12_ones 3 (some .int) ∈ qm_all := List.mem_filter.mpr ⟨by decide +kernel, rfl⟩
theorem iX12_ones : Jvm.Cond.static yX12_ones ∈ qm_all := List.mem_filter.mpr ⟨by decide +kernel, rfl⟩
def wX12_ones : qm_C := fun vs h => match vs with
  | [.inl p0] => (qX12_ones p0 h).map qm_Gi
  | _ => none
def aX12_ones : List (Option (Instr × Nat)) := [some (.iconst 0, 1), some (.istore_n 1, 1), some (.iconst 0, 1), some (.istore_n 2, 1), some (.iload_n 2, 1), some (.bipush 8, 2), none, some (.if_icmp .ge 25, 3), none, none, some (.iload_n 1, 1), some (.iload_n 0, 1), some (.iload_n 2, 1), some (.invokestatic 92, 3), none, none, some (.ifCond .eq 7, 3), none, none, some (.iconst 1, 1), some (.goto 4, 3), none, none, some (.iconst 0, 1), some (.iadd, 1), some (.istore_n 1, 1), some (.iinc 2 1, 3), none, none, some (.goto (-25), 3), none, none, some (.iload_n 1, 1), some (.ireturn, 1)]
theorem aX12_ones_ok : qm_tabok cX12_ones aX12_ones = true := by decide +kernel
def mX12_ones : qm_M := ((some .int), (fun k => qm_lk k pfRX12), (fun k => qm_lk k pcRX12), (fun k => qm_lk k [(92, 2, 2, wX12_has)]), qm_tab aX12_ones)
set_option maxRecDepth 20000 in
set_option maxHeartbeats 2000000 in
theorem rX12_ones_4   : ∀ {fuel : Nat} {x0 : Int32} {x1 : Int32} {x2 : Int32} {h : qm_H} {r : Int32 × qm_H}, qX12_ones_4  fuel x0 x1 x2 h = some r → qm_Ret mX12_ones (4, [some (qm_i x0), some (qm_i x1), some (qm_i x2)], [], h) (qm_Gi r) := by
  intro fuel
  induction fuel with
  | zero => intros; rename_i ho; cases ho
  | succ n ih =>
    intro x0 x1 x2 h r ho
    unfold qX12_ones_4 at ho
    refine qm_Ret.sts 2 (f' := (7, [some (qm_i x0), some (qm_i x1), some (qm_i x2)], [qm_i (8 : Int32), qm_i x2], h)) rfl ?_
    refine qm_Ret.ge (t := 32) (e := 10) rfl (fun hc => ?_) (fun hc => ?_)
    · rw [if_pos hc] at ho
      refine qm_Ret.sts 3 (f' := (13, [some (qm_i x0), some (qm_i x1), some (qm_i x2)], [qm_i x2, qm_i x0, qm_i x1], h)) rfl ?_
      obtain ⟨r2, h1, hr, ho⟩ := qm_b2e ho
      refine qm_Ret.call (X := wX12_has [qm_i x0, qm_i x2] h) (o1 := (some (qm_i r2), h1)) (qm_mp (G := qm_Gi) hr) rfl ?_
      show qm_Ret _ (16, [some (qm_i x0), some (qm_i x1), some (qm_i x2)], [qm_i r2, qm_i x1], h1) _
      refine qm_Ret.eq (t := 23) (e := 19) rfl (fun hc => ?_) (fun hc => ?_)
      · rw [if_pos hc] at ho
        refine qm_Ret.sts 2 (f' := (25, [some (qm_i x0), some (qm_i x1), some (qm_i x2)], [qm_i (x1 + (0 : Int32))], h1)) rfl ?_
        refine qm_Ret.lets (F := fun v3 => (25, [some (qm_i x0), some (qm_i x1), some (qm_i x2)], [qm_i v3], h1)) (G := qm_Gi) ho (fun v3 ho => ?_)
        refine qm_Ret.sts 3 (f' := (4, [some (qm_i x0), some (qm_i v3), some (qm_i (x2 + (1 : Int32)))], [], h1)) rfl ?_
        exact ih ho
      · rw [if_neg hc] at ho
        refine qm_Ret.sts 3 (f' := (25, [some (qm_i x0), some (qm_i x1), some (qm_i x2)], [qm_i (x1 + (1 : Int32))], h1)) rfl ?_
        refine qm_Ret.lets (F := fun v4 => (25, [some (qm_i x0), some (qm_i x1), some (qm_i x2)], [qm_i v4], h1)) (G := qm_Gi) ho (fun v4 ho => ?_)
        refine qm_Ret.sts 3 (f' := (4, [some (qm_i x0), some (qm_i v4), some (qm_i (x2 + (1 : Int32)))], [], h1)) rfl ?_
        exact ih ho
    · rw [if_neg hc] at ho
      cases ho
      exact qm_Ret.ret 2 rfl
set_option maxRecDepth 20000 in
set_option maxHeartbeats 2000000 in
theorem rX12_ones_0   {x0 : Int32} {h : qm_H} {r : Int32 × qm_H} (ho : qX12_ones  x0 h = some r) : qm_Ret mX12_ones (0, [some (qm_i x0), none, none], [], h) (qm_Gi r) := by
  unfold qX12_ones at ho
  refine qm_Ret.sts 4 (f' := (4, [some (qm_i x0), some (qm_i (0 : Int32)), some (qm_i (0 : Int32))], [], h)) rfl ?_
  exact rX12_ones_4 ho
theorem cX12_ones_ok : ∀ q ∈ ([(92, 2, 2, wX12_has)] : List (Nat × Nat × Nat × qm_C)), qm_CallOK RX12 1 21 q.2.1 q.1 q.2.2.1 q.2.2.2 := List.forall_mem_cons.mpr ⟨Or.inl ⟨yX12_has, cX12_has, 2, (some .boolean), 0, 0, _, sX12_has, ⟨by decide, by decide⟩, ⟨jX12_has, kRX12_92, uRX12⟩, ⟨by decide, by decide, rfl⟩, Or.inr (Or.inl ⟨rfl, rfl, iX12_has⟩)⟩, fun _ h => absurd h List.not_mem_nil⟩
theorem sX12_ones : qm_Snd yX12_ones cX12_ones 3 (some .int) 1 21 wX12_ones := qm_met (fld := fun k => qm_lk k pfRX12) (con := fun k => qm_lk k pcRX12) (call := fun k => qm_lk k [(92, 2, 2, wX12_has)]) (tab := qm_tab aX12_ones) (plainFor_of_name (by decide)) (qm_fld_ok pfRX12_ok) (qm_con_ok pcRX12_ok) (fun idx kd n f hc => cX12_ones_ok (idx, kd, n, f) (qm_lk_mem hc)) (qm_tab_ok aX12_ones_ok) (fun vs h o hw => by
  unfold wX12_ones at hw
  split at hw
  · obtain ⟨r, hr, rfl⟩ := Option.map_eq_some_iff.mp hw
    exact ⟨Nat.le_of_ble_eq_true rfl, rX12_ones_0 (hr)⟩
  · cases hw)
