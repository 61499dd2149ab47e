-- RX12 gaps(II)I
theorem jX12_gaps : Jvm.Cond.code yX12_gaps cX12_gaps 4 (some .int) ∈ qm_all := List.mem_filter.mpr ⟨by decide +kernel, rfl⟩
theorem iX12_gaps : Jvm.Cond.instanceMethod yX12_gaps ∈ qm_all ∧ Jvm.Cond.selects yX12_gaps.cls yX12_gaps yX12_gaps ∈ qm_all := ⟨List.mem_filter.mpr ⟨by decide +kernel, rfl⟩, List.mem_filter.mpr ⟨by decide +kernel, rfl⟩⟩
def wX12_gaps : qm_C := fun vs h => match vs with
  | [.inr (.inr (some (0, 12, p0))), .inl p1, .inl p2] => (qX12_gaps p0 p1 p2 h).map qm_Gi
  | _ => none
def aX12_gaps : List (Option (Instr × Nat)) := [some (.aload_n 0, 1), some (.iconst 0, 1), some (.putfield 88, 3), none, none, some (.aload_n 0, 1), some (.iload_n 1, 1), some (.invokevirtual 471, 3), none, none, some (.ifCond .ne 6, 3), none, none, some (.bipush (-2), 2), none, some (.ireturn, 1), some (.aload_n 0, 1), some (.invokevirtual 492, 3), none, none, some (.iload_n 2, 1), some (.sipush 1000, 3), none, none, some (.if_icmp .lt 31, 3), none, none, some (.iload_n 2, 1), some (.sipush 1000, 3), none, none, some (.isub, 1), some (.aload_n 0, 1), some (.getfield 483, 3), none, none, some (.if_icmp .ge 16, 3), none, none, some (.aload_n 0, 1), some (.getfield 81, 3), none, none, some (.iload_n 2, 1), some (.sipush 1000, 3), none, none, some (.isub, 1), some (.iaload, 1), some (.goto 5, 3), none, none, some (.bipush (-2), 2), none, some (.ireturn, 1), some (.iload_n 2, 1), some (.bipush 100, 2), none, some (.bipush 99, 2), none, some (.aload_n 0, 1), some (.getfield 279, 3), none, none, some (.iadd, 1), some (.invokestatic 100, 3), none, none, some (.ifCond .eq 45, 3), none, none, some (.aload_n 0, 1), some (.iload_n 2, 1), some (.bipush 100, 2), none, some (.isub, 1), some (.invokevirtual 489, 3), none, none, some (.istore_n 3, 1), some (.aload_n 0, 1), some (.getfield 483, 3), none, none, some (.ifCond .ne 7, 3), none, none, some (.iconst (-1), 1), some (.goto 24, 3), none, none, some (.iload_n 3, 1), some (.aload_n 0, 1), some (.getfield 483, 3), none, none, some (.if_icmp .ne 7, 3), none, none, some (.iconst 1, 1), some (.goto 12, 3), none, none, some (.iload_n 3, 1), some (.ifCond .ne 7, 3), none, none, some (.iconst 0, 1), some (.goto 4, 3), none, none, some (.iconst (-1), 1), some (.ireturn, 1), some (.iload_n 2, 1), some (.ifCond .ne 10, 3), none, none, some (.aload_n 0, 1), some (.getfield 483, 3), none, none, some (.goto 28, 3), none, none, some (.iload_n 2, 1), some (.iconst 1, 1), some (.if_icmp .eq 8, 3), none, none, some (.bipush (-2), 2), none, some (.goto 18, 3), none, none, some (.aload_n 0, 1), some (.getfield 483, 3), none, none, some (.ifCond .ne 7, 3), none, none, some (.iconst (-1), 1), some (.goto 7, 3), none, none, some (.aload_n 0, 1), some (.invokevirtual 495, 3), none, none, some (.ireturn, 1)]
theorem aX12_gaps_ok : qm_tabok cX12_gaps aX12_gaps = true := by decide +kernel
def mX12_gaps : qm_M := ((some .int), (fun k => qm_lk k pfRX12), (fun k => qm_lk k pcRX12), (fun k => qm_lk k [(471, 0, 2, wX12_hasClues), (492, 0, 1, wX12_findFitting), (100, 2, 3, wX12_in), (495, 0, 1, wX12_askOf), (489, 0, 2, wX12_openIn)]), qm_tab aX12_gaps)
set_option maxRecDepth 20000 in
set_option maxHeartbeats 2000000 in
theorem rX12_gaps_0   {a0 : Nat} {x1 : Int32} {x2 : Int32} {h : qm_H} {r : Int32 × qm_H} (ho : qX12_gaps  a0 x1 x2 h = some r) : qm_Ret mX12_gaps (0, [some (qm_r 0 12 a0), some (qm_i x1), some (qm_i x2), none], [], h) (qm_Gi r) := by
  unfold qX12_gaps at ho
  refine qm_Ret.sts 3 (f' := (5, [some (qm_r 0 12 a0), some (qm_i x1), some (qm_i x2), none], [], (qm_seti h a0 0 (0 : Int32)))) rfl ?_
  refine qm_Ret.lets (F := fun h1 => (5, [some (qm_r 0 12 a0), some (qm_i x1), some (qm_i x2), none], [], h1)) (G := qm_Gi) ho (fun h1 ho => ?_)
  refine qm_Ret.sts 2 (f' := (7, [some (qm_r 0 12 a0), some (qm_i x1), some (qm_i x2), none], [qm_i x1, qm_r 0 12 a0], h1)) rfl ?_
  obtain ⟨r3, h2, hr, ho⟩ := qm_b2e ho
  refine qm_Ret.call (X := wX12_hasClues [qm_r 0 12 a0, qm_i x1] h1) (o1 := (some (qm_i r3), h2)) (qm_mp (G := qm_Gi) hr) rfl ?_
  show qm_Ret _ (10, [some (qm_r 0 12 a0), some (qm_i x1), some (qm_i x2), none], [qm_i r3], h2) _
  refine qm_Ret.ne (t := 16) (e := 13) rfl (fun hc => ?_) (fun hc => ?_)
  · rw [if_pos hc] at ho
    cases ho
    exact qm_Ret.ret 2 rfl
  · rw [if_neg hc] at ho
    refine qm_Ret.sts 1 (f' := (17, [some (qm_r 0 12 a0), some (qm_i x1), some (qm_i x2), none], [qm_r 0 12 a0], h2)) rfl ?_
    obtain ⟨h4, hr, ho⟩ := qm_bd ho
    refine qm_Ret.call (X := wX12_findFitting [qm_r 0 12 a0] h2) (o1 := (none, h4)) (qm_mp (G := qm_Gv) hr) rfl ?_
    show qm_Ret _ (20, [some (qm_r 0 12 a0), some (qm_i x1), some (qm_i x2), none], [], h4) _
    refine qm_Ret.sts 2 (f' := (24, [some (qm_r 0 12 a0), some (qm_i x1), some (qm_i x2), none], [qm_i (1000 : Int32), qm_i x2], h4)) rfl ?_
    refine qm_Ret.lt (t := 55) (e := 27) rfl (fun hc => ?_) (fun hc => ?_)
    · rw [if_pos hc] at ho
      refine qm_Ret.sts 6 (f' := (65, [some (qm_r 0 12 a0), some (qm_i x1), some (qm_i x2), none], [qm_i ((99 : Int32) + (h4.1 a0 27)), qm_i (100 : Int32), qm_i x2], h4)) rfl ?_
      obtain ⟨r6, h5, hr, ho⟩ := qm_b2e ho
      refine qm_Ret.call (X := wX12_in [qm_i x2, qm_i (100 : Int32), qm_i ((99 : Int32) + (h4.1 a0 27))] h4) (o1 := (some (qm_i r6), h5)) (qm_mp (G := qm_Gi) hr) rfl ?_
      show qm_Ret _ (68, [some (qm_r 0 12 a0), some (qm_i x1), some (qm_i x2), none], [qm_i r6], h5) _
      refine qm_Ret.eq (t := 113) (e := 71) rfl (fun hc => ?_) (fun hc => ?_)
      · rw [if_pos hc] at ho
        refine qm_Ret.sts 1 (f' := (114, [some (qm_r 0 12 a0), some (qm_i x1), some (qm_i x2), none], [qm_i x2], h5)) rfl ?_
        refine qm_Ret.ne (t := 124) (e := 117) rfl (fun hc => ?_) (fun hc => ?_)
        · rw [if_pos hc] at ho
          cases ho
          exact qm_Ret.ret 4 rfl
        · rw [if_neg hc] at ho
          refine qm_Ret.sts 2 (f' := (126, [some (qm_r 0 12 a0), some (qm_i x1), some (qm_i x2), none], [qm_i (1 : Int32), qm_i x2], h5)) rfl ?_
          refine qm_Ret.eq (t := 134) (e := 129) rfl (fun hc => ?_) (fun hc => ?_)
          · rw [if_pos hc] at ho
            refine qm_Ret.sts 2 (f' := (138, [some (qm_r 0 12 a0), some (qm_i x1), some (qm_i x2), none], [qm_i (h5.1 a0 47)], h5)) rfl ?_
            refine qm_Ret.ne (t := 145) (e := 141) rfl (fun hc => ?_) (fun hc => ?_)
            · rw [if_pos hc] at ho
              cases ho
              exact qm_Ret.ret 3 rfl
            · rw [if_neg hc] at ho
              refine qm_Ret.sts 1 (f' := (146, [some (qm_r 0 12 a0), some (qm_i x1), some (qm_i x2), none], [qm_r 0 12 a0], h5)) rfl ?_
              obtain ⟨r8, h7, hr, ho⟩ := qm_b2e ho
              refine qm_Ret.call (X := wX12_askOf [qm_r 0 12 a0] h5) (o1 := (some (qm_i r8), h7)) (qm_mp (G := qm_Gi) hr) rfl ?_
              show qm_Ret _ (149, [some (qm_r 0 12 a0), some (qm_i x1), some (qm_i x2), none], [qm_i r8], h7) _
              cases ho
              exact qm_Ret.ret 1 rfl
          · rw [if_neg hc] at ho
            cases ho
            exact qm_Ret.ret 3 rfl
      · rw [if_neg hc] at ho
        refine qm_Ret.sts 4 (f' := (76, [some (qm_r 0 12 a0), some (qm_i x1), some (qm_i x2), none], [qm_i (x2 - (100 : Int32)), qm_r 0 12 a0], h5)) rfl ?_
        obtain ⟨r10, h9, hr, ho⟩ := qm_b2e ho
        refine qm_Ret.call (X := wX12_openIn [qm_r 0 12 a0, qm_i (x2 - (100 : Int32))] h5) (o1 := (some (qm_i r10), h9)) (qm_mp (G := qm_Gi) hr) rfl ?_
        show qm_Ret _ (79, [some (qm_r 0 12 a0), some (qm_i x1), some (qm_i x2), none], [qm_i r10], h9) _
        refine qm_Ret.sts 3 (f' := (84, [some (qm_r 0 12 a0), some (qm_i x1), some (qm_i x2), some (qm_i r10)], [qm_i (h9.1 a0 47)], h9)) rfl ?_
        refine qm_Ret.ne (t := 91) (e := 87) rfl (fun hc => ?_) (fun hc => ?_)
        · rw [if_pos hc] at ho
          cases ho
          exact qm_Ret.ret 3 rfl
        · rw [if_neg hc] at ho
          refine qm_Ret.sts 3 (f' := (96, [some (qm_r 0 12 a0), some (qm_i x1), some (qm_i x2), some (qm_i r10)], [qm_i (h9.1 a0 47), qm_i r10], h9)) rfl ?_
          refine qm_Ret.ne (t := 103) (e := 99) rfl (fun hc => ?_) (fun hc => ?_)
          · rw [if_pos hc] at ho
            cases ho
            exact qm_Ret.ret 3 rfl
          · rw [if_neg hc] at ho
            refine qm_Ret.sts 1 (f' := (104, [some (qm_r 0 12 a0), some (qm_i x1), some (qm_i x2), some (qm_i r10)], [qm_i r10], h9)) rfl ?_
            refine qm_Ret.ne (t := 111) (e := 107) rfl (fun hc => ?_) (fun hc => ?_)
            · rw [if_pos hc] at ho
              cases ho
              exact qm_Ret.ret 3 rfl
            · rw [if_neg hc] at ho
              cases ho
              exact qm_Ret.ret 2 rfl
    · rw [if_neg hc] at ho
      refine qm_Ret.sts 5 (f' := (36, [some (qm_r 0 12 a0), some (qm_i x1), some (qm_i x2), none], [qm_i (h4.1 a0 47), qm_i (x2 - (1000 : Int32))], h4)) rfl ?_
      refine qm_Ret.ge (t := 52) (e := 39) rfl (fun hc => ?_) (fun hc => ?_)
      · rw [if_pos hc] at ho
        refine qm_Ret.sts 5 (f' := (48, [some (qm_r 0 12 a0), some (qm_i x1), some (qm_i x2), none], [qm_i (x2 - (1000 : Int32)), qm_r 1 1296 (a0 + 24)], h4)) rfl ?_
        obtain ⟨hg, ho⟩ := qm_ifn ho
        refine qm_Ret.gn (f1 := (49, [some (qm_r 0 12 a0), some (qm_i x1), some (qm_i x2), none], [qm_i (h4.1 (a0 + 24) (x2 - (1000 : Int32)).toNatClampNeg)], h4)) hg rfl ?_
        cases ho
        exact qm_Ret.ret 2 rfl
      · rw [if_neg hc] at ho
        cases ho
        exact qm_Ret.ret 2 rfl
theorem cX12_gaps_ok : ∀ q ∈ ([(471, 0, 2, wX12_hasClues), (492, 0, 1, wX12_findFitting), (100, 2, 3, wX12_in), (495, 0, 1, wX12_askOf), (489, 0, 2, wX12_openIn)] : List (Nat × Nat × Nat × qm_C)), qm_CallOK RX12 4 94 q.2.1 q.1 q.2.2.1 q.2.2.2 := List.forall_mem_cons.mpr ⟨Or.inl ⟨yX12_hasClues, cX12_hasClues, 2, (some .boolean), 2, 44, _, sX12_hasClues, ⟨by decide, by decide⟩, ⟨jX12_hasClues, kRX12_471, uRX12⟩, ⟨by decide, by decide, rfl⟩, Or.inl ⟨rfl, rfl, iX12_hasClues, recvX12_hasClues⟩⟩, List.forall_mem_cons.mpr ⟨Or.inl ⟨yX12_findFitting, cX12_findFitting, 3, none, 3, 72, _, sX12_findFitting, ⟨by decide, by decide⟩, ⟨jX12_findFitting, kRX12_492, uRX12⟩, ⟨by decide, by decide, rfl⟩, Or.inl ⟨rfl, rfl, iX12_findFitting, recvX12_findFitting⟩⟩, List.forall_mem_cons.mpr ⟨Or.inl ⟨yX12_in, cX12_in, 3, (some .boolean), 0, 0, _, sX12_in, ⟨by decide, by decide⟩, ⟨jX12_in, kRX12_100, uRX12⟩, ⟨by decide, by decide, rfl⟩, Or.inr (Or.inl ⟨rfl, rfl, iX12_in⟩)⟩, List.forall_mem_cons.mpr ⟨Or.inl ⟨yX12_askOf, cX12_askOf, 5, (some .int), 3, 69, _, sX12_askOf, ⟨by decide, by decide⟩, ⟨jX12_askOf, kRX12_495, uRX12⟩, ⟨by decide, by decide, rfl⟩, Or.inl ⟨rfl, rfl, iX12_askOf, recvX12_askOf⟩⟩, List.forall_mem_cons.mpr ⟨Or.inl ⟨yX12_openIn, cX12_openIn, 4, (some .int), 2, 46, _, sX12_openIn, ⟨by decide, by decide⟩, ⟨jX12_openIn, kRX12_489, uRX12⟩, ⟨by decide, by decide, rfl⟩, Or.inl ⟨rfl, rfl, iX12_openIn, recvX12_openIn⟩⟩, fun _ h => absurd h List.not_mem_nil⟩⟩⟩⟩⟩
theorem sX12_gaps : qm_Snd yX12_gaps cX12_gaps 4 (some .int) 4 94 wX12_gaps := qm_met (fld := fun k => qm_lk k pfRX12) (con := fun k => qm_lk k pcRX12) (call := fun k => qm_lk k [(471, 0, 2, wX12_hasClues), (492, 0, 1, wX12_findFitting), (100, 2, 3, wX12_in), (495, 0, 1, wX12_askOf), (489, 0, 2, wX12_openIn)]) (tab := qm_tab aX12_gaps) (plainFor_of_name (by decide)) (qm_fld_ok pfRX12_ok) (qm_con_ok pcRX12_ok) (fun idx kd n f hc => cX12_gaps_ok (idx, kd, n, f) (qm_lk_mem hc)) (qm_tab_ok aX12_gaps_ok) (fun vs h o hw => by
  unfold wX12_gaps at hw
  split at hw
  · obtain ⟨r, hr, rfl⟩ := Option.map_eq_some_iff.mp hw
    exact ⟨Nat.le_of_ble_eq_true rfl, rX12_gaps_0 (hr)⟩
  · cases hw)
theorem recvX12_gaps : ∀ vs h o, wX12_gaps vs h = some o → ∃ ci a rest, vs = qm_r 0 ci a :: rest ∧ qm_R ci = yX12_gaps.cls := by
  intro vs h o hw
  unfold wX12_gaps at hw
  split at hw
  · exact ⟨_, _, _, rfl, rfl⟩
  · cases hw
-- RX12 draw(I)I
theorem jX12_draw : Jvm.Cond.code yX12_draw cX12_draw 2 (some .int) ∈ qm_all := List.mem_filter.mpr ⟨by decide +kernel, rfl⟩
theorem iX12_draw : Jvm.Cond.instanceMethod yX12_draw ∈ qm_all ∧ Jvm.Cond.selects yX12_draw.cls yX12_draw yX12_draw ∈ qm_all := ⟨List.mem_filter.mpr ⟨by decide +kernel, rfl⟩, List.mem_filter.mpr ⟨by decide +kernel, rfl⟩⟩
def wX12_draw : qm_C := fun vs h => match vs with
  | [.inr (.inr (some (0, 12, p0))), .inl p1] => (qX12_draw p0 p1 h).map qm_Gi
  | _ => none
def aX12_draw : List (Option (Instr × Nat)) := [some (.aload_n 0, 1), some (.aload_n 0, 1), some (.getfield 498, 3), none, none, some (.ldc_w 501, 3), none, none, some (.imul, 1), some (.sipush 12345, 3), none, none, some (.iadd, 1), some (.putfield 498, 3), none, none, some (.aload_n 0, 1), some (.getfield 498, 3), none, none, some (.bipush 16, 2), none, some (.iushr, 1), some (.iload_n 1, 1), some (.irem, 1), some (.ireturn, 1)]
theorem aX12_draw_ok : qm_tabok cX12_draw aX12_draw = true := by decide +kernel
def mX12_draw : qm_M := ((some .int), (fun k => qm_lk k pfRX12), (fun k => qm_lk k pcRX12), (fun k => qm_lk k []), qm_tab aX12_draw)
set_option maxRecDepth 20000 in
set_option maxHeartbeats 2000000 in
theorem rX12_draw_0   {a0 : Nat} {x1 : Int32} {h : qm_H} {r : Int32 × qm_H} (ho : qX12_draw  a0 x1 h = some r) : qm_Ret mX12_draw (0, [some (qm_r 0 12 a0), some (qm_i x1)], [], h) (qm_Gi r) := by
  unfold qX12_draw at ho
  refine qm_Ret.sts 8 (f' := (16, [some (qm_r 0 12 a0), some (qm_i x1)], [], (qm_seti h a0 49 (((h.1 a0 49) * (1103515245 : Int32)) + (12345 : Int32))))) rfl ?_
  refine qm_Ret.lets (F := fun h1 => (16, [some (qm_r 0 12 a0), some (qm_i x1)], [], h1)) (G := qm_Gi) ho (fun h1 ho => ?_)
  refine qm_Ret.sts 5 (f' := (24, [some (qm_r 0 12 a0), some (qm_i x1)], [qm_i x1, qm_i (qm_iushr (h1.1 a0 49) (16 : Int32))], h1)) rfl ?_
  obtain ⟨hg, ho⟩ := qm_ifn ho
  refine qm_Ret.gn (f1 := (25, [some (qm_r 0 12 a0), some (qm_i x1)], [qm_i (qm_irem (qm_iushr (h1.1 a0 49) (16 : Int32)) x1)], h1)) hg rfl ?_
  cases ho
  exact qm_Ret.ret 1 rfl
theorem cX12_draw_ok : ∀ q ∈ ([] : List (Nat × Nat × Nat × qm_C)), qm_CallOK RX12 0 0 q.2.1 q.1 q.2.2.1 q.2.2.2 := fun _ h => absurd h List.not_mem_nil
theorem sX12_draw : qm_Snd yX12_draw cX12_draw 2 (some .int) 0 0 wX12_draw := qm_met (fld := fun k => qm_lk k pfRX12) (con := fun k => qm_lk k pcRX12) (call := fun k => qm_lk k []) (tab := qm_tab aX12_draw) (plainFor_of_name (by decide)) (qm_fld_ok pfRX12_ok) (qm_con_ok pcRX12_ok) (fun idx kd n f hc => cX12_draw_ok (idx, kd, n, f) (qm_lk_mem hc)) (qm_tab_ok aX12_draw_ok) (fun vs h o hw => by
  unfold wX12_draw at hw
  split at hw
  · obtain ⟨r, hr, rfl⟩ := Option.map_eq_some_iff.mp hw
    exact ⟨Nat.le_of_ble_eq_true rfl, rX12_draw_0 (hr)⟩
  · cases hw)
theorem recvX12_draw : ∀ vs h o, wX12_draw vs h = some o → ∃ ci a rest, vs = qm_r 0 ci a :: rest ∧ qm_R ci = yX12_draw.cls := by
  intro vs h o hw
  unfold wX12_draw at hw
  split at hw
  · exact ⟨_, _, _, rfl, rfl⟩
  · cases hw
-- RX12 drawDeed()V
theorem jX12_drawDeed : Jvm.Cond.code yX12_drawDeed cX12_drawDeed 4 none ∈ qm_all := List.mem_filter.mpr ⟨by decide +kernel, rfl⟩
theorem iX12_drawDeed : Jvm.Cond.instanceMethod yX12_drawDeed ∈ qm_all ∧ Jvm.Cond.selects yX12_drawDeed.cls yX12_drawDeed yX12_drawDeed ∈ qm_all := ⟨List.mem_filter.mpr ⟨by decide +kernel, rfl⟩, List.mem_filter.mpr ⟨by decide +kernel, rfl⟩⟩
def wX12_drawDeed : qm_C := fun vs h => match vs with
  | [.inr (.inr (some (0, 12, p0)))] => (qX12_drawDeed p0 h).map qm_Gv
  | _ => none
def aX12_drawDeed : List (Option (Instr × Nat)) := [some (.aload_n 0, 1), some (.bipush 8, 2), none, some (.invokevirtual 502, 3), none, none, some (.istore_n 1, 1), some (.iload_n 1, 1), some (.iconst 3, 1), some (.if_icmp .ge 35, 3), none, none, some (.iconst 1, 1), some (.aload_n 0, 1), some (.iconst 4, 1), some (.invokevirtual 502, 3), none, none, some (.iadd, 1), some (.istore_n 2, 1), some (.iconst 1, 1), some (.aload_n 0, 1), some (.iconst 4, 1), some (.invokevirtual 502, 3), none, none, some (.iadd, 1), some (.istore_n 3, 1), some (.aload_n 0, 1), some (.iload_n 2, 1), some (.iload_n 3, 1), some (.aload_n 0, 1), some (.bipush 40, 2), none, some (.invokevirtual 502, 3), none, none, some (.invokevirtual 338, 3), none, none, some (.pop, 1), some (.goto 108, 3), none, none, some (.iload_n 1, 1), some (.iconst 5, 1), some (.if_icmp .ge 44, 3), none, none, some (.aload_n 0, 1), some (.iload_n 1, 1), some (.iconst 3, 1), some (.if_icmp .ne 7, 3), none, none, some (.iconst 1, 1), some (.goto 4, 3), none, none, some (.iconst 2, 1), some (.iload_n 1, 1), some (.iconst 3, 1), some (.isub, 1), some (.aload_n 0, 1), some (.iload_n 1, 1), some (.iconst 3, 1), some (.if_icmp .ne 10, 3), none, none, some (.aload_n 0, 1), some (.getfield 276, 3), none, none, some (.goto 7, 3), none, none, some (.aload_n 0, 1), some (.getfield 273, 3), none, none, some (.invokevirtual 502, 3), none, none, some (.invokevirtual 341, 3), none, none, some (.pop, 1), some (.goto 62, 3), none, none, some (.iload_n 1, 1), some (.iconst 5, 1), some (.if_icmp .ne 32, 3), none, none, some (.aload_n 0, 1), some (.aload_n 0, 1), some (.getfield 279, 3), none, none, some (.invokevirtual 502, 3), none, none, some (.istore_n 2, 1), some (.aload_n 0, 1), some (.iload_n 2, 1), some (.aload_n 0, 1), some (.getfield 273, 3), none, none, some (.irem, 1), some (.iload_n 2, 1), some (.aload_n 0, 1), some (.getfield 273, 3), none, none, some (.idiv, 1), some (.invokevirtual 344, 3), none, none, some (.pop, 1), some (.goto 28, 3), none, none, some (.iload_n 1, 1), some (.bipush 6, 2), none, some (.if_icmp .ne 11, 3), none, none, some (.aload_n 0, 1), some (.invokevirtual 347, 3), none, none, some (.pop, 1), some (.goto 14, 3), none, none, some (.aload_n 0, 1), some (.iconst 1, 1), some (.aload_n 0, 1), some (.getfield 282, 3), none, none, some (.isub, 1), some (.invokevirtual 350, 3), none, none, some (.pop, 1), some (.return_, 1)]
theorem aX12_drawDeed_ok : qm_tabok cX12_drawDeed aX12_drawDeed = true := by decide +kernel
def mX12_drawDeed : qm_M := (none, (fun k => qm_lk k pfRX12), (fun k => qm_lk k pcRX12), (fun k => qm_lk k [(502, 0, 2, wX12_draw), (341, 0, 4, wX12_tends), (350, 0, 2, wX12_soaks), (347, 0, 1, wX12_winters), (344, 0, 3, wX12_weaves), (338, 0, 4, wX12_comes)]), qm_tab aX12_drawDeed)
set_option maxRecDepth 20000 in
set_option maxHeartbeats 2000000 in
theorem rX12_drawDeed_80   {xs0 : Int32} {as1 : Nat} {xs2 : Int32} {xs3 : Int32} {as4 : Nat} {ad0 : Nat} {xd1 : Int32} {h : qm_H} {r : qm_H} (ho : qX12_drawDeed_80  xs0 as1 xs2 xs3 as4 h = some r) : qm_Ret mX12_drawDeed (80, [some (qm_r 0 12 ad0), some (qm_i xd1), none, none], [qm_i xs0, qm_r 0 12 as1, qm_i xs2, qm_i xs3, qm_r 0 12 as4], h) (qm_Gv r) := by
  unfold qX12_drawDeed_80 at ho
  obtain ⟨r2, h1, hr, ho⟩ := qm_b2e ho
  refine qm_Ret.call (X := wX12_draw [qm_r 0 12 as1, qm_i xs0] h) (o1 := (some (qm_i r2), h1)) (qm_mp (G := qm_Gi) hr) rfl ?_
  show qm_Ret _ (83, [some (qm_r 0 12 ad0), some (qm_i xd1), none, none], [qm_i r2, qm_i xs2, qm_i xs3, qm_r 0 12 as4], h1) _
  obtain ⟨r4, h3, hr, ho⟩ := qm_b2e ho
  refine qm_Ret.call (X := wX12_tends [qm_r 0 12 as4, qm_i xs3, qm_i xs2, qm_i r2] h1) (o1 := (some (qm_i r4), h3)) (qm_mp (G := qm_Gi) hr) rfl ?_
  show qm_Ret _ (86, [some (qm_r 0 12 ad0), some (qm_i xd1), none, none], [qm_i r4], h3) _
  cases ho
  exact qm_Ret.ret 3 rfl
set_option maxRecDepth 20000 in
set_option maxHeartbeats 2000000 in
theorem rX12_drawDeed_0   {a0 : Nat} {h : qm_H} {r : qm_H} (ho : qX12_drawDeed  a0 h = some r) : qm_Ret mX12_drawDeed (0, [some (qm_r 0 12 a0), none, none, none], [], h) (qm_Gv r) := by
  unfold qX12_drawDeed at ho
  refine qm_Ret.sts 2 (f' := (3, [some (qm_r 0 12 a0), none, none, none], [qm_i (8 : Int32), qm_r 0 12 a0], h)) rfl ?_
  obtain ⟨r2, h1, hr, ho⟩ := qm_b2e ho
  refine qm_Ret.call (X := wX12_draw [qm_r 0 12 a0, qm_i (8 : Int32)] h) (o1 := (some (qm_i r2), h1)) (qm_mp (G := qm_Gi) hr) rfl ?_
  show qm_Ret _ (6, [some (qm_r 0 12 a0), none, none, none], [qm_i r2], h1) _
  refine qm_Ret.sts 3 (f' := (9, [some (qm_r 0 12 a0), some (qm_i r2), none, none], [qm_i (3 : Int32), qm_i r2], h1)) rfl ?_
  refine qm_Ret.ge (t := 44) (e := 12) rfl (fun hc => ?_) (fun hc => ?_)
  · rw [if_pos hc] at ho
    refine qm_Ret.sts 3 (f' := (15, [some (qm_r 0 12 a0), some (qm_i r2), none, none], [qm_i (4 : Int32), qm_r 0 12 a0, qm_i (1 : Int32)], h1)) rfl ?_
    obtain ⟨r12, h11, hr, ho⟩ := qm_b2e ho
    refine qm_Ret.call (X := wX12_draw [qm_r 0 12 a0, qm_i (4 : Int32)] h1) (o1 := (some (qm_i r12), h11)) (qm_mp (G := qm_Gi) hr) rfl ?_
    show qm_Ret _ (18, [some (qm_r 0 12 a0), some (qm_i r2), none, none], [qm_i r12, qm_i (1 : Int32)], h11) _
    refine qm_Ret.sts 1 (f' := (19, [some (qm_r 0 12 a0), some (qm_i r2), none, none], [qm_i ((1 : Int32) + r12)], h11)) rfl ?_
    refine qm_Ret.lets (F := fun v13 => (19, [some (qm_r 0 12 a0), some (qm_i r2), none, none], [qm_i v13], h11)) (G := qm_Gv) ho (fun v13 ho => ?_)
    refine qm_Ret.sts 4 (f' := (23, [some (qm_r 0 12 a0), some (qm_i r2), some (qm_i v13), none], [qm_i (4 : Int32), qm_r 0 12 a0, qm_i (1 : Int32)], h11)) rfl ?_
    obtain ⟨r15, h14, hr, ho⟩ := qm_b2e ho
    refine qm_Ret.call (X := wX12_draw [qm_r 0 12 a0, qm_i (4 : Int32)] h11) (o1 := (some (qm_i r15), h14)) (qm_mp (G := qm_Gi) hr) rfl ?_
    show qm_Ret _ (26, [some (qm_r 0 12 a0), some (qm_i r2), some (qm_i v13), none], [qm_i r15, qm_i (1 : Int32)], h14) _
    refine qm_Ret.sts 1 (f' := (27, [some (qm_r 0 12 a0), some (qm_i r2), some (qm_i v13), none], [qm_i ((1 : Int32) + r15)], h14)) rfl ?_
    refine qm_Ret.lets (F := fun v16 => (27, [some (qm_r 0 12 a0), some (qm_i r2), some (qm_i v13), none], [qm_i v16], h14)) (G := qm_Gv) ho (fun v16 ho => ?_)
    refine qm_Ret.sts 6 (f' := (34, [some (qm_r 0 12 a0), some (qm_i r2), some (qm_i v13), some (qm_i v16)], [qm_i (40 : Int32), qm_r 0 12 a0, qm_i v16, qm_i v13, qm_r 0 12 a0], h14)) rfl ?_
    obtain ⟨r18, h17, hr, ho⟩ := qm_b2e ho
    refine qm_Ret.call (X := wX12_draw [qm_r 0 12 a0, qm_i (40 : Int32)] h14) (o1 := (some (qm_i r18), h17)) (qm_mp (G := qm_Gi) hr) rfl ?_
    show qm_Ret _ (37, [some (qm_r 0 12 a0), some (qm_i r2), some (qm_i v13), some (qm_i v16)], [qm_i r18, qm_i v16, qm_i v13, qm_r 0 12 a0], h17) _
    obtain ⟨r20, h19, hr, ho⟩ := qm_b2e ho
    refine qm_Ret.call (X := wX12_comes [qm_r 0 12 a0, qm_i v13, qm_i v16, qm_i r18] h17) (o1 := (some (qm_i r20), h19)) (qm_mp (G := qm_Gi) hr) rfl ?_
    show qm_Ret _ (40, [some (qm_r 0 12 a0), some (qm_i r2), some (qm_i v13), some (qm_i v16)], [qm_i r20], h19) _
    cases ho
    exact qm_Ret.ret 3 rfl
  · rw [if_neg hc] at ho
    refine qm_Ret.sts 2 (f' := (46, [some (qm_r 0 12 a0), some (qm_i r2), none, none], [qm_i (5 : Int32), qm_i r2], h1)) rfl ?_
    refine qm_Ret.ge (t := 90) (e := 49) rfl (fun hc => ?_) (fun hc => ?_)
    · rw [if_pos hc] at ho
      refine qm_Ret.sts 3 (f' := (52, [some (qm_r 0 12 a0), some (qm_i r2), none, none], [qm_i (3 : Int32), qm_i r2, qm_r 0 12 a0], h1)) rfl ?_
      refine qm_Ret.ne (t := 59) (e := 55) rfl (fun hc => ?_) (fun hc => ?_)
      · rw [if_pos hc] at ho
        refine qm_Ret.sts 8 (f' := (66, [some (qm_r 0 12 a0), some (qm_i r2), none, none], [qm_i (3 : Int32), qm_i r2, qm_r 0 12 a0, qm_i (r2 - (3 : Int32)), qm_i (1 : Int32), qm_r 0 12 a0], h1)) rfl ?_
        refine qm_Ret.ne (t := 76) (e := 69) rfl (fun hc => ?_) (fun hc => ?_)
        · rw [if_pos hc] at ho
          refine qm_Ret.sts 3 (f' := (80, [some (qm_r 0 12 a0), some (qm_i r2), none, none], [qm_i (h1.1 a0 26), qm_r 0 12 a0, qm_i (r2 - (3 : Int32)), qm_i (1 : Int32), qm_r 0 12 a0], h1)) rfl ?_
          exact rX12_drawDeed_80 ho
        · rw [if_neg hc] at ho
          refine qm_Ret.sts 2 (f' := (80, [some (qm_r 0 12 a0), some (qm_i r2), none, none], [qm_i (h1.1 a0 25), qm_r 0 12 a0, qm_i (r2 - (3 : Int32)), qm_i (1 : Int32), qm_r 0 12 a0], h1)) rfl ?_
          exact rX12_drawDeed_80 ho
      · rw [if_neg hc] at ho
        refine qm_Ret.sts 7 (f' := (66, [some (qm_r 0 12 a0), some (qm_i r2), none, none], [qm_i (3 : Int32), qm_i r2, qm_r 0 12 a0, qm_i (r2 - (3 : Int32)), qm_i (2 : Int32), qm_r 0 12 a0], h1)) rfl ?_
        refine qm_Ret.ne (t := 76) (e := 69) rfl (fun hc => ?_) (fun hc => ?_)
        · rw [if_pos hc] at ho
          refine qm_Ret.sts 3 (f' := (80, [some (qm_r 0 12 a0), some (qm_i r2), none, none], [qm_i (h1.1 a0 26), qm_r 0 12 a0, qm_i (r2 - (3 : Int32)), qm_i (2 : Int32), qm_r 0 12 a0], h1)) rfl ?_
          exact rX12_drawDeed_80 ho
        · rw [if_neg hc] at ho
          refine qm_Ret.sts 2 (f' := (80, [some (qm_r 0 12 a0), some (qm_i r2), none, none], [qm_i (h1.1 a0 25), qm_r 0 12 a0, qm_i (r2 - (3 : Int32)), qm_i (2 : Int32), qm_r 0 12 a0], h1)) rfl ?_
          exact rX12_drawDeed_80 ho
    · rw [if_neg hc] at ho
      refine qm_Ret.sts 2 (f' := (92, [some (qm_r 0 12 a0), some (qm_i r2), none, none], [qm_i (5 : Int32), qm_i r2], h1)) rfl ?_
      refine qm_Ret.ne (t := 124) (e := 95) rfl (fun hc => ?_) (fun hc => ?_)
      · rw [if_pos hc] at ho
        refine qm_Ret.sts 3 (f' := (100, [some (qm_r 0 12 a0), some (qm_i r2), none, none], [qm_i (h1.1 a0 27), qm_r 0 12 a0], h1)) rfl ?_
        obtain ⟨r8, h7, hr, ho⟩ := qm_b2e ho
        refine qm_Ret.call (X := wX12_draw [qm_r 0 12 a0, qm_i (h1.1 a0 27)] h1) (o1 := (some (qm_i r8), h7)) (qm_mp (G := qm_Gi) hr) rfl ?_
        show qm_Ret _ (103, [some (qm_r 0 12 a0), some (qm_i r2), none, none], [qm_i r8], h7) _
        refine qm_Ret.sts 5 (f' := (110, [some (qm_r 0 12 a0), some (qm_i r2), some (qm_i r8), none], [qm_i (h7.1 a0 25), qm_i r8, qm_r 0 12 a0], h7)) rfl ?_
        obtain ⟨hg, ho⟩ := qm_ifn ho
        refine qm_Ret.gn (f1 := (111, [some (qm_r 0 12 a0), some (qm_i r2), some (qm_i r8), none], [qm_i (qm_irem r8 (h7.1 a0 25)), qm_r 0 12 a0], h7)) hg rfl ?_
        refine qm_Ret.sts 3 (f' := (116, [some (qm_r 0 12 a0), some (qm_i r2), some (qm_i r8), none], [qm_i (h7.1 a0 25), qm_i r8, qm_i (qm_irem r8 (h7.1 a0 25)), qm_r 0 12 a0], h7)) rfl ?_
        obtain ⟨hg, ho⟩ := qm_ifn ho
        refine qm_Ret.gn (f1 := (117, [some (qm_r 0 12 a0), some (qm_i r2), some (qm_i r8), none], [qm_i (r8 / (h7.1 a0 25)), qm_i (qm_irem r8 (h7.1 a0 25)), qm_r 0 12 a0], h7)) hg rfl ?_
        obtain ⟨r10, h9, hr, ho⟩ := qm_b2e ho
        refine qm_Ret.call (X := wX12_weaves [qm_r 0 12 a0, qm_i (qm_irem r8 (h7.1 a0 25)), qm_i (r8 / (h7.1 a0 25))] h7) (o1 := (some (qm_i r10), h9)) (qm_mp (G := qm_Gi) hr) rfl ?_
        show qm_Ret _ (120, [some (qm_r 0 12 a0), some (qm_i r2), some (qm_i r8), none], [qm_i r10], h9) _
        cases ho
        exact qm_Ret.ret 3 rfl
      · rw [if_neg hc] at ho
        refine qm_Ret.sts 2 (f' := (127, [some (qm_r 0 12 a0), some (qm_i r2), none, none], [qm_i (6 : Int32), qm_i r2], h1)) rfl ?_
        refine qm_Ret.ne (t := 138) (e := 130) rfl (fun hc => ?_) (fun hc => ?_)
        · rw [if_pos hc] at ho
          refine qm_Ret.sts 1 (f' := (131, [some (qm_r 0 12 a0), some (qm_i r2), none, none], [qm_r 0 12 a0], h1)) rfl ?_
          obtain ⟨r6, h5, hr, ho⟩ := qm_b2e ho
          refine qm_Ret.call (X := wX12_winters [qm_r 0 12 a0] h1) (o1 := (some (qm_i r6), h5)) (qm_mp (G := qm_Gi) hr) rfl ?_
          show qm_Ret _ (134, [some (qm_r 0 12 a0), some (qm_i r2), none, none], [qm_i r6], h5) _
          cases ho
          exact qm_Ret.ret 3 rfl
        · rw [if_neg hc] at ho
          refine qm_Ret.sts 5 (f' := (145, [some (qm_r 0 12 a0), some (qm_i r2), none, none], [qm_i ((1 : Int32) - (h1.1 a0 28)), qm_r 0 12 a0], h1)) rfl ?_
          obtain ⟨r4, h3, hr, ho⟩ := qm_b2e ho
          refine qm_Ret.call (X := wX12_soaks [qm_r 0 12 a0, qm_i ((1 : Int32) - (h1.1 a0 28))] h1) (o1 := (some (qm_i r4), h3)) (qm_mp (G := qm_Gi) hr) rfl ?_
          show qm_Ret _ (148, [some (qm_r 0 12 a0), some (qm_i r2), none, none], [qm_i r4], h3) _
          cases ho
          exact qm_Ret.ret 2 rfl
theorem cX12_drawDeed_ok : ∀ q ∈ ([(502, 0, 2, wX12_draw), (341, 0, 4, wX12_tends), (350, 0, 2, wX12_soaks), (347, 0, 1, wX12_winters), (344, 0, 3, wX12_weaves), (338, 0, 4, wX12_comes)] : List (Nat × Nat × Nat × qm_C)), qm_CallOK RX12 5 123 q.2.1 q.1 q.2.2.1 q.2.2.2 := List.forall_mem_cons.mpr ⟨Or.inl ⟨yX12_draw, cX12_draw, 2, (some .int), 0, 0, _, sX12_draw, ⟨by decide, by decide⟩, ⟨jX12_draw, kRX12_502, uRX12⟩, ⟨by decide, by decide, rfl⟩, Or.inl ⟨rfl, rfl, iX12_draw, recvX12_draw⟩⟩, List.forall_mem_cons.mpr ⟨Or.inl ⟨yX12_tends, cX12_tends, 5, (some .boolean), 0, 0, _, sX12_tends, ⟨by decide, by decide⟩, ⟨jX12_tends, kRX12_341, uRX12⟩, ⟨by decide, by decide, rfl⟩, Or.inl ⟨rfl, rfl, iX12_tends, recvX12_tends⟩⟩, List.forall_mem_cons.mpr ⟨Or.inl ⟨yX12_soaks, cX12_soaks, 3, (some .boolean), 0, 0, _, sX12_soaks, ⟨by decide, by decide⟩, ⟨jX12_soaks, kRX12_350, uRX12⟩, ⟨by decide, by decide, rfl⟩, Or.inl ⟨rfl, rfl, iX12_soaks, recvX12_soaks⟩⟩, List.forall_mem_cons.mpr ⟨Or.inl ⟨yX12_winters, cX12_winters, 2, (some .boolean), 1, 21, _, sX12_winters, ⟨by decide, by decide⟩, ⟨jX12_winters, kRX12_347, uRX12⟩, ⟨by decide, by decide, rfl⟩, Or.inl ⟨rfl, rfl, iX12_winters, recvX12_winters⟩⟩, List.forall_mem_cons.mpr ⟨Or.inl ⟨yX12_weaves, cX12_weaves, 3, (some .boolean), 1, 21, _, sX12_weaves, ⟨by decide, by decide⟩, ⟨jX12_weaves, kRX12_344, uRX12⟩, ⟨by decide, by decide, rfl⟩, Or.inl ⟨rfl, rfl, iX12_weaves, recvX12_weaves⟩⟩, List.forall_mem_cons.mpr ⟨Or.inl ⟨yX12_comes, cX12_comes, 6, (some .boolean), 4, 98, _, sX12_comes, ⟨by decide, by decide⟩, ⟨jX12_comes, kRX12_338, uRX12⟩, ⟨by decide, by decide, rfl⟩, Or.inl ⟨rfl, rfl, iX12_comes, recvX12_comes⟩⟩, fun _ h => absurd h List.not_mem_nil⟩⟩⟩⟩⟩⟩
theorem sX12_drawDeed : qm_Snd yX12_drawDeed cX12_drawDeed 4 none 5 123 wX12_drawDeed := qm_met (fld := fun k => qm_lk k pfRX12) (con := fun k => qm_lk k pcRX12) (call := fun k => qm_lk k [(502, 0, 2, wX12_draw), (341, 0, 4, wX12_tends), (350, 0, 2, wX12_soaks), (347, 0, 1, wX12_winters), (344, 0, 3, wX12_weaves), (338, 0, 4, wX12_comes)]) (tab := qm_tab aX12_drawDeed) (plainFor_of_name (by decide)) (qm_fld_ok pfRX12_ok) (qm_con_ok pcRX12_ok) (fun idx kd n f hc => cX12_drawDeed_ok (idx, kd, n, f) (qm_lk_mem hc)) (qm_tab_ok aX12_drawDeed_ok) (fun vs h o hw => by
  unfold wX12_drawDeed at hw
  split at hw
  · obtain ⟨r, hr, rfl⟩ := Option.map_eq_some_iff.mp hw
    exact ⟨Nat.le_of_ble_eq_true rfl, rX12_drawDeed_0 (hr)⟩
  · cases hw)
theorem recvX12_drawDeed : ∀ vs h o, wX12_drawDeed vs h = some o → ∃ ci a rest, vs = qm_r 0 ci a :: rest ∧ qm_R ci = yX12_drawDeed.cls := by
  intro vs h o hw
  unfold wX12_drawDeed at hw
  split at hw
  · exact ⟨_, _, _, rfl, rfl⟩
  · cases hw
-- RX12 drawn(IIII)I
theorem jX12_drawn : Jvm.Cond.code yX12_drawn cX12_drawn 6 (some .int) ∈ qm_all := List.mem_filter.mpr ⟨by decide +kernel, rfl⟩
theorem iX12_drawn : Jvm.Cond.instanceMethod yX12_drawn ∈ qm_all ∧ Jvm.Cond.selects yX12_drawn.cls yX12_drawn yX12_drawn ∈ qm_all := ⟨List.mem_filter.mpr ⟨by decide +kernel, rfl⟩, List.mem_filter.mpr ⟨by decide +kernel, rfl⟩⟩
def wX12_drawn : qm_C := fun vs h => match vs with
  | [.inr (.inr (some (0, 12, p0))), .inl p1, .inl p2, .inl p3, .inl p4] => (qX12_drawn p0 p1 p2 p3 p4 h).map qm_Gi
  | _ => none
def aX12_drawn : List (Option (Instr × Nat)) := [some (.aload_n 0, 1), some (.iconst 0, 1), some (.putfield 88, 3), none, none, some (.iload_n 3, 1), some (.iconst 0, 1), some (.bipush 60, 2), none, some (.invokestatic 100, 3), none, none, some (.ifCond .eq 11, 3), none, none, some (.aload_n 0, 1), some (.iload_n 1, 1), some (.invokevirtual 301, 3), none, none, some (.ifCond .ne 6, 3), none, none, some (.bipush (-2), 2), none, some (.ireturn, 1), some (.aload_n 0, 1), some (.iload_n 2, 1), some (.putfield 498, 3), none, none, some (.aload_n 0, 1), some (.invokevirtual 357, 3), none, none, some (.iconst 0, 1), some (.istore 5, 2), none, some (.iload 5, 2), none, some (.iload_n 3, 1), some (.if_icmp .ge 13, 3), none, none, some (.aload_n 0, 1), some (.invokevirtual 505, 3), none, none, some (.iinc 5 1, 3), none, none, some (.goto (-13), 3), none, none, some (.aload_n 0, 1), some (.iload 4, 2), none, some (.invokevirtual 372, 3), none, none, some (.ireturn, 1)]
theorem aX12_drawn_ok : qm_tabok cX12_drawn aX12_drawn = true := by decide +kernel
def mX12_drawn : qm_M := ((some .int), (fun k => qm_lk k pfRX12), (fun k => qm_lk k pcRX12), (fun k => qm_lk k [(372, 0, 2, wX12_ofState), (505, 0, 1, wX12_drawDeed), (100, 2, 3, wX12_in), (301, 0, 2, wX12_hand), (357, 0, 1, wX12_begin)]), qm_tab aX12_drawn)
set_option maxRecDepth 20000 in
set_option maxHeartbeats 2000000 in
theorem rX12_drawn_38   : ∀ {fuel : Nat} {a0 : Nat} {x3 : Int32} {x4 : Int32} {x5 : Int32} {xd1 : Int32} {xd2 : Int32} {h : qm_H} {r : Int32 × qm_H}, qX12_drawn_38  fuel a0 x3 x4 x5 h = some r → qm_Ret mX12_drawn (38, [some (qm_r 0 12 a0), some (qm_i xd1), some (qm_i xd2), some (qm_i x3), some (qm_i x4), some (qm_i x5)], [], h) (qm_Gi r) := by
  intro fuel
  induction fuel with
  | zero => intros; rename_i ho; cases ho
  | succ n ih =>
    intro a0 x3 x4 x5 xd1 xd2 h r ho
    unfold qX12_drawn_38 at ho
    refine qm_Ret.sts 2 (f' := (41, [some (qm_r 0 12 a0), some (qm_i xd1), some (qm_i xd2), some (qm_i x3), some (qm_i x4), some (qm_i x5)], [qm_i x3, qm_i x5], h)) rfl ?_
    refine qm_Ret.ge (t := 54) (e := 44) rfl (fun hc => ?_) (fun hc => ?_)
    · rw [if_pos hc] at ho
      refine qm_Ret.sts 1 (f' := (45, [some (qm_r 0 12 a0), some (qm_i xd1), some (qm_i xd2), some (qm_i x3), some (qm_i x4), some (qm_i x5)], [qm_r 0 12 a0], h)) rfl ?_
      obtain ⟨h3, hr, ho⟩ := qm_bd ho
      refine qm_Ret.call (X := wX12_drawDeed [qm_r 0 12 a0] h) (o1 := (none, h3)) (qm_mp (G := qm_Gv) hr) rfl ?_
      show qm_Ret _ (48, [some (qm_r 0 12 a0), some (qm_i xd1), some (qm_i xd2), some (qm_i x3), some (qm_i x4), some (qm_i x5)], [], h3) _
      refine qm_Ret.sts 2 (f' := (38, [some (qm_r 0 12 a0), some (qm_i xd1), some (qm_i xd2), some (qm_i x3), some (qm_i x4), some (qm_i (x5 + (1 : Int32)))], [], h3)) rfl ?_
      exact ih ho
    · rw [if_neg hc] at ho
      refine qm_Ret.sts 2 (f' := (57, [some (qm_r 0 12 a0), some (qm_i xd1), some (qm_i xd2), some (qm_i x3), some (qm_i x4), some (qm_i x5)], [qm_i x4, qm_r 0 12 a0], h)) rfl ?_
      obtain ⟨r2, h1, hr, ho⟩ := qm_b2e ho
      refine qm_Ret.call (X := wX12_ofState [qm_r 0 12 a0, qm_i x4] h) (o1 := (some (qm_i r2), h1)) (qm_mp (G := qm_Gi) hr) rfl ?_
      show qm_Ret _ (60, [some (qm_r 0 12 a0), some (qm_i xd1), some (qm_i xd2), some (qm_i x3), some (qm_i x4), some (qm_i x5)], [qm_i r2], h1) _
      cases ho
      exact qm_Ret.ret 1 rfl
set_option maxRecDepth 20000 in
set_option maxHeartbeats 2000000 in
theorem rX12_drawn_0   {a0 : Nat} {x1 : Int32} {x2 : Int32} {x3 : Int32} {x4 : Int32} {h : qm_H} {r : Int32 × qm_H} (ho : qX12_drawn  a0 x1 x2 x3 x4 h = some r) : qm_Ret mX12_drawn (0, [some (qm_r 0 12 a0), some (qm_i x1), some (qm_i x2), some (qm_i x3), some (qm_i x4), none], [], h) (qm_Gi r) := by
  unfold qX12_drawn at ho
  refine qm_Ret.sts 3 (f' := (5, [some (qm_r 0 12 a0), some (qm_i x1), some (qm_i x2), some (qm_i x3), some (qm_i x4), none], [], (qm_seti h a0 0 (0 : Int32)))) rfl ?_
  refine qm_Ret.lets (F := fun h1 => (5, [some (qm_r 0 12 a0), some (qm_i x1), some (qm_i x2), some (qm_i x3), some (qm_i x4), none], [], h1)) (G := qm_Gi) ho (fun h1 ho => ?_)
  refine qm_Ret.sts 3 (f' := (9, [some (qm_r 0 12 a0), some (qm_i x1), some (qm_i x2), some (qm_i x3), some (qm_i x4), none], [qm_i (60 : Int32), qm_i (0 : Int32), qm_i x3], h1)) rfl ?_
  obtain ⟨r3, h2, hr, ho⟩ := qm_b2e ho
  refine qm_Ret.call (X := wX12_in [qm_i x3, qm_i (0 : Int32), qm_i (60 : Int32)] h1) (o1 := (some (qm_i r3), h2)) (qm_mp (G := qm_Gi) hr) rfl ?_
  show qm_Ret _ (12, [some (qm_r 0 12 a0), some (qm_i x1), some (qm_i x2), some (qm_i x3), some (qm_i x4), none], [qm_i r3], h2) _
  refine qm_Ret.eq (t := 23) (e := 15) rfl (fun hc => ?_) (fun hc => ?_)
  · rw [if_pos hc] at ho
    cases ho
    exact qm_Ret.ret 2 rfl
  · rw [if_neg hc] at ho
    refine qm_Ret.sts 2 (f' := (17, [some (qm_r 0 12 a0), some (qm_i x1), some (qm_i x2), some (qm_i x3), some (qm_i x4), none], [qm_i x1, qm_r 0 12 a0], h2)) rfl ?_
    obtain ⟨r5, h4, hr, ho⟩ := qm_b2e ho
    refine qm_Ret.call (X := wX12_hand [qm_r 0 12 a0, qm_i x1] h2) (o1 := (some (qm_i r5), h4)) (qm_mp (G := qm_Gi) hr) rfl ?_
    show qm_Ret _ (20, [some (qm_r 0 12 a0), some (qm_i x1), some (qm_i x2), some (qm_i x3), some (qm_i x4), none], [qm_i r5], h4) _
    refine qm_Ret.ne (t := 26) (e := 23) rfl (fun hc => ?_) (fun hc => ?_)
    · rw [if_pos hc] at ho
      cases ho
      exact qm_Ret.ret 2 rfl
    · rw [if_neg hc] at ho
      refine qm_Ret.sts 4 (f' := (32, [some (qm_r 0 12 a0), some (qm_i x1), some (qm_i x2), some (qm_i x3), some (qm_i x4), none], [qm_r 0 12 a0], (qm_seti h4 a0 49 x2))) rfl ?_
      obtain ⟨h6, hr, ho⟩ := qm_bd ho
      refine qm_Ret.call (X := wX12_begin [qm_r 0 12 a0] (qm_seti h4 a0 49 x2)) (o1 := (none, h6)) (qm_mp (G := qm_Gv) hr) rfl ?_
      show qm_Ret _ (35, [some (qm_r 0 12 a0), some (qm_i x1), some (qm_i x2), some (qm_i x3), some (qm_i x4), none], [], h6) _
      refine qm_Ret.sts 2 (f' := (38, [some (qm_r 0 12 a0), some (qm_i x1), some (qm_i x2), some (qm_i x3), some (qm_i x4), some (qm_i (0 : Int32))], [], h6)) rfl ?_
      exact rX12_drawn_38 ho
theorem cX12_drawn_ok : ∀ q ∈ ([(372, 0, 2, wX12_ofState), (505, 0, 1, wX12_drawDeed), (100, 2, 3, wX12_in), (301, 0, 2, wX12_hand), (357, 0, 1, wX12_begin)] : List (Nat × Nat × Nat × qm_C)), qm_CallOK RX12 6 146 q.2.1 q.1 q.2.2.1 q.2.2.2 := List.forall_mem_cons.mpr ⟨Or.inl ⟨yX12_ofState, cX12_ofState, 2, (some .int), 3, 67, _, sX12_ofState, ⟨by decide, by decide⟩, ⟨jX12_ofState, kRX12_372, uRX12⟩, ⟨by decide, by decide, rfl⟩, Or.inl ⟨rfl, rfl, iX12_ofState, recvX12_ofState⟩⟩, List.forall_mem_cons.mpr ⟨Or.inl ⟨yX12_drawDeed, cX12_drawDeed, 4, none, 5, 123, _, sX12_drawDeed, ⟨by decide, by decide⟩, ⟨jX12_drawDeed, kRX12_505, uRX12⟩, ⟨by decide, by decide, rfl⟩, Or.inl ⟨rfl, rfl, iX12_drawDeed, recvX12_drawDeed⟩⟩, List.forall_mem_cons.mpr ⟨Or.inl ⟨yX12_in, cX12_in, 3, (some .boolean), 0, 0, _, sX12_in, ⟨by decide, by decide⟩, ⟨jX12_in, kRX12_100, uRX12⟩, ⟨by decide, by decide, rfl⟩, Or.inr (Or.inl ⟨rfl, rfl, iX12_in⟩)⟩, List.forall_mem_cons.mpr ⟨Or.inl ⟨yX12_hand, cX12_hand, 3, (some .boolean), 2, 44, _, sX12_hand, ⟨by decide, by decide⟩, ⟨jX12_hand, kRX12_301, uRX12⟩, ⟨by decide, by decide, rfl⟩, Or.inl ⟨rfl, rfl, iX12_hand, recvX12_hand⟩⟩, List.forall_mem_cons.mpr ⟨Or.inl ⟨yX12_begin, cX12_begin, 2, none, 0, 0, _, sX12_begin, ⟨by decide, by decide⟩, ⟨jX12_begin, kRX12_357, uRX12⟩, ⟨by decide, by decide, rfl⟩, Or.inl ⟨rfl, rfl, iX12_begin, recvX12_begin⟩⟩, fun _ h => absurd h List.not_mem_nil⟩⟩⟩⟩⟩
theorem sX12_drawn : qm_Snd yX12_drawn cX12_drawn 6 (some .int) 6 146 wX12_drawn := qm_met (fld := fun k => qm_lk k pfRX12) (con := fun k => qm_lk k pcRX12) (call := fun k => qm_lk k [(372, 0, 2, wX12_ofState), (505, 0, 1, wX12_drawDeed), (100, 2, 3, wX12_in), (301, 0, 2, wX12_hand), (357, 0, 1, wX12_begin)]) (tab := qm_tab aX12_drawn) (plainFor_of_name (by decide)) (qm_fld_ok pfRX12_ok) (qm_con_ok pcRX12_ok) (fun idx kd n f hc => cX12_drawn_ok (idx, kd, n, f) (qm_lk_mem hc)) (qm_tab_ok aX12_drawn_ok) (fun vs h o hw => by
  unfold wX12_drawn at hw
  split at hw
  · obtain ⟨r, hr, rfl⟩ := Option.map_eq_some_iff.mp hw
    exact ⟨Nat.le_of_ble_eq_true rfl, rX12_drawn_0 (hr)⟩
  · cases hw)
theorem recvX12_drawn : ∀ vs h o, wX12_drawn vs h = some o → ∃ ci a rest, vs = qm_r 0 ci a :: rest ∧ qm_R ci = yX12_drawn.cls := by
  intro vs h o hw
  unfold wX12_drawn at hw
  split at hw
  · exact ⟨_, _, _, rfl, rfl⟩
  · cases hw
-- RX12 precedent(IIII)I
theorem jX12_precedent : Jvm.Cond.code yX12_precedent cX12_precedent 6 (some .int) ∈ qm_all := List.mem_filter.mpr ⟨by decide +kernel, rfl⟩
theorem iX12_precedent : Jvm.Cond.instanceMethod yX12_precedent ∈ qm_all ∧ Jvm.Cond.selects yX12_precedent.cls yX12_precedent yX12_precedent ∈ qm_all := ⟨List.mem_filter.mpr ⟨by decide +kernel, rfl⟩, List.mem_filter.mpr ⟨by decide +kernel, rfl⟩⟩
def wX12_precedent : qm_C := fun vs h => match vs with
  | [.inr (.inr (some (0, 12, p0))), .inl p1, .inl p2, .inl p3, .inl p4] => (qX12_precedent p0 p1 p2 p3 p4 h).map qm_Gi
  | _ => none
def aX12_precedent : List (Option (Instr × Nat)) := [some (.aload_n 0, 1), some (.iconst 0, 1), some (.putfield 88, 3), none, none, some (.iload_n 3, 1), some (.iload 4, 2), none, some (.invokestatic 310, 3), none, none, some (.ifCond .eq 12, 3), none, none, some (.aload_n 0, 1), some (.iload_n 1, 1), some (.iload_n 2, 1), some (.invokevirtual 363, 3), none, none, some (.ifCond .ne 6, 3), none, none, some (.bipush (-2), 2), none, some (.ireturn, 1), some (.aload_n 0, 1), some (.invokevirtual 357, 3), none, none, some (.iconst 0, 1), some (.istore 5, 2), none, some (.iload 5, 2), none, some (.aload_n 0, 1), some (.invokevirtual 329, 3), none, none, some (.if_icmp .gt 43, 3), none, none, some (.aload_n 0, 1), some (.iload_n 3, 1), some (.iload 4, 2), none, some (.invokevirtual 313, 3), none, none, some (.iconst (-1), 1), some (.if_icmp .eq 6, 3), none, none, some (.iload 5, 2), none, some (.ireturn, 1), some (.iload 5, 2), none, some (.aload_n 0, 1), some (.invokevirtual 329, 3), none, none, some (.if_icmp .eq 12, 3), none, none, some (.aload_n 0, 1), some (.iload 5, 2), none, some (.invokevirtual 360, 3), none, none, some (.ifCond .ne 5, 3), none, none, some (.iconst (-1), 1), some (.ireturn, 1), some (.iinc 5 1, 3), none, none, some (.goto (-46), 3), none, none, some (.iconst (-1), 1), some (.ireturn, 1)]
theorem aX12_precedent_ok : qm_tabok cX12_precedent aX12_precedent = true := by decide +kernel
def mX12_precedent : qm_M := ((some .int), (fun k => qm_lk k pfRX12), (fun k => qm_lk k pcRX12), (fun k => qm_lk k [(329, 0, 1, wX12_deeds), (313, 0, 3, wX12_slipsBy), (360, 0, 2, wX12_doesDeed), (310, 2, 2, wX12_isSize), (363, 0, 3, wX12_layAll), (357, 0, 1, wX12_begin)]), qm_tab aX12_precedent)
set_option maxRecDepth 20000 in
set_option maxHeartbeats 2000000 in
theorem rX12_precedent_33   : ∀ {fuel : Nat} {a0 : Nat} {x3 : Int32} {x4 : Int32} {x5 : Int32} {xd1 : Int32} {xd2 : Int32} {h : qm_H} {r : Int32 × qm_H}, qX12_precedent_33  fuel a0 x3 x4 x5 h = some r → qm_Ret mX12_precedent (33, [some (qm_r 0 12 a0), some (qm_i xd1), some (qm_i xd2), some (qm_i x3), some (qm_i x4), some (qm_i x5)], [], h) (qm_Gi r) := by
  intro fuel
  induction fuel with
  | zero => intros; rename_i ho; cases ho
  | succ n ih =>
    intro a0 x3 x4 x5 xd1 xd2 h r ho
    unfold qX12_precedent_33 at ho
    refine qm_Ret.sts 2 (f' := (36, [some (qm_r 0 12 a0), some (qm_i xd1), some (qm_i xd2), some (qm_i x3), some (qm_i x4), some (qm_i x5)], [qm_r 0 12 a0, qm_i x5], h)) rfl ?_
    obtain ⟨r2, h1, hr, ho⟩ := qm_b2e ho
    refine qm_Ret.call (X := wX12_deeds [qm_r 0 12 a0] h) (o1 := (some (qm_i r2), h1)) (qm_mp (G := qm_Gi) hr) rfl ?_
    show qm_Ret _ (39, [some (qm_r 0 12 a0), some (qm_i xd1), some (qm_i xd2), some (qm_i x3), some (qm_i x4), some (qm_i x5)], [qm_i r2, qm_i x5], h1) _
    refine qm_Ret.gt (t := 82) (e := 42) rfl (fun hc => ?_) (fun hc => ?_)
    · rw [if_pos hc] at ho
      cases ho
      exact qm_Ret.ret 2 rfl
    · rw [if_neg hc] at ho
      refine qm_Ret.sts 3 (f' := (46, [some (qm_r 0 12 a0), some (qm_i xd1), some (qm_i xd2), some (qm_i x3), some (qm_i x4), some (qm_i x5)], [qm_i x4, qm_i x3, qm_r 0 12 a0], h1)) rfl ?_
      obtain ⟨r4, h3, hr, ho⟩ := qm_b2e ho
      refine qm_Ret.call (X := wX12_slipsBy [qm_r 0 12 a0, qm_i x3, qm_i x4] h1) (o1 := (some (qm_i r4), h3)) (qm_mp (G := qm_Gi) hr) rfl ?_
      show qm_Ret _ (49, [some (qm_r 0 12 a0), some (qm_i xd1), some (qm_i xd2), some (qm_i x3), some (qm_i x4), some (qm_i x5)], [qm_i r4], h3) _
      refine qm_Ret.sts 1 (f' := (50, [some (qm_r 0 12 a0), some (qm_i xd1), some (qm_i xd2), some (qm_i x3), some (qm_i x4), some (qm_i x5)], [qm_i (-1 : Int32), qm_i r4], h3)) rfl ?_
      refine qm_Ret.eq (t := 56) (e := 53) rfl (fun hc => ?_) (fun hc => ?_)
      · rw [if_pos hc] at ho
        refine qm_Ret.sts 2 (f' := (59, [some (qm_r 0 12 a0), some (qm_i xd1), some (qm_i xd2), some (qm_i x3), some (qm_i x4), some (qm_i x5)], [qm_r 0 12 a0, qm_i x5], h3)) rfl ?_
        obtain ⟨r6, h5, hr, ho⟩ := qm_b2e ho
        refine qm_Ret.call (X := wX12_deeds [qm_r 0 12 a0] h3) (o1 := (some (qm_i r6), h5)) (qm_mp (G := qm_Gi) hr) rfl ?_
        show qm_Ret _ (62, [some (qm_r 0 12 a0), some (qm_i xd1), some (qm_i xd2), some (qm_i x3), some (qm_i x4), some (qm_i x5)], [qm_i r6, qm_i x5], h5) _
        refine qm_Ret.eq (t := 74) (e := 65) rfl (fun hc => ?_) (fun hc => ?_)
        · rw [if_pos hc] at ho
          cases ho
          exact qm_Ret.ret 2 rfl
        · rw [if_neg hc] at ho
          refine qm_Ret.sts 2 (f' := (68, [some (qm_r 0 12 a0), some (qm_i xd1), some (qm_i xd2), some (qm_i x3), some (qm_i x4), some (qm_i x5)], [qm_i x5, qm_r 0 12 a0], h5)) rfl ?_
          obtain ⟨r8, h7, hr, ho⟩ := qm_b2e ho
          refine qm_Ret.call (X := wX12_doesDeed [qm_r 0 12 a0, qm_i x5] h5) (o1 := (some (qm_i r8), h7)) (qm_mp (G := qm_Gi) hr) rfl ?_
          show qm_Ret _ (71, [some (qm_r 0 12 a0), some (qm_i xd1), some (qm_i xd2), some (qm_i x3), some (qm_i x4), some (qm_i x5)], [qm_i r8], h7) _
          refine qm_Ret.ne (t := 76) (e := 74) rfl (fun hc => ?_) (fun hc => ?_)
          · rw [if_pos hc] at ho
            cases ho
            exact qm_Ret.ret 2 rfl
          · rw [if_neg hc] at ho
            refine qm_Ret.sts 2 (f' := (33, [some (qm_r 0 12 a0), some (qm_i xd1), some (qm_i xd2), some (qm_i x3), some (qm_i x4), some (qm_i (x5 + (1 : Int32)))], [], h7)) rfl ?_
            exact ih ho
      · rw [if_neg hc] at ho
        cases ho
        exact qm_Ret.ret 2 rfl
set_option maxRecDepth 20000 in
set_option maxHeartbeats 2000000 in
theorem rX12_precedent_0   {a0 : Nat} {x1 : Int32} {x2 : Int32} {x3 : Int32} {x4 : Int32} {h : qm_H} {r : Int32 × qm_H} (ho : qX12_precedent  a0 x1 x2 x3 x4 h = some r) : qm_Ret mX12_precedent (0, [some (qm_r 0 12 a0), some (qm_i x1), some (qm_i x2), some (qm_i x3), some (qm_i x4), none], [], h) (qm_Gi r) := by
  unfold qX12_precedent at ho
  refine qm_Ret.sts 3 (f' := (5, [some (qm_r 0 12 a0), some (qm_i x1), some (qm_i x2), some (qm_i x3), some (qm_i x4), none], [], (qm_seti h a0 0 (0 : Int32)))) rfl ?_
  refine qm_Ret.lets (F := fun h1 => (5, [some (qm_r 0 12 a0), some (qm_i x1), some (qm_i x2), some (qm_i x3), some (qm_i x4), none], [], h1)) (G := qm_Gi) ho (fun h1 ho => ?_)
  refine qm_Ret.sts 2 (f' := (8, [some (qm_r 0 12 a0), some (qm_i x1), some (qm_i x2), some (qm_i x3), some (qm_i x4), none], [qm_i x4, qm_i x3], h1)) rfl ?_
  obtain ⟨r3, h2, hr, ho⟩ := qm_b2e ho
  refine qm_Ret.call (X := wX12_isSize [qm_i x3, qm_i x4] h1) (o1 := (some (qm_i r3), h2)) (qm_mp (G := qm_Gi) hr) rfl ?_
  show qm_Ret _ (11, [some (qm_r 0 12 a0), some (qm_i x1), some (qm_i x2), some (qm_i x3), some (qm_i x4), none], [qm_i r3], h2) _
  refine qm_Ret.eq (t := 23) (e := 14) rfl (fun hc => ?_) (fun hc => ?_)
  · rw [if_pos hc] at ho
    cases ho
    exact qm_Ret.ret 2 rfl
  · rw [if_neg hc] at ho
    refine qm_Ret.sts 3 (f' := (17, [some (qm_r 0 12 a0), some (qm_i x1), some (qm_i x2), some (qm_i x3), some (qm_i x4), none], [qm_i x2, qm_i x1, qm_r 0 12 a0], h2)) rfl ?_
    obtain ⟨r5, h4, hr, ho⟩ := qm_b2e ho
    refine qm_Ret.call (X := wX12_layAll [qm_r 0 12 a0, qm_i x1, qm_i x2] h2) (o1 := (some (qm_i r5), h4)) (qm_mp (G := qm_Gi) hr) rfl ?_
    show qm_Ret _ (20, [some (qm_r 0 12 a0), some (qm_i x1), some (qm_i x2), some (qm_i x3), some (qm_i x4), none], [qm_i r5], h4) _
    refine qm_Ret.ne (t := 26) (e := 23) rfl (fun hc => ?_) (fun hc => ?_)
    · rw [if_pos hc] at ho
      cases ho
      exact qm_Ret.ret 2 rfl
    · rw [if_neg hc] at ho
      refine qm_Ret.sts 1 (f' := (27, [some (qm_r 0 12 a0), some (qm_i x1), some (qm_i x2), some (qm_i x3), some (qm_i x4), none], [qm_r 0 12 a0], h4)) rfl ?_
      obtain ⟨h6, hr, ho⟩ := qm_bd ho
      refine qm_Ret.call (X := wX12_begin [qm_r 0 12 a0] h4) (o1 := (none, h6)) (qm_mp (G := qm_Gv) hr) rfl ?_
      show qm_Ret _ (30, [some (qm_r 0 12 a0), some (qm_i x1), some (qm_i x2), some (qm_i x3), some (qm_i x4), none], [], h6) _
      refine qm_Ret.sts 2 (f' := (33, [some (qm_r 0 12 a0), some (qm_i x1), some (qm_i x2), some (qm_i x3), some (qm_i x4), some (qm_i (0 : Int32))], [], h6)) rfl ?_
      exact rX12_precedent_33 ho
theorem cX12_precedent_ok : ∀ q ∈ ([(329, 0, 1, wX12_deeds), (313, 0, 3, wX12_slipsBy), (360, 0, 2, wX12_doesDeed), (310, 2, 2, wX12_isSize), (363, 0, 3, wX12_layAll), (357, 0, 1, wX12_begin)] : List (Nat × Nat × Nat × qm_C)), qm_CallOK RX12 7 168 q.2.1 q.1 q.2.2.1 q.2.2.2 := List.forall_mem_cons.mpr ⟨Or.inl ⟨yX12_deeds, cX12_deeds, 1, (some .int), 0, 0, _, sX12_deeds, ⟨by decide, by decide⟩, ⟨jX12_deeds, kRX12_329, uRX12⟩, ⟨by decide, by decide, rfl⟩, Or.inl ⟨rfl, rfl, iX12_deeds, recvX12_deeds⟩⟩, List.forall_mem_cons.mpr ⟨Or.inl ⟨yX12_slipsBy, cX12_slipsBy, 4, (some .int), 3, 72, _, sX12_slipsBy, ⟨by decide, by decide⟩, ⟨jX12_slipsBy, kRX12_313, uRX12⟩, ⟨by decide, by decide, rfl⟩, Or.inl ⟨rfl, rfl, iX12_slipsBy, recvX12_slipsBy⟩⟩, List.forall_mem_cons.mpr ⟨Or.inl ⟨yX12_doesDeed, cX12_doesDeed, 2, (some .boolean), 6, 147, _, sX12_doesDeed, ⟨by decide, by decide⟩, ⟨jX12_doesDeed, kRX12_360, uRX12⟩, ⟨by decide, by decide, rfl⟩, Or.inl ⟨rfl, rfl, iX12_doesDeed, recvX12_doesDeed⟩⟩, List.forall_mem_cons.mpr ⟨Or.inl ⟨yX12_isSize, cX12_isSize, 2, (some .boolean), 1, 22, _, sX12_isSize, ⟨by decide, by decide⟩, ⟨jX12_isSize, kRX12_310, uRX12⟩, ⟨by decide, by decide, rfl⟩, Or.inr (Or.inl ⟨rfl, rfl, iX12_isSize⟩)⟩, List.forall_mem_cons.mpr ⟨Or.inl ⟨yX12_layAll, cX12_layAll, 3, (some .boolean), 3, 66, _, sX12_layAll, ⟨by decide, by decide⟩, ⟨jX12_layAll, kRX12_363, uRX12⟩, ⟨by decide, by decide, rfl⟩, Or.inl ⟨rfl, rfl, iX12_layAll, recvX12_layAll⟩⟩, List.forall_mem_cons.mpr ⟨Or.inl ⟨yX12_begin, cX12_begin, 2, none, 0, 0, _, sX12_begin, ⟨by decide, by decide⟩, ⟨jX12_begin, kRX12_357, uRX12⟩, ⟨by decide, by decide, rfl⟩, Or.inl ⟨rfl, rfl, iX12_begin, recvX12_begin⟩⟩, fun _ h => absurd h List.not_mem_nil⟩⟩⟩⟩⟩⟩
theorem sX12_precedent : qm_Snd yX12_precedent cX12_precedent 6 (some .int) 7 168 wX12_precedent := qm_met (fld := fun k => qm_lk k pfRX12) (con := fun k => qm_lk k pcRX12) (call := fun k => qm_lk k [(329, 0, 1, wX12_deeds), (313, 0, 3, wX12_slipsBy), (360, 0, 2, wX12_doesDeed), (310, 2, 2, wX12_isSize), (363, 0, 3, wX12_layAll), (357, 0, 1, wX12_begin)]) (tab := qm_tab aX12_precedent) (plainFor_of_name (by decide)) (qm_fld_ok pfRX12_ok) (qm_con_ok pcRX12_ok) (fun idx kd n f hc => cX12_precedent_ok (idx, kd, n, f) (qm_lk_mem hc)) (qm_tab_ok aX12_precedent_ok) (fun vs h o hw => by
  unfold wX12_precedent at hw
  split at hw
  · obtain ⟨r, hr, rfl⟩ := Option.map_eq_some_iff.mp hw
    exact ⟨Nat.le_of_ble_eq_true rfl, rX12_precedent_0 (hr)⟩
  · cases hw)
theorem recvX12_precedent : ∀ vs h o, wX12_precedent vs h = some o → ∃ ci a rest, vs = qm_r 0 ci a :: rest ∧ qm_R ci = yX12_precedent.cls := by
  intro vs h o hw
  unfold wX12_precedent at hw
  split at hw
  · exact ⟨_, _, _, rfl, rfl⟩
  · cases hw
-- RX12 holdOf(II)I
theorem jX12_holdOf : Jvm.Cond.code yX12_holdOf cX12_holdOf 3 (some .int) ∈ qm_all := List.mem_filter.mpr ⟨by decide +kernel, rfl⟩
theorem iX12_holdOf : Jvm.Cond.instanceMethod yX12_holdOf ∈ qm_all ∧ Jvm.Cond.selects yX12_holdOf.cls yX12_holdOf yX12_holdOf ∈ qm_all := ⟨List.mem_filter.mpr ⟨by decide +kernel, rfl⟩, List.mem_filter.mpr ⟨by decide +kernel, rfl⟩⟩
def wX12_holdOf : qm_C := fun vs h => match vs with
  | [.inr (.inr (some (0, 12, p0))), .inl p1, .inl p2] => (qX12_holdOf p0 p1 p2 h).map qm_Gi
  | _ => none
def aX12_holdOf : List (Option (Instr × Nat)) := [some (.aload_n 0, 1), some (.aload_n 0, 1), some (.iload_n 1, 1), some (.iload_n 2, 1), some (.iconst 0, 1), some (.invokevirtual 319, 3), none, none, some (.iload_n 1, 1), some (.iload_n 2, 1), some (.iconst 0, 1), some (.invokevirtual 297, 3), none, none, some (.ireturn, 1)]
theorem aX12_holdOf_ok : qm_tabok cX12_holdOf aX12_holdOf = true := by decide +kernel
def mX12_holdOf : qm_M := ((some .int), (fun k => qm_lk k pfRX12), (fun k => qm_lk k pcRX12), (fun k => qm_lk k [(319, 0, 4, wX12_weakest), (297, 0, 5, wX12_holdsAt)]), qm_tab aX12_holdOf)
set_option maxRecDepth 20000 in
set_option maxHeartbeats 2000000 in
theorem rX12_holdOf_0   {a0 : Nat} {x1 : Int32} {x2 : Int32} {h : qm_H} {r : Int32 × qm_H} (ho : qX12_holdOf  a0 x1 x2 h = some r) : qm_Ret mX12_holdOf (0, [some (qm_r 0 12 a0), some (qm_i x1), some (qm_i x2)], [], h) (qm_Gi r) := by
  unfold qX12_holdOf at ho
  refine qm_Ret.sts 5 (f' := (5, [some (qm_r 0 12 a0), some (qm_i x1), some (qm_i x2)], [qm_i (0 : Int32), qm_i x2, qm_i x1, qm_r 0 12 a0, qm_r 0 12 a0], h)) rfl ?_
  obtain ⟨r2, h1, hr, ho⟩ := qm_b2e ho
  refine qm_Ret.call (X := wX12_weakest [qm_r 0 12 a0, qm_i x1, qm_i x2, qm_i (0 : Int32)] h) (o1 := (some (qm_i r2), h1)) (qm_mp (G := qm_Gi) hr) rfl ?_
  show qm_Ret _ (8, [some (qm_r 0 12 a0), some (qm_i x1), some (qm_i x2)], [qm_i r2, qm_r 0 12 a0], h1) _
  refine qm_Ret.sts 3 (f' := (11, [some (qm_r 0 12 a0), some (qm_i x1), some (qm_i x2)], [qm_i (0 : Int32), qm_i x2, qm_i x1, qm_i r2, qm_r 0 12 a0], h1)) rfl ?_
  obtain ⟨r4, h3, hr, ho⟩ := qm_b2e ho
  refine qm_Ret.call (X := wX12_holdsAt [qm_r 0 12 a0, qm_i r2, qm_i x1, qm_i x2, qm_i (0 : Int32)] h1) (o1 := (some (qm_i r4), h3)) (qm_mp (G := qm_Gi) hr) rfl ?_
  show qm_Ret _ (14, [some (qm_r 0 12 a0), some (qm_i x1), some (qm_i x2)], [qm_i r4], h3) _
  cases ho
  exact qm_Ret.ret 1 rfl
theorem cX12_holdOf_ok : ∀ q ∈ ([(319, 0, 4, wX12_weakest), (297, 0, 5, wX12_holdsAt)] : List (Nat × Nat × Nat × qm_C)), qm_CallOK RX12 4 98 q.2.1 q.1 q.2.2.1 q.2.2.2 := List.forall_mem_cons.mpr ⟨Or.inl ⟨yX12_weakest, cX12_weakest, 7, (some .int), 3, 72, _, sX12_weakest, ⟨by decide, by decide⟩, ⟨jX12_weakest, kRX12_319, uRX12⟩, ⟨by decide, by decide, rfl⟩, Or.inl ⟨rfl, rfl, iX12_weakest, recvX12_weakest⟩⟩, List.forall_mem_cons.mpr ⟨Or.inl ⟨yX12_holdsAt, cX12_holdsAt, 8, (some .int), 2, 45, _, sX12_holdsAt, ⟨by decide, by decide⟩, ⟨jX12_holdsAt, kRX12_297, uRX12⟩, ⟨by decide, by decide, rfl⟩, Or.inl ⟨rfl, rfl, iX12_holdsAt, recvX12_holdsAt⟩⟩, fun _ h => absurd h List.not_mem_nil⟩⟩
theorem sX12_holdOf : qm_Snd yX12_holdOf cX12_holdOf 3 (some .int) 4 98 wX12_holdOf := qm_met (fld := fun k => qm_lk k pfRX12) (con := fun k => qm_lk k pcRX12) (call := fun k => qm_lk k [(319, 0, 4, wX12_weakest), (297, 0, 5, wX12_holdsAt)]) (tab := qm_tab aX12_holdOf) (plainFor_of_name (by decide)) (qm_fld_ok pfRX12_ok) (qm_con_ok pcRX12_ok) (fun idx kd n f hc => cX12_holdOf_ok (idx, kd, n, f) (qm_lk_mem hc)) (qm_tab_ok aX12_holdOf_ok) (fun vs h o hw => by
  unfold wX12_holdOf at hw
  split at hw
  · obtain ⟨r, hr, rfl⟩ := Option.map_eq_some_iff.mp hw
    exact ⟨Nat.le_of_ble_eq_true rfl, rX12_holdOf_0 (hr)⟩
  · cases hw)
theorem recvX12_holdOf : ∀ vs h o, wX12_holdOf vs h = some o → ∃ ci a rest, vs = qm_r 0 ci a :: rest ∧ qm_R ci = yX12_holdOf.cls := by
  intro vs h o hw
  unfold wX12_holdOf at hw
  split at hw
  · exact ⟨_, _, _, rfl, rfl⟩
  · cases hw
-- RX12 stout(IIIZ)I
theorem jX12_stout : Jvm.Cond.code yX12_stout cX12_stout 10 (some .int) ∈ qm_all := List.mem_filter.mpr ⟨by decide +kernel, rfl⟩
theorem iX12_stout : Jvm.Cond.instanceMethod yX12_stout ∈ qm_all ∧ Jvm.Cond.selects yX12_stout.cls yX12_stout yX12_stout ∈ qm_all := ⟨List.mem_filter.mpr ⟨by decide +kernel, rfl⟩, List.mem_filter.mpr ⟨by decide +kernel, rfl⟩⟩
def wX12_stout : qm_C := fun vs h => match vs with
  | [.inr (.inr (some (0, 12, p0))), .inl p1, .inl p2, .inl p3, .inl p4] => (qX12_stout p0 p1 p2 p3 p4 h).map qm_Gi
  | _ => none
def aX12_stout : List (Option (Instr × Nat)) := [some (.aload_n 0, 1), some (.iconst 0, 1), some (.putfield 88, 3), none, none, some (.iload_n 2, 1), some (.iload_n 3, 1), some (.invokestatic 310, 3), none, none, some (.ifCond .eq 30, 3), none, none, some (.aload_n 0, 1), some (.iload_n 1, 1), some (.invokevirtual 301, 3), none, none, some (.ifCond .eq 22, 3), none, none, some (.aload_n 0, 1), some (.iload_n 2, 1), some (.iload_n 3, 1), some (.invokevirtual 316, 3), none, none, some (.ifCond .eq 13, 3), none, none, some (.aload_n 0, 1), some (.iload_n 2, 1), some (.iload_n 3, 1), some (.invokevirtual 313, 3), none, none, some (.iconst (-1), 1), some (.if_icmp .eq 5, 3), none, none, some (.iconst (-1), 1), some (.ireturn, 1), some (.iconst (-1), 1), some (.istore 5, 2), none, some (.iconst (-1), 1), some (.istore 6, 2), none, some (.iconst 0, 1), some (.istore 7, 2), none, some (.iload 7, 2), none, some (.bipush 16, 2), none, some (.if_icmp .ge 124, 3), none, none, some (.iload 7, 2), none, some (.bipush 8, 2), none, some (.if_icmp .ge 20, 3), none, none, some (.iload 7, 2), none, some (.aload_n 0, 1), some (.getfield 276, 3), none, none, some (.if_icmp .ge 7, 3), none, none, some (.iconst 1, 1), some (.goto 24, 3), none, none, some (.iconst 0, 1), some (.goto 20, 3), none, none, some (.iload 7, 2), none, some (.bipush 8, 2), none, some (.isub, 1), some (.aload_n 0, 1), some (.getfield 273, 3), none, none, some (.if_icmp .ge 7, 3), none, none, some (.iconst 1, 1), some (.goto 4, 3), none, none, some (.iconst 0, 1), some (.istore 8, 2), none, some (.iload 8, 2), none, some (.ifCond .eq 70, 3), none, none, some (.aload_n 0, 1), some (.getfield 44, 3), none, none, some (.iload 7, 2), none, some (.iaload, 1), some (.bipush 9, 2), none, some (.if_icmp .ge 58, 3), none, none, some (.aload_n 0, 1), some (.getfield 44, 3), none, none, some (.iload 7, 2), none, some (.dup2, 1), some (.iaload, 1), some (.iconst 1, 1), some (.iadd, 1), some (.iastore, 1), some (.aload_n 0, 1), some (.iload_n 2, 1), some (.iload_n 3, 1), some (.invokevirtual 508, 3), none, none, some (.istore 9, 2), none, some (.aload_n 0, 1), some (.getfield 44, 3), none, none, some (.iload 7, 2), none, some (.dup2, 1), some (.iaload, 1), some (.iconst 1, 1), some (.isub, 1), some (.iastore, 1), some (.iload 9, 2), none, some (.iload 6, 2), none, some (.if_icmp .le 8, 3), none, none, some (.iload 7, 2), none, some (.goto 5, 3), none, none, some (.iload 5, 2), none, some (.istore 5, 2), none, some (.iload 6, 2), none, some (.iload 9, 2), none, some (.invokestatic 161, 3), none, none, some (.istore 6, 2), none, some (.iinc 7 1, 3), none, none, some (.goto (-125), 3), none, none, some (.iload 4, 2), none, some (.ifCond .eq 8, 3), none, none, some (.iload 6, 2), none, some (.goto 5, 3), none, none, some (.iload 5, 2), none, some (.ireturn, 1)]
theorem aX12_stout_ok : qm_tabok cX12_stout aX12_stout = true := by decide +kernel
def mX12_stout : qm_M := ((some .int), (fun k => qm_lk k pfRX12), (fun k => qm_lk k pcRX12), (fun k => qm_lk k [(161, 2, 2, wX12_greater), (508, 0, 3, wX12_holdOf), (310, 2, 2, wX12_isSize), (301, 0, 2, wX12_hand), (316, 0, 3, wX12_isWithin), (313, 0, 3, wX12_slipsBy)]), qm_tab aX12_stout)
set_option maxRecDepth 20000 in
set_option maxHeartbeats 2000000 in
theorem rX12_stout_162 {K51 : Nat → Int32 → Int32 → Int32 → Int32 → Int32 → Int32 → qm_H → Option (Int32 × qm_H)} (H51 : ∀ {a0 : Nat} {x2 : Int32} {x3 : Int32} {x4 : Int32} {x5 : Int32} {x6 : Int32} {x7 : Int32} {xd1 : Int32} {d8 : Option qm_V} {d9 : Option qm_V} {h : qm_H} {r : Int32 × qm_H}, K51 a0 x2 x3 x4 x5 x6 x7 h = some r → qm_Ret mX12_stout (51, [some (qm_r 0 12 a0), some (qm_i xd1), some (qm_i x2), some (qm_i x3), some (qm_i x4), some (qm_i x5), some (qm_i x6), some (qm_i x7), d8, d9], [], h) (qm_Gi r)) {a0 : Nat} {x2 : Int32} {x3 : Int32} {x4 : Int32} {x6 : Int32} {x7 : Int32} {x9 : Int32} {xs0 : Int32} {xd1 : Int32} {xd5 : Int32} {xd8 : Int32} {h : qm_H} {r : Int32 × qm_H} (ho : qX12_stout_162 K51 a0 x2 x3 x4 x6 x7 x9 xs0 h = some r) : qm_Ret mX12_stout (162, [some (qm_r 0 12 a0), some (qm_i xd1), some (qm_i x2), some (qm_i x3), some (qm_i x4), some (qm_i xd5), some (qm_i x6), some (qm_i x7), some (qm_i xd8), some (qm_i x9)], [qm_i xs0], h) (qm_Gi r) := by
  unfold qX12_stout_162 at ho
  refine qm_Ret.sts 3 (f' := (168, [some (qm_r 0 12 a0), some (qm_i xd1), some (qm_i x2), some (qm_i x3), some (qm_i x4), some (qm_i xs0), some (qm_i x6), some (qm_i x7), some (qm_i xd8), some (qm_i x9)], [qm_i x9, qm_i x6], h)) rfl ?_
  obtain ⟨r2, h1, hr, ho⟩ := qm_b2e ho
  refine qm_Ret.call (X := wX12_greater [qm_i x6, qm_i x9] h) (o1 := (some (qm_i r2), h1)) (qm_mp (G := qm_Gi) hr) rfl ?_
  show qm_Ret _ (171, [some (qm_r 0 12 a0), some (qm_i xd1), some (qm_i x2), some (qm_i x3), some (qm_i x4), some (qm_i xs0), some (qm_i x6), some (qm_i x7), some (qm_i xd8), some (qm_i x9)], [qm_i r2], h1) _
  refine qm_Ret.sts 3 (f' := (51, [some (qm_r 0 12 a0), some (qm_i xd1), some (qm_i x2), some (qm_i x3), some (qm_i x4), some (qm_i xs0), some (qm_i r2), some (qm_i (x7 + (1 : Int32))), some (qm_i xd8), some (qm_i x9)], [], h1)) rfl ?_
  exact H51 ho
set_option maxRecDepth 20000 in
set_option maxHeartbeats 2000000 in
theorem rX12_stout_99 {K51 : Nat → Int32 → Int32 → Int32 → Int32 → Int32 → Int32 → qm_H → Option (Int32 × qm_H)} (H51 : ∀ {a0 : Nat} {x2 : Int32} {x3 : Int32} {x4 : Int32} {x5 : Int32} {x6 : Int32} {x7 : Int32} {xd1 : Int32} {d8 : Option qm_V} {d9 : Option qm_V} {h : qm_H} {r : Int32 × qm_H}, K51 a0 x2 x3 x4 x5 x6 x7 h = some r → qm_Ret mX12_stout (51, [some (qm_r 0 12 a0), some (qm_i xd1), some (qm_i x2), some (qm_i x3), some (qm_i x4), some (qm_i x5), some (qm_i x6), some (qm_i x7), d8, d9], [], h) (qm_Gi r)) {a0 : Nat} {x2 : Int32} {x3 : Int32} {x4 : Int32} {x5 : Int32} {x6 : Int32} {x7 : Int32} {xs0 : Int32} {xd1 : Int32} {d8 : Option qm_V} {d9 : Option qm_V} {h : qm_H} {r : Int32 × qm_H} (ho : qX12_stout_99 K51 a0 x2 x3 x4 x5 x6 x7 xs0 h = some r) : qm_Ret mX12_stout (99, [some (qm_r 0 12 a0), some (qm_i xd1), some (qm_i x2), some (qm_i x3), some (qm_i x4), some (qm_i x5), some (qm_i x6), some (qm_i x7), d8, d9], [qm_i xs0], h) (qm_Gi r) := by
  unfold qX12_stout_99 at ho
  refine qm_Ret.sts 2 (f' := (103, [some (qm_r 0 12 a0), some (qm_i xd1), some (qm_i x2), some (qm_i x3), some (qm_i x4), some (qm_i x5), some (qm_i x6), some (qm_i x7), some (qm_i xs0), d9], [qm_i xs0], h)) rfl ?_
  refine qm_Ret.eq (t := 173) (e := 106) rfl (fun hc => ?_) (fun hc => ?_)
  · rw [if_pos hc] at ho
    refine qm_Ret.sts 2 (f' := (51, [some (qm_r 0 12 a0), some (qm_i xd1), some (qm_i x2), some (qm_i x3), some (qm_i x4), some (qm_i x5), some (qm_i x6), some (qm_i (x7 + (1 : Int32))), some (qm_i xs0), d9], [], h)) rfl ?_
    exact H51 ho
  · rw [if_neg hc] at ho
    refine qm_Ret.sts 3 (f' := (112, [some (qm_r 0 12 a0), some (qm_i xd1), some (qm_i x2), some (qm_i x3), some (qm_i x4), some (qm_i x5), some (qm_i x6), some (qm_i x7), some (qm_i xs0), d9], [qm_i x7, qm_r 1 16 (a0 + 12)], h)) rfl ?_
    obtain ⟨hg, ho⟩ := qm_ifn ho
    refine qm_Ret.gn (f1 := (113, [some (qm_r 0 12 a0), some (qm_i xd1), some (qm_i x2), some (qm_i x3), some (qm_i x4), some (qm_i x5), some (qm_i x6), some (qm_i x7), some (qm_i xs0), d9], [qm_i (h.1 (a0 + 12) (x7).toNatClampNeg)], h)) hg rfl ?_
    refine qm_Ret.sts 1 (f' := (115, [some (qm_r 0 12 a0), some (qm_i xd1), some (qm_i x2), some (qm_i x3), some (qm_i x4), some (qm_i x5), some (qm_i x6), some (qm_i x7), some (qm_i xs0), d9], [qm_i (9 : Int32), qm_i (h.1 (a0 + 12) (x7).toNatClampNeg)], h)) rfl ?_
    refine qm_Ret.ge (t := 173) (e := 118) rfl (fun hc => ?_) (fun hc => ?_)
    · rw [if_pos hc] at ho
      refine qm_Ret.sts 4 (f' := (125, [some (qm_r 0 12 a0), some (qm_i xd1), some (qm_i x2), some (qm_i x3), some (qm_i x4), some (qm_i x5), some (qm_i x6), some (qm_i x7), some (qm_i xs0), d9], [qm_i x7, qm_r 1 16 (a0 + 12), qm_i x7, qm_r 1 16 (a0 + 12)], h)) rfl ?_
      obtain ⟨hg, ho⟩ := qm_ifn ho
      refine qm_Ret.gn (f1 := (126, [some (qm_r 0 12 a0), some (qm_i xd1), some (qm_i x2), some (qm_i x3), some (qm_i x4), some (qm_i x5), some (qm_i x6), some (qm_i x7), some (qm_i xs0), d9], [qm_i (h.1 (a0 + 12) (x7).toNatClampNeg), qm_i x7, qm_r 1 16 (a0 + 12)], h)) hg rfl ?_
      refine qm_Ret.sts 2 (f' := (128, [some (qm_r 0 12 a0), some (qm_i xd1), some (qm_i x2), some (qm_i x3), some (qm_i x4), some (qm_i x5), some (qm_i x6), some (qm_i x7), some (qm_i xs0), d9], [qm_i ((h.1 (a0 + 12) (x7).toNatClampNeg) + (1 : Int32)), qm_i x7, qm_r 1 16 (a0 + 12)], h)) rfl ?_
      obtain ⟨hg, ho⟩ := qm_ifn ho
      refine qm_Ret.gn (f1 := (129, [some (qm_r 0 12 a0), some (qm_i xd1), some (qm_i x2), some (qm_i x3), some (qm_i x4), some (qm_i x5), some (qm_i x6), some (qm_i x7), some (qm_i xs0), d9], [], (qm_seti h (a0 + 12) (x7).toNatClampNeg ((h.1 (a0 + 12) (x7).toNatClampNeg) + (1 : Int32))))) hg rfl ?_
      refine qm_Ret.lets (F := fun h1 => (129, [some (qm_r 0 12 a0), some (qm_i xd1), some (qm_i x2), some (qm_i x3), some (qm_i x4), some (qm_i x5), some (qm_i x6), some (qm_i x7), some (qm_i xs0), d9], [], h1)) (G := qm_Gi) ho (fun h1 ho => ?_)
      refine qm_Ret.sts 3 (f' := (132, [some (qm_r 0 12 a0), some (qm_i xd1), some (qm_i x2), some (qm_i x3), some (qm_i x4), some (qm_i x5), some (qm_i x6), some (qm_i x7), some (qm_i xs0), d9], [qm_i x3, qm_i x2, qm_r 0 12 a0], h1)) rfl ?_
      obtain ⟨r3, h2, hr, ho⟩ := qm_b2e ho
      refine qm_Ret.call (X := wX12_holdOf [qm_r 0 12 a0, qm_i x2, qm_i x3] h1) (o1 := (some (qm_i r3), h2)) (qm_mp (G := qm_Gi) hr) rfl ?_
      show qm_Ret _ (135, [some (qm_r 0 12 a0), some (qm_i xd1), some (qm_i x2), some (qm_i x3), some (qm_i x4), some (qm_i x5), some (qm_i x6), some (qm_i x7), some (qm_i xs0), d9], [qm_i r3], h2) _
      refine qm_Ret.sts 5 (f' := (144, [some (qm_r 0 12 a0), some (qm_i xd1), some (qm_i x2), some (qm_i x3), some (qm_i x4), some (qm_i x5), some (qm_i x6), some (qm_i x7), some (qm_i xs0), some (qm_i r3)], [qm_i x7, qm_r 1 16 (a0 + 12), qm_i x7, qm_r 1 16 (a0 + 12)], h2)) rfl ?_
      obtain ⟨hg, ho⟩ := qm_ifn ho
      refine qm_Ret.gn (f1 := (145, [some (qm_r 0 12 a0), some (qm_i xd1), some (qm_i x2), some (qm_i x3), some (qm_i x4), some (qm_i x5), some (qm_i x6), some (qm_i x7), some (qm_i xs0), some (qm_i r3)], [qm_i (h2.1 (a0 + 12) (x7).toNatClampNeg), qm_i x7, qm_r 1 16 (a0 + 12)], h2)) hg rfl ?_
      refine qm_Ret.sts 2 (f' := (147, [some (qm_r 0 12 a0), some (qm_i xd1), some (qm_i x2), some (qm_i x3), some (qm_i x4), some (qm_i x5), some (qm_i x6), some (qm_i x7), some (qm_i xs0), some (qm_i r3)], [qm_i ((h2.1 (a0 + 12) (x7).toNatClampNeg) - (1 : Int32)), qm_i x7, qm_r 1 16 (a0 + 12)], h2)) rfl ?_
      obtain ⟨hg, ho⟩ := qm_ifn ho
      refine qm_Ret.gn (f1 := (148, [some (qm_r 0 12 a0), some (qm_i xd1), some (qm_i x2), some (qm_i x3), some (qm_i x4), some (qm_i x5), some (qm_i x6), some (qm_i x7), some (qm_i xs0), some (qm_i r3)], [], (qm_seti h2 (a0 + 12) (x7).toNatClampNeg ((h2.1 (a0 + 12) (x7).toNatClampNeg) - (1 : Int32))))) hg rfl ?_
      refine qm_Ret.lets (F := fun h4 => (148, [some (qm_r 0 12 a0), some (qm_i xd1), some (qm_i x2), some (qm_i x3), some (qm_i x4), some (qm_i x5), some (qm_i x6), some (qm_i x7), some (qm_i xs0), some (qm_i r3)], [], h4)) (G := qm_Gi) ho (fun h4 ho => ?_)
      refine qm_Ret.sts 2 (f' := (152, [some (qm_r 0 12 a0), some (qm_i xd1), some (qm_i x2), some (qm_i x3), some (qm_i x4), some (qm_i x5), some (qm_i x6), some (qm_i x7), some (qm_i xs0), some (qm_i r3)], [qm_i x6, qm_i r3], h4)) rfl ?_
      refine qm_Ret.le (t := 160) (e := 155) rfl (fun hc => ?_) (fun hc => ?_)
      · rw [if_pos hc] at ho
        refine qm_Ret.sts 2 (f' := (162, [some (qm_r 0 12 a0), some (qm_i xd1), some (qm_i x2), some (qm_i x3), some (qm_i x4), some (qm_i x5), some (qm_i x6), some (qm_i x7), some (qm_i xs0), some (qm_i r3)], [qm_i x7], h4)) rfl ?_
        exact rX12_stout_162 H51 ho
      · rw [if_neg hc] at ho
        refine qm_Ret.sts 1 (f' := (162, [some (qm_r 0 12 a0), some (qm_i xd1), some (qm_i x2), some (qm_i x3), some (qm_i x4), some (qm_i x5), some (qm_i x6), some (qm_i x7), some (qm_i xs0), some (qm_i r3)], [qm_i x5], h4)) rfl ?_
        exact rX12_stout_162 H51 ho
    · rw [if_neg hc] at ho
      refine qm_Ret.sts 2 (f' := (51, [some (qm_r 0 12 a0), some (qm_i xd1), some (qm_i x2), some (qm_i x3), some (qm_i x4), some (qm_i x5), some (qm_i x6), some (qm_i (x7 + (1 : Int32))), some (qm_i xs0), d9], [], h)) rfl ?_
      exact H51 ho
set_option maxRecDepth 20000 in
set_option maxHeartbeats 2000000 in
theorem rX12_stout_51   : ∀ {fuel : Nat} {a0 : Nat} {x2 : Int32} {x3 : Int32} {x4 : Int32} {x5 : Int32} {x6 : Int32} {x7 : Int32} {xd1 : Int32} {d8 : Option qm_V} {d9 : Option qm_V} {h : qm_H} {r : Int32 × qm_H}, qX12_stout_51  fuel a0 x2 x3 x4 x5 x6 x7 h = some r → qm_Ret mX12_stout (51, [some (qm_r 0 12 a0), some (qm_i xd1), some (qm_i x2), some (qm_i x3), some (qm_i x4), some (qm_i x5), some (qm_i x6), some (qm_i x7), d8, d9], [], h) (qm_Gi r) := by
  intro fuel
  induction fuel with
  | zero => intros; rename_i ho; cases ho
  | succ n ih =>
    intro a0 x2 x3 x4 x5 x6 x7 xd1 d8 d9 h r ho
    unfold qX12_stout_51 at ho
    refine qm_Ret.sts 2 (f' := (55, [some (qm_r 0 12 a0), some (qm_i xd1), some (qm_i x2), some (qm_i x3), some (qm_i x4), some (qm_i x5), some (qm_i x6), some (qm_i x7), d8, d9], [qm_i (16 : Int32), qm_i x7], h)) rfl ?_
    refine qm_Ret.ge (t := 179) (e := 58) rfl (fun hc => ?_) (fun hc => ?_)
    · rw [if_pos hc] at ho
      refine qm_Ret.sts 2 (f' := (62, [some (qm_r 0 12 a0), some (qm_i xd1), some (qm_i x2), some (qm_i x3), some (qm_i x4), some (qm_i x5), some (qm_i x6), some (qm_i x7), d8, d9], [qm_i (8 : Int32), qm_i x7], h)) rfl ?_
      refine qm_Ret.ge (t := 82) (e := 65) rfl (fun hc => ?_) (fun hc => ?_)
      · rw [if_pos hc] at ho
        refine qm_Ret.sts 3 (f' := (71, [some (qm_r 0 12 a0), some (qm_i xd1), some (qm_i x2), some (qm_i x3), some (qm_i x4), some (qm_i x5), some (qm_i x6), some (qm_i x7), d8, d9], [qm_i (h.1 a0 26), qm_i x7], h)) rfl ?_
        refine qm_Ret.ge (t := 78) (e := 74) rfl (fun hc => ?_) (fun hc => ?_)
        · rw [if_pos hc] at ho
          refine qm_Ret.sts 2 (f' := (99, [some (qm_r 0 12 a0), some (qm_i xd1), some (qm_i x2), some (qm_i x3), some (qm_i x4), some (qm_i x5), some (qm_i x6), some (qm_i x7), d8, d9], [qm_i (1 : Int32)], h)) rfl ?_
          exact rX12_stout_99 (ih) ho
        · rw [if_neg hc] at ho
          refine qm_Ret.sts 2 (f' := (99, [some (qm_r 0 12 a0), some (qm_i xd1), some (qm_i x2), some (qm_i x3), some (qm_i x4), some (qm_i x5), some (qm_i x6), some (qm_i x7), d8, d9], [qm_i (0 : Int32)], h)) rfl ?_
          exact rX12_stout_99 (ih) ho
      · rw [if_neg hc] at ho
        refine qm_Ret.sts 5 (f' := (91, [some (qm_r 0 12 a0), some (qm_i xd1), some (qm_i x2), some (qm_i x3), some (qm_i x4), some (qm_i x5), some (qm_i x6), some (qm_i x7), d8, d9], [qm_i (h.1 a0 25), qm_i (x7 - (8 : Int32))], h)) rfl ?_
        refine qm_Ret.ge (t := 98) (e := 94) rfl (fun hc => ?_) (fun hc => ?_)
        · rw [if_pos hc] at ho
          refine qm_Ret.sts 2 (f' := (99, [some (qm_r 0 12 a0), some (qm_i xd1), some (qm_i x2), some (qm_i x3), some (qm_i x4), some (qm_i x5), some (qm_i x6), some (qm_i x7), d8, d9], [qm_i (1 : Int32)], h)) rfl ?_
          exact rX12_stout_99 (ih) ho
        · rw [if_neg hc] at ho
          refine qm_Ret.sts 1 (f' := (99, [some (qm_r 0 12 a0), some (qm_i xd1), some (qm_i x2), some (qm_i x3), some (qm_i x4), some (qm_i x5), some (qm_i x6), some (qm_i x7), d8, d9], [qm_i (0 : Int32)], h)) rfl ?_
          exact rX12_stout_99 (ih) ho
    · rw [if_neg hc] at ho
      refine qm_Ret.sts 1 (f' := (181, [some (qm_r 0 12 a0), some (qm_i xd1), some (qm_i x2), some (qm_i x3), some (qm_i x4), some (qm_i x5), some (qm_i x6), some (qm_i x7), d8, d9], [qm_i x4], h)) rfl ?_
      refine qm_Ret.eq (t := 189) (e := 184) rfl (fun hc => ?_) (fun hc => ?_)
      · rw [if_pos hc] at ho
        cases ho
        exact qm_Ret.ret 2 rfl
      · rw [if_neg hc] at ho
        cases ho
        exact qm_Ret.ret 3 rfl
set_option maxRecDepth 20000 in
set_option maxHeartbeats 2000000 in
theorem rX12_stout_0   {a0 : Nat} {x1 : Int32} {x2 : Int32} {x3 : Int32} {x4 : Int32} {h : qm_H} {r : Int32 × qm_H} (ho : qX12_stout  a0 x1 x2 x3 x4 h = some r) : qm_Ret mX12_stout (0, [some (qm_r 0 12 a0), some (qm_i x1), some (qm_i x2), some (qm_i x3), some (qm_i x4), none, none, none, none, none], [], h) (qm_Gi r) := by
  unfold qX12_stout at ho
  refine qm_Ret.sts 3 (f' := (5, [some (qm_r 0 12 a0), some (qm_i x1), some (qm_i x2), some (qm_i x3), some (qm_i x4), none, none, none, none, none], [], (qm_seti h a0 0 (0 : Int32)))) rfl ?_
  refine qm_Ret.lets (F := fun h1 => (5, [some (qm_r 0 12 a0), some (qm_i x1), some (qm_i x2), some (qm_i x3), some (qm_i x4), none, none, none, none, none], [], h1)) (G := qm_Gi) ho (fun h1 ho => ?_)
  refine qm_Ret.sts 2 (f' := (7, [some (qm_r 0 12 a0), some (qm_i x1), some (qm_i x2), some (qm_i x3), some (qm_i x4), none, none, none, none, none], [qm_i x3, qm_i x2], h1)) rfl ?_
  obtain ⟨r3, h2, hr, ho⟩ := qm_b2e ho
  refine qm_Ret.call (X := wX12_isSize [qm_i x2, qm_i x3] h1) (o1 := (some (qm_i r3), h2)) (qm_mp (G := qm_Gi) hr) rfl ?_
  show qm_Ret _ (10, [some (qm_r 0 12 a0), some (qm_i x1), some (qm_i x2), some (qm_i x3), some (qm_i x4), none, none, none, none, none], [qm_i r3], h2) _
  refine qm_Ret.eq (t := 40) (e := 13) rfl (fun hc => ?_) (fun hc => ?_)
  · rw [if_pos hc] at ho
    cases ho
    exact qm_Ret.ret 2 rfl
  · rw [if_neg hc] at ho
    refine qm_Ret.sts 2 (f' := (15, [some (qm_r 0 12 a0), some (qm_i x1), some (qm_i x2), some (qm_i x3), some (qm_i x4), none, none, none, none, none], [qm_i x1, qm_r 0 12 a0], h2)) rfl ?_
    obtain ⟨r5, h4, hr, ho⟩ := qm_b2e ho
    refine qm_Ret.call (X := wX12_hand [qm_r 0 12 a0, qm_i x1] h2) (o1 := (some (qm_i r5), h4)) (qm_mp (G := qm_Gi) hr) rfl ?_
    show qm_Ret _ (18, [some (qm_r 0 12 a0), some (qm_i x1), some (qm_i x2), some (qm_i x3), some (qm_i x4), none, none, none, none, none], [qm_i r5], h4) _
    refine qm_Ret.eq (t := 40) (e := 21) rfl (fun hc => ?_) (fun hc => ?_)
    · rw [if_pos hc] at ho
      cases ho
      exact qm_Ret.ret 2 rfl
    · rw [if_neg hc] at ho
      refine qm_Ret.sts 3 (f' := (24, [some (qm_r 0 12 a0), some (qm_i x1), some (qm_i x2), some (qm_i x3), some (qm_i x4), none, none, none, none, none], [qm_i x3, qm_i x2, qm_r 0 12 a0], h4)) rfl ?_
      obtain ⟨r7, h6, hr, ho⟩ := qm_b2e ho
      refine qm_Ret.call (X := wX12_isWithin [qm_r 0 12 a0, qm_i x2, qm_i x3] h4) (o1 := (some (qm_i r7), h6)) (qm_mp (G := qm_Gi) hr) rfl ?_
      show qm_Ret _ (27, [some (qm_r 0 12 a0), some (qm_i x1), some (qm_i x2), some (qm_i x3), some (qm_i x4), none, none, none, none, none], [qm_i r7], h6) _
      refine qm_Ret.eq (t := 40) (e := 30) rfl (fun hc => ?_) (fun hc => ?_)
      · rw [if_pos hc] at ho
        cases ho
        exact qm_Ret.ret 2 rfl
      · rw [if_neg hc] at ho
        refine qm_Ret.sts 3 (f' := (33, [some (qm_r 0 12 a0), some (qm_i x1), some (qm_i x2), some (qm_i x3), some (qm_i x4), none, none, none, none, none], [qm_i x3, qm_i x2, qm_r 0 12 a0], h6)) rfl ?_
        obtain ⟨r9, h8, hr, ho⟩ := qm_b2e ho
        refine qm_Ret.call (X := wX12_slipsBy [qm_r 0 12 a0, qm_i x2, qm_i x3] h6) (o1 := (some (qm_i r9), h8)) (qm_mp (G := qm_Gi) hr) rfl ?_
        show qm_Ret _ (36, [some (qm_r 0 12 a0), some (qm_i x1), some (qm_i x2), some (qm_i x3), some (qm_i x4), none, none, none, none, none], [qm_i r9], h8) _
        refine qm_Ret.sts 1 (f' := (37, [some (qm_r 0 12 a0), some (qm_i x1), some (qm_i x2), some (qm_i x3), some (qm_i x4), none, none, none, none, none], [qm_i (-1 : Int32), qm_i r9], h8)) rfl ?_
        refine qm_Ret.eq (t := 42) (e := 40) rfl (fun hc => ?_) (fun hc => ?_)
        · rw [if_pos hc] at ho
          refine qm_Ret.sts 6 (f' := (51, [some (qm_r 0 12 a0), some (qm_i x1), some (qm_i x2), some (qm_i x3), some (qm_i x4), some (qm_i (-1 : Int32)), some (qm_i (-1 : Int32)), some (qm_i (0 : Int32)), none, none], [], h8)) rfl ?_
          exact rX12_stout_51 ho
        · rw [if_neg hc] at ho
          cases ho
          exact qm_Ret.ret 2 rfl
theorem cX12_stout_ok : ∀ q ∈ ([(161, 2, 2, wX12_greater), (508, 0, 3, wX12_holdOf), (310, 2, 2, wX12_isSize), (301, 0, 2, wX12_hand), (316, 0, 3, wX12_isWithin), (313, 0, 3, wX12_slipsBy)] : List (Nat × Nat × Nat × qm_C)), qm_CallOK RX12 5 120 q.2.1 q.1 q.2.2.1 q.2.2.2 := List.forall_mem_cons.mpr ⟨Or.inl ⟨yX12_greater, cX12_greater, 2, (some .int), 0, 0, _, sX12_greater, ⟨by decide, by decide⟩, ⟨jX12_greater, kRX12_161, uRX12⟩, ⟨by decide, by decide, rfl⟩, Or.inr (Or.inl ⟨rfl, rfl, iX12_greater⟩)⟩, List.forall_mem_cons.mpr ⟨Or.inl ⟨yX12_holdOf, cX12_holdOf, 3, (some .int), 4, 98, _, sX12_holdOf, ⟨by decide, by decide⟩, ⟨jX12_holdOf, kRX12_508, uRX12⟩, ⟨by decide, by decide, rfl⟩, Or.inl ⟨rfl, rfl, iX12_holdOf, recvX12_holdOf⟩⟩, List.forall_mem_cons.mpr ⟨Or.inl ⟨yX12_isSize, cX12_isSize, 2, (some .boolean), 1, 22, _, sX12_isSize, ⟨by decide, by decide⟩, ⟨jX12_isSize, kRX12_310, uRX12⟩, ⟨by decide, by decide, rfl⟩, Or.inr (Or.inl ⟨rfl, rfl, iX12_isSize⟩)⟩, List.forall_mem_cons.mpr ⟨Or.inl ⟨yX12_hand, cX12_hand, 3, (some .boolean), 2, 44, _, sX12_hand, ⟨by decide, by decide⟩, ⟨jX12_hand, kRX12_301, uRX12⟩, ⟨by decide, by decide, rfl⟩, Or.inl ⟨rfl, rfl, iX12_hand, recvX12_hand⟩⟩, List.forall_mem_cons.mpr ⟨Or.inl ⟨yX12_isWithin, cX12_isWithin, 3, (some .boolean), 0, 0, _, sX12_isWithin, ⟨by decide, by decide⟩, ⟨jX12_isWithin, kRX12_316, uRX12⟩, ⟨by decide, by decide, rfl⟩, Or.inl ⟨rfl, rfl, iX12_isWithin, recvX12_isWithin⟩⟩, List.forall_mem_cons.mpr ⟨Or.inl ⟨yX12_slipsBy, cX12_slipsBy, 4, (some .int), 3, 72, _, sX12_slipsBy, ⟨by decide, by decide⟩, ⟨jX12_slipsBy, kRX12_313, uRX12⟩, ⟨by decide, by decide, rfl⟩, Or.inl ⟨rfl, rfl, iX12_slipsBy, recvX12_slipsBy⟩⟩, fun _ h => absurd h List.not_mem_nil⟩⟩⟩⟩⟩⟩
theorem sX12_stout : qm_Snd yX12_stout cX12_stout 10 (some .int) 5 120 wX12_stout := qm_met (fld := fun k => qm_lk k pfRX12) (con := fun k => qm_lk k pcRX12) (call := fun k => qm_lk k [(161, 2, 2, wX12_greater), (508, 0, 3, wX12_holdOf), (310, 2, 2, wX12_isSize), (301, 0, 2, wX12_hand), (316, 0, 3, wX12_isWithin), (313, 0, 3, wX12_slipsBy)]) (tab := qm_tab aX12_stout) (plainFor_of_name (by decide)) (qm_fld_ok pfRX12_ok) (qm_con_ok pcRX12_ok) (fun idx kd n f hc => cX12_stout_ok (idx, kd, n, f) (qm_lk_mem hc)) (qm_tab_ok aX12_stout_ok) (fun vs h o hw => by
  unfold wX12_stout at hw
  split at hw
  · obtain ⟨r, hr, rfl⟩ := Option.map_eq_some_iff.mp hw
    exact ⟨Nat.le_of_ble_eq_true rfl, rX12_stout_0 (hr)⟩
  · cases hw)
theorem recvX12_stout : ∀ vs h o, wX12_stout vs h = some o → ∃ ci a rest, vs = qm_r 0 ci a :: rest ∧ qm_R ci = yX12_stout.cls := by
  intro vs h o hw
  unfold wX12_stout at hw
  split at hw
  · exact ⟨_, _, _, rfl, rfl⟩
  · cases hw
