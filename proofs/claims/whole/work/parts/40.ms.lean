-- RX3 readCluesLine()V
theorem jX3_readCluesLine : Jvm.Cond.code yX3_readCluesLine cX3_readCluesLine 5 none ∈ qm_all := List.mem_filter.mpr ⟨by decide +kernel, rfl⟩
theorem iX3_readCluesLine : Jvm.Cond.instanceMethod yX3_readCluesLine ∈ qm_all ∧ Jvm.Cond.selects yX3_readCluesLine.cls yX3_readCluesLine yX3_readCluesLine ∈ qm_all := ⟨List.mem_filter.mpr ⟨by decide +kernel, rfl⟩, List.mem_filter.mpr ⟨by decide +kernel, rfl⟩⟩
def wX3_readCluesLine : qm_C := fun vs h => match vs with
  | [.inr (.inr (some (0, 3, p0)))] => (qX3_readCluesLine p0 h).map qm_Gv
  | _ => none
def aX3_readCluesLine : List (Option (Instr × Nat)) := [some (.aload_n 0, 1), some (.ldc 106, 2), none, some (.invokevirtual 108, 3), none, none, some (.ifCond .eq 32, 3), none, none, some (.aload_n 0, 1), some (.getfield 35, 3), none, none, some (.aload_n 0, 1), some (.iconst 2, 1), some (.bipush 8, 2), none, some (.invokevirtual 112, 3), none, none, some (.putfield 104, 3), none, none, some (.aload_n 0, 1), some (.getfield 35, 3), none, none, some (.aload_n 0, 1), some (.iconst 2, 1), some (.bipush 8, 2), none, some (.invokevirtual 112, 3), none, none, some (.putfield 105, 3), none, none, some (.return_, 1), some (.aload_n 0, 1), some (.getfield 35, 3), none, none, some (.getfield 193, 3), none, none, some (.bipush 10, 2), none, some (.if_icmp .lt 15, 3), none, none, some (.aload_n 0, 1), some (.iconst 3, 1), some (.aload_n 0, 1), some (.getfield 44, 3), none, none, some (.getfield 151, 3), none, none, some (.invokevirtual 154, 3), none, none, some (.aload_n 0, 1), some (.invokevirtual 194, 3), none, none, some (.istore_n 1, 1), some (.iload_n 1, 1), some (.ifCond .eq 8, 3), none, none, some (.iload_n 1, 1), some (.iconst 1, 1), some (.if_icmp .ne 7, 3), none, none, some (.iconst 1, 1), some (.goto 4, 3), none, none, some (.iconst 0, 1), some (.istore_n 2, 1), some (.iload_n 2, 1), some (.ifCond .eq 10, 3), none, none, some (.aload_n 0, 1), some (.invokevirtual 118, 3), none, none, some (.goto 10, 3), none, none, some (.aload_n 0, 1), some (.iconst 1, 1), some (.bipush 8, 2), none, some (.invokevirtual 112, 3), none, none, some (.istore_n 3, 1), some (.iload_n 2, 1), some (.ifCond .eq 10, 3), none, none, some (.aload_n 0, 1), some (.invokevirtual 122, 3), none, none, some (.goto 10, 3), none, none, some (.aload_n 0, 1), some (.iconst 1, 1), some (.bipush 8, 2), none, some (.invokevirtual 112, 3), none, none, some (.istore 4, 2), none, some (.aload_n 0, 1), some (.getfield 35, 3), none, none, some (.iload_n 1, 1), some (.iload_n 3, 1), some (.iload 4, 2), none, some (.invokevirtual 197, 3), none, none, some (.return_, 1)]
theorem aX3_readCluesLine_ok : qm_tabok cX3_readCluesLine aX3_readCluesLine = true := by decide +kernel
def mX3_readCluesLine : qm_M := (none, (fun k => qm_lk k pfRX3), (fun k => qm_lk k pcRX3), (fun k => qm_lk k [(197, 0, 4, wX1_add), (112, 0, 3, wX3_readNumber), (122, 0, 1, wX3_readRow), (118, 0, 1, wX3_readColumn), (194, 0, 1, wX3_readClueWord), (108, 0, 2, wX3_readWord), (154, 0, 3, wX3_note)]), qm_tab aX3_readCluesLine)
set_option maxRecDepth 20000 in
set_option maxHeartbeats 2000000 in
theorem rX3_readCluesLine_119   {a0 : Nat} {x1 : Int32} {x3 : Int32} {xs0 : Int32} {xd2 : Int32} {h : qm_H} {r : qm_H} (ho : qX3_readCluesLine_119  a0 x1 x3 xs0 h = some r) : qm_Ret mX3_readCluesLine (119, [some (qm_r 0 3 a0), some (qm_i x1), some (qm_i xd2), some (qm_i x3), none], [qm_i xs0], h) (qm_Gv r) := by
  unfold qX3_readCluesLine_119 at ho
  refine qm_Ret.sts 6 (f' := (129, [some (qm_r 0 3 a0), some (qm_i x1), some (qm_i xd2), some (qm_i x3), some (qm_i xs0)], [qm_i xs0, qm_i x3, qm_i x1, qm_r 0 1 (a0 + 10)], h)) rfl ?_
  obtain ⟨h1, hr, ho⟩ := qm_bd ho
  refine qm_Ret.call (X := wX1_add [qm_r 0 1 (a0 + 10), qm_i x1, qm_i x3, qm_i xs0] h) (o1 := (none, h1)) (qm_mp (G := qm_Gv) hr) rfl ?_
  show qm_Ret _ (132, [some (qm_r 0 3 a0), some (qm_i x1), some (qm_i xd2), some (qm_i x3), some (qm_i xs0)], [], h1) _
  cases ho
  exact qm_Ret.ret 1 rfl
set_option maxRecDepth 20000 in
set_option maxHeartbeats 2000000 in
theorem rX3_readCluesLine_100   {a0 : Nat} {x1 : Int32} {x2 : Int32} {xs0 : Int32} {h : qm_H} {r : qm_H} (ho : qX3_readCluesLine_100  a0 x1 x2 xs0 h = some r) : qm_Ret mX3_readCluesLine (100, [some (qm_r 0 3 a0), some (qm_i x1), some (qm_i x2), none, none], [qm_i xs0], h) (qm_Gv r) := by
  unfold qX3_readCluesLine_100 at ho
  refine qm_Ret.sts 2 (f' := (102, [some (qm_r 0 3 a0), some (qm_i x1), some (qm_i x2), some (qm_i xs0), none], [qm_i x2], h)) rfl ?_
  refine qm_Ret.eq (t := 112) (e := 105) rfl (fun hc => ?_) (fun hc => ?_)
  · rw [if_pos hc] at ho
    refine qm_Ret.sts 3 (f' := (116, [some (qm_r 0 3 a0), some (qm_i x1), some (qm_i x2), some (qm_i xs0), none], [qm_i (8 : Int32), qm_i (1 : Int32), qm_r 0 3 a0], h)) rfl ?_
    obtain ⟨r2, h1, hr, ho⟩ := qm_b2e ho
    refine qm_Ret.call (X := wX3_readNumber [qm_r 0 3 a0, qm_i (1 : Int32), qm_i (8 : Int32)] h) (o1 := (some (qm_i r2), h1)) (qm_mp (G := qm_Gi) hr) rfl ?_
    show qm_Ret _ (119, [some (qm_r 0 3 a0), some (qm_i x1), some (qm_i x2), some (qm_i xs0), none], [qm_i r2], h1) _
    exact rX3_readCluesLine_119 ho
  · rw [if_neg hc] at ho
    refine qm_Ret.sts 1 (f' := (106, [some (qm_r 0 3 a0), some (qm_i x1), some (qm_i x2), some (qm_i xs0), none], [qm_r 0 3 a0], h)) rfl ?_
    obtain ⟨r4, h3, hr, ho⟩ := qm_b2e ho
    refine qm_Ret.call (X := wX3_readRow [qm_r 0 3 a0] h) (o1 := (some (qm_i r4), h3)) (qm_mp (G := qm_Gi) hr) rfl ?_
    show qm_Ret _ (109, [some (qm_r 0 3 a0), some (qm_i x1), some (qm_i x2), some (qm_i xs0), none], [qm_i r4], h3) _
    refine qm_Ret.sts 1 (f' := (119, [some (qm_r 0 3 a0), some (qm_i x1), some (qm_i x2), some (qm_i xs0), none], [qm_i r4], h3)) rfl ?_
    exact rX3_readCluesLine_119 ho
set_option maxRecDepth 20000 in
set_option maxHeartbeats 2000000 in
theorem rX3_readCluesLine_81   {a0 : Nat} {x1 : Int32} {xs0 : Int32} {h : qm_H} {r : qm_H} (ho : qX3_readCluesLine_81  a0 x1 xs0 h = some r) : qm_Ret mX3_readCluesLine (81, [some (qm_r 0 3 a0), some (qm_i x1), none, none, none], [qm_i xs0], h) (qm_Gv r) := by
  unfold qX3_readCluesLine_81 at ho
  refine qm_Ret.sts 2 (f' := (83, [some (qm_r 0 3 a0), some (qm_i x1), some (qm_i xs0), none, none], [qm_i xs0], h)) rfl ?_
  refine qm_Ret.eq (t := 93) (e := 86) rfl (fun hc => ?_) (fun hc => ?_)
  · rw [if_pos hc] at ho
    refine qm_Ret.sts 3 (f' := (97, [some (qm_r 0 3 a0), some (qm_i x1), some (qm_i xs0), none, none], [qm_i (8 : Int32), qm_i (1 : Int32), qm_r 0 3 a0], h)) rfl ?_
    obtain ⟨r2, h1, hr, ho⟩ := qm_b2e ho
    refine qm_Ret.call (X := wX3_readNumber [qm_r 0 3 a0, qm_i (1 : Int32), qm_i (8 : Int32)] h) (o1 := (some (qm_i r2), h1)) (qm_mp (G := qm_Gi) hr) rfl ?_
    show qm_Ret _ (100, [some (qm_r 0 3 a0), some (qm_i x1), some (qm_i xs0), none, none], [qm_i r2], h1) _
    exact rX3_readCluesLine_100 ho
  · rw [if_neg hc] at ho
    refine qm_Ret.sts 1 (f' := (87, [some (qm_r 0 3 a0), some (qm_i x1), some (qm_i xs0), none, none], [qm_r 0 3 a0], h)) rfl ?_
    obtain ⟨r4, h3, hr, ho⟩ := qm_b2e ho
    refine qm_Ret.call (X := wX3_readColumn [qm_r 0 3 a0] h) (o1 := (some (qm_i r4), h3)) (qm_mp (G := qm_Gi) hr) rfl ?_
    show qm_Ret _ (90, [some (qm_r 0 3 a0), some (qm_i x1), some (qm_i xs0), none, none], [qm_i r4], h3) _
    refine qm_Ret.sts 1 (f' := (100, [some (qm_r 0 3 a0), some (qm_i x1), some (qm_i xs0), none, none], [qm_i r4], h3)) rfl ?_
    exact rX3_readCluesLine_100 ho
set_option maxRecDepth 20000 in
set_option maxHeartbeats 2000000 in
theorem rX3_readCluesLine_62   {a0 : Nat} {h : qm_H} {r : qm_H} (ho : qX3_readCluesLine_62  a0 h = some r) : qm_Ret mX3_readCluesLine (62, [some (qm_r 0 3 a0), none, none, none, none], [], h) (qm_Gv r) := by
  unfold qX3_readCluesLine_62 at ho
  refine qm_Ret.sts 1 (f' := (63, [some (qm_r 0 3 a0), none, none, none, none], [qm_r 0 3 a0], h)) rfl ?_
  obtain ⟨r2, h1, hr, ho⟩ := qm_b2e ho
  refine qm_Ret.call (X := wX3_readClueWord [qm_r 0 3 a0] h) (o1 := (some (qm_i r2), h1)) (qm_mp (G := qm_Gi) hr) rfl ?_
  show qm_Ret _ (66, [some (qm_r 0 3 a0), none, none, none, none], [qm_i r2], h1) _
  refine qm_Ret.sts 2 (f' := (68, [some (qm_r 0 3 a0), some (qm_i r2), none, none, none], [qm_i r2], h1)) rfl ?_
  refine qm_Ret.eq (t := 76) (e := 71) rfl (fun hc => ?_) (fun hc => ?_)
  · rw [if_pos hc] at ho
    refine qm_Ret.sts 2 (f' := (81, [some (qm_r 0 3 a0), some (qm_i r2), none, none, none], [qm_i (1 : Int32)], h1)) rfl ?_
    exact rX3_readCluesLine_81 ho
  · rw [if_neg hc] at ho
    refine qm_Ret.sts 2 (f' := (73, [some (qm_r 0 3 a0), some (qm_i r2), none, none, none], [qm_i (1 : Int32), qm_i r2], h1)) rfl ?_
    refine qm_Ret.ne (t := 80) (e := 76) rfl (fun hc => ?_) (fun hc => ?_)
    · rw [if_pos hc] at ho
      refine qm_Ret.sts 2 (f' := (81, [some (qm_r 0 3 a0), some (qm_i r2), none, none, none], [qm_i (1 : Int32)], h1)) rfl ?_
      exact rX3_readCluesLine_81 ho
    · rw [if_neg hc] at ho
      refine qm_Ret.sts 1 (f' := (81, [some (qm_r 0 3 a0), some (qm_i r2), none, none, none], [qm_i (0 : Int32)], h1)) rfl ?_
      exact rX3_readCluesLine_81 ho
set_option maxRecDepth 20000 in
set_option maxHeartbeats 2000000 in
theorem rX3_readCluesLine_0   {a0 : Nat} {h : qm_H} {r : qm_H} (ho : qX3_readCluesLine  a0 h = some r) : qm_Ret mX3_readCluesLine (0, [some (qm_r 0 3 a0), none, none, none, none], [], h) (qm_Gv r) := by
  unfold qX3_readCluesLine at ho
  refine qm_Ret.sts 2 (f' := (3, [some (qm_r 0 3 a0), none, none, none, none], [qm_r 10 0 0, qm_r 0 3 a0], h)) rfl ?_
  obtain ⟨r2, h1, hr, ho⟩ := qm_b2e ho
  refine qm_Ret.call (X := wX3_readWord [qm_r 0 3 a0, qm_r 10 0 0] h) (o1 := (some (qm_i r2), h1)) (qm_mp (G := qm_Gi) hr) rfl ?_
  show qm_Ret _ (6, [some (qm_r 0 3 a0), none, none, none, none], [qm_i r2], h1) _
  refine qm_Ret.eq (t := 38) (e := 9) rfl (fun hc => ?_) (fun hc => ?_)
  · rw [if_pos hc] at ho
    refine qm_Ret.sts 4 (f' := (47, [some (qm_r 0 3 a0), none, none, none, none], [qm_i (10 : Int32), qm_i (h1.1 (a0 + 10) 3)], h1)) rfl ?_
    refine qm_Ret.lt (t := 62) (e := 50) rfl (fun hc => ?_) (fun hc => ?_)
    · rw [if_pos hc] at ho
      exact rX3_readCluesLine_62 ho
    · rw [if_neg hc] at ho
      refine qm_Ret.sts 5 (f' := (59, [some (qm_r 0 3 a0), none, none, none, none], [qm_i (h1.1 (a0 + 12) 3), qm_i (3 : Int32), qm_r 0 3 a0], h1)) rfl ?_
      obtain ⟨h3, hr, ho⟩ := qm_bd ho
      refine qm_Ret.call (X := wX3_note [qm_r 0 3 a0, qm_i (3 : Int32), qm_i (h1.1 (a0 + 12) 3)] h1) (o1 := (none, h3)) (qm_mp (G := qm_Gv) hr) rfl ?_
      show qm_Ret _ (62, [some (qm_r 0 3 a0), none, none, none, none], [], h3) _
      exact rX3_readCluesLine_62 ho
  · rw [if_neg hc] at ho
    refine qm_Ret.sts 5 (f' := (17, [some (qm_r 0 3 a0), none, none, none, none], [qm_i (8 : Int32), qm_i (2 : Int32), qm_r 0 3 a0, qm_r 0 1 (a0 + 10)], h1)) rfl ?_
    obtain ⟨r5, h4, hr, ho⟩ := qm_b2e ho
    refine qm_Ret.call (X := wX3_readNumber [qm_r 0 3 a0, qm_i (2 : Int32), qm_i (8 : Int32)] h1) (o1 := (some (qm_i r5), h4)) (qm_mp (G := qm_Gi) hr) rfl ?_
    show qm_Ret _ (20, [some (qm_r 0 3 a0), none, none, none, none], [qm_i r5, qm_r 0 1 (a0 + 10)], h4) _
    refine qm_Ret.sts 1 (f' := (23, [some (qm_r 0 3 a0), none, none, none, none], [], (qm_seti h4 (a0 + 10) 1 r5))) rfl ?_
    refine qm_Ret.lets (F := fun h6 => (23, [some (qm_r 0 3 a0), none, none, none, none], [], h6)) (G := qm_Gv) ho (fun h6 ho => ?_)
    refine qm_Ret.sts 5 (f' := (31, [some (qm_r 0 3 a0), none, none, none, none], [qm_i (8 : Int32), qm_i (2 : Int32), qm_r 0 3 a0, qm_r 0 1 (a0 + 10)], h6)) rfl ?_
    obtain ⟨r8, h7, hr, ho⟩ := qm_b2e ho
    refine qm_Ret.call (X := wX3_readNumber [qm_r 0 3 a0, qm_i (2 : Int32), qm_i (8 : Int32)] h6) (o1 := (some (qm_i r8), h7)) (qm_mp (G := qm_Gi) hr) rfl ?_
    show qm_Ret _ (34, [some (qm_r 0 3 a0), none, none, none, none], [qm_i r8, qm_r 0 1 (a0 + 10)], h7) _
    refine qm_Ret.sts 1 (f' := (37, [some (qm_r 0 3 a0), none, none, none, none], [], (qm_seti h7 (a0 + 10) 2 r8))) rfl ?_
    refine qm_Ret.lets (F := fun h9 => (37, [some (qm_r 0 3 a0), none, none, none, none], [], h9)) (G := qm_Gv) ho (fun h9 ho => ?_)
    cases ho
    exact qm_Ret.ret 1 rfl
theorem cX3_readCluesLine_ok : ∀ q ∈ ([(197, 0, 4, wX1_add), (112, 0, 3, wX3_readNumber), (122, 0, 1, wX3_readRow), (118, 0, 1, wX3_readColumn), (194, 0, 1, wX3_readClueWord), (108, 0, 2, wX3_readWord), (154, 0, 3, wX3_note)] : List (Nat × Nat × Nat × qm_C)), qm_CallOK RX3 7 148 q.2.1 q.1 q.2.2.1 q.2.2.2 := List.forall_mem_cons.mpr ⟨Or.inl ⟨yX1_add, cX1_add, 5, none, 0, 0, _, sX1_add, ⟨by decide, by decide⟩, ⟨jX1_add, kRX3_197, uRX1⟩, ⟨by decide, by decide, rfl⟩, Or.inl ⟨rfl, rfl, iX1_add, recvX1_add⟩⟩, List.forall_mem_cons.mpr ⟨Or.inl ⟨yX3_readNumber, cX3_readNumber, 4, (some .int), 2, 43, _, sX3_readNumber, ⟨by decide, by decide⟩, ⟨jX3_readNumber, kRX3_112, uRX3⟩, ⟨by decide, by decide, rfl⟩, Or.inl ⟨rfl, rfl, iX3_readNumber, recvX3_readNumber⟩⟩, List.forall_mem_cons.mpr ⟨Or.inl ⟨yX3_readRow, cX3_readRow, 2, (some .int), 3, 66, _, sX3_readRow, ⟨by decide, by decide⟩, ⟨jX3_readRow, kRX3_122, uRX3⟩, ⟨by decide, by decide, rfl⟩, Or.inl ⟨rfl, rfl, iX3_readRow, recvX3_readRow⟩⟩, List.forall_mem_cons.mpr ⟨Or.inl ⟨yX3_readColumn, cX3_readColumn, 2, (some .int), 3, 66, _, sX3_readColumn, ⟨by decide, by decide⟩, ⟨jX3_readColumn, kRX3_118, uRX3⟩, ⟨by decide, by decide, rfl⟩, Or.inl ⟨rfl, rfl, iX3_readColumn, recvX3_readColumn⟩⟩, List.forall_mem_cons.mpr ⟨Or.inl ⟨yX3_readClueWord, cX3_readClueWord, 1, (some .int), 6, 128, _, sX3_readClueWord, ⟨by decide, by decide⟩, ⟨jX3_readClueWord, kRX3_194, uRX3⟩, ⟨by decide, by decide, rfl⟩, Or.inl ⟨rfl, rfl, iX3_readClueWord, recvX3_readClueWord⟩⟩, List.forall_mem_cons.mpr ⟨Or.inl ⟨yX3_readWord, cX3_readWord, 2, (some .boolean), 5, 107, _, sX3_readWord, ⟨by decide, by decide⟩, ⟨jX3_readWord, kRX3_108, uRX3⟩, ⟨by decide, by decide, rfl⟩, Or.inl ⟨rfl, rfl, iX3_readWord, recvX3_readWord⟩⟩, List.forall_mem_cons.mpr ⟨Or.inl ⟨yX3_note, cX3_note, 3, none, 0, 0, _, sX3_note, ⟨by decide, by decide⟩, ⟨jX3_note, kRX3_154, uRX3⟩, ⟨by decide, by decide, rfl⟩, Or.inl ⟨rfl, rfl, iX3_note, recvX3_note⟩⟩, fun _ h => absurd h List.not_mem_nil⟩⟩⟩⟩⟩⟩⟩
theorem sX3_readCluesLine : qm_Snd yX3_readCluesLine cX3_readCluesLine 5 none 7 148 wX3_readCluesLine := qm_met (fld := fun k => qm_lk k pfRX3) (con := fun k => qm_lk k pcRX3) (call := fun k => qm_lk k [(197, 0, 4, wX1_add), (112, 0, 3, wX3_readNumber), (122, 0, 1, wX3_readRow), (118, 0, 1, wX3_readColumn), (194, 0, 1, wX3_readClueWord), (108, 0, 2, wX3_readWord), (154, 0, 3, wX3_note)]) (tab := qm_tab aX3_readCluesLine) (plainFor_of_name (by decide)) (qm_fld_ok pfRX3_ok) (qm_con_ok pcRX3_ok) (fun idx kd n f hc => cX3_readCluesLine_ok (idx, kd, n, f) (qm_lk_mem hc)) (qm_tab_ok aX3_readCluesLine_ok) (fun vs h o hw => by
  unfold wX3_readCluesLine at hw
  split at hw
  · obtain ⟨r, hr, rfl⟩ := Option.map_eq_some_iff.mp hw
    exact ⟨Nat.le_of_ble_eq_true rfl, rX3_readCluesLine_0 (hr)⟩
  · cases hw)
theorem recvX3_readCluesLine : ∀ vs h o, wX3_readCluesLine vs h = some o → ∃ ci a rest, vs = qm_r 0 ci a :: rest ∧ qm_R ci = yX3_readCluesLine.cls := by
  intro vs h o hw
  unfold wX3_readCluesLine at hw
  split at hw
  · exact ⟨_, _, _, rfl, rfl⟩
  · cases hw
-- RX3 read(II)V
theorem jX3_read : Jvm.Cond.code yX3_read cX3_read 4 none ∈ qm_all := List.mem_filter.mpr ⟨by decide +kernel, rfl⟩
theorem iX3_read : Jvm.Cond.instanceMethod yX3_read ∈ qm_all ∧ Jvm.Cond.selects yX3_read.cls yX3_read yX3_read ∈ qm_all := ⟨List.mem_filter.mpr ⟨by decide +kernel, rfl⟩, List.mem_filter.mpr ⟨by decide +kernel, rfl⟩⟩
def wX3_read : qm_C := fun vs h => match vs with
  | [.inr (.inr (some (0, 3, p0))), .inl p1, .inl p2] => (qX3_read p0 p1 p2 h).map qm_Gv
  | _ => none
def aX3_read : List (Option (Instr × Nat)) := [some (.aload_n 0, 1), some (.iconst 0, 1), some (.putfield 48, 3), none, none, some (.aload_n 0, 1), some (.iconst (-1), 1), some (.putfield 52, 3), none, none, some (.aload_n 0, 1), some (.iconst 0, 1), some (.putfield 55, 3), none, none, some (.aload_n 0, 1), some (.iconst 0, 1), some (.putfield 58, 3), none, none, some (.aload_n 0, 1), some (.getfield 12, 3), none, none, some (.invokevirtual 61, 3), none, none, some (.aload_n 0, 1), some (.getfield 21, 3), none, none, some (.iconst 0, 1), some (.putfield 64, 3), none, none, some (.aload_n 0, 1), some (.getfield 28, 3), none, none, some (.invokevirtual 67, 3), none, none, some (.aload_n 0, 1), some (.getfield 35, 3), none, none, some (.invokevirtual 68, 3), none, none, some (.aload_n 0, 1), some (.getfield 44, 3), none, none, some (.iload_n 2, 1), some (.invokevirtual 69, 3), none, none, some (.iconst 0, 1), some (.istore_n 3, 1), some (.iload_n 3, 1), some (.sipush 600, 3), none, none, some (.if_icmp .ge 84, 3), none, none, some (.aload_n 0, 1), some (.invokevirtual 72, 3), none, none, some (.ifCond .eq 77, 3), none, none, some (.aload_n 0, 1), some (.getfield 44, 3), none, none, some (.getfield 76, 3), none, none, some (.ifCond .eq 67, 3), none, none, some (.iload_n 1, 1), some (.tableswitch 49 0 2 #[28, 35, 42], 28), none, none, none, none, none, none, none, none, none, none, none, none, none, none, none, none, none, none, none, none, none, none, none, none, none, none, none, some (.aload_n 0, 1), some (.invokevirtual 79, 3), none, none, some (.goto 21, 3), none, none, some (.aload_n 0, 1), some (.invokevirtual 82, 3), none, none, some (.goto 14, 3), none, none, some (.aload_n 0, 1), some (.invokevirtual 85, 3), none, none, some (.goto 7, 3), none, none, some (.aload_n 0, 1), some (.invokevirtual 88, 3), none, none, some (.aload_n 0, 1), some (.invokevirtual 91, 3), none, none, some (.iinc 3 1, 3), none, none, some (.goto (-85), 3), none, none, some (.iload_n 1, 1), some (.ifCond .ne 24, 3), none, none, some (.aload_n 0, 1), some (.aload_n 0, 1), some (.getfield 12, 3), none, none, some (.getfield 94, 3), none, none, some (.aload_n 0, 1), some (.getfield 12, 3), none, none, some (.getfield 97, 3), none, none, some (.invokevirtual 100, 3), none, none, some (.goto 26, 3), none, none, some (.iload_n 1, 1), some (.iconst 3, 1), some (.if_icmp .ne 21, 3), none, none, some (.aload_n 0, 1), some (.aload_n 0, 1), some (.getfield 35, 3), none, none, some (.getfield 104, 3), none, none, some (.aload_n 0, 1), some (.getfield 35, 3), none, none, some (.getfield 105, 3), none, none, some (.invokevirtual 100, 3), none, none, some (.return_, 1)]
theorem aX3_read_ok : qm_tabok cX3_read aX3_read = true := by decide +kernel
def mX3_read : qm_M := (none, (fun k => qm_lk k pfRX3), (fun k => qm_lk k pcRX3), (fun k => qm_lk k [(100, 0, 3, wX3_lookForAll), (91, 0, 1, wX3_readStop), (72, 0, 1, wX3_goesOn), (79, 0, 1, wX3_readBasketLine), (82, 0, 1, wX3_readYearLine), (85, 0, 1, wX3_readParishLine), (88, 0, 1, wX3_readCluesLine), (61, 0, 1, wX0_begin), (67, 0, 1, wX2_begin), (68, 0, 1, wX1_begin), (69, 0, 2, wX8_begin)]), qm_tab aX3_read)
set_option maxRecDepth 20000 in
set_option maxHeartbeats 2000000 in
theorem rX3_read_147   {a0 : Nat} {x1 : Int32} {xd2 : Int32} {xd3 : Int32} {h : qm_H} {r : qm_H} (ho : qX3_read_147  a0 x1 h = some r) : qm_Ret mX3_read (147, [some (qm_r 0 3 a0), some (qm_i x1), some (qm_i xd2), some (qm_i xd3)], [], h) (qm_Gv r) := by
  unfold qX3_read_147 at ho
  refine qm_Ret.sts 1 (f' := (148, [some (qm_r 0 3 a0), some (qm_i x1), some (qm_i xd2), some (qm_i xd3)], [qm_i x1], h)) rfl ?_
  refine qm_Ret.ne (t := 172) (e := 151) rfl (fun hc => ?_) (fun hc => ?_)
  · rw [if_pos hc] at ho
    refine qm_Ret.sts 7 (f' := (166, [some (qm_r 0 3 a0), some (qm_i x1), some (qm_i xd2), some (qm_i xd3)], [qm_i (h.1 (a0 + 1) 4), qm_i (h.1 (a0 + 1) 3), qm_r 0 3 a0], h)) rfl ?_
    obtain ⟨h2, hr, ho⟩ := qm_bd ho
    refine qm_Ret.call (X := wX3_lookForAll [qm_r 0 3 a0, qm_i (h.1 (a0 + 1) 3), qm_i (h.1 (a0 + 1) 4)] h) (o1 := (none, h2)) (qm_mp (G := qm_Gv) hr) rfl ?_
    show qm_Ret _ (169, [some (qm_r 0 3 a0), some (qm_i x1), some (qm_i xd2), some (qm_i xd3)], [], h2) _
    cases ho
    exact qm_Ret.ret 2 rfl
  · rw [if_neg hc] at ho
    refine qm_Ret.sts 2 (f' := (174, [some (qm_r 0 3 a0), some (qm_i x1), some (qm_i xd2), some (qm_i xd3)], [qm_i (3 : Int32), qm_i x1], h)) rfl ?_
    refine qm_Ret.ne (t := 195) (e := 177) rfl (fun hc => ?_) (fun hc => ?_)
    · rw [if_pos hc] at ho
      refine qm_Ret.sts 7 (f' := (192, [some (qm_r 0 3 a0), some (qm_i x1), some (qm_i xd2), some (qm_i xd3)], [qm_i (h.1 (a0 + 10) 2), qm_i (h.1 (a0 + 10) 1), qm_r 0 3 a0], h)) rfl ?_
      obtain ⟨h1, hr, ho⟩ := qm_bd ho
      refine qm_Ret.call (X := wX3_lookForAll [qm_r 0 3 a0, qm_i (h.1 (a0 + 10) 1), qm_i (h.1 (a0 + 10) 2)] h) (o1 := (none, h1)) (qm_mp (G := qm_Gv) hr) rfl ?_
      show qm_Ret _ (195, [some (qm_r 0 3 a0), some (qm_i x1), some (qm_i xd2), some (qm_i xd3)], [], h1) _
      cases ho
      exact qm_Ret.ret 1 rfl
    · rw [if_neg hc] at ho
      cases ho
      exact qm_Ret.ret 1 rfl
set_option maxRecDepth 20000 in
set_option maxHeartbeats 2000000 in
theorem rX3_read_137 {K59 : Nat → Int32 → Int32 → qm_H → Option (qm_H)} (H59 : ∀ {a0 : Nat} {x1 : Int32} {x3 : Int32} {xd2 : Int32} {h : qm_H} {r : qm_H}, K59 a0 x1 x3 h = some r → qm_Ret mX3_read (59, [some (qm_r 0 3 a0), some (qm_i x1), some (qm_i xd2), some (qm_i x3)], [], h) (qm_Gv r)) {a0 : Nat} {x1 : Int32} {x3 : Int32} {xd2 : Int32} {h : qm_H} {r : qm_H} (ho : qX3_read_137 K59 a0 x1 x3 h = some r) : qm_Ret mX3_read (137, [some (qm_r 0 3 a0), some (qm_i x1), some (qm_i xd2), some (qm_i x3)], [], h) (qm_Gv r) := by
  unfold qX3_read_137 at ho
  refine qm_Ret.sts 1 (f' := (138, [some (qm_r 0 3 a0), some (qm_i x1), some (qm_i xd2), some (qm_i x3)], [qm_r 0 3 a0], h)) rfl ?_
  obtain ⟨h1, hr, ho⟩ := qm_bd ho
  refine qm_Ret.call (X := wX3_readStop [qm_r 0 3 a0] h) (o1 := (none, h1)) (qm_mp (G := qm_Gv) hr) rfl ?_
  show qm_Ret _ (141, [some (qm_r 0 3 a0), some (qm_i x1), some (qm_i xd2), some (qm_i x3)], [], h1) _
  refine qm_Ret.sts 2 (f' := (59, [some (qm_r 0 3 a0), some (qm_i x1), some (qm_i xd2), some (qm_i (x3 + (1 : Int32)))], [], h1)) rfl ?_
  exact H59 ho
set_option maxRecDepth 20000 in
set_option maxHeartbeats 2000000 in
theorem rX3_read_59   : ∀ {fuel : Nat} {a0 : Nat} {x1 : Int32} {x3 : Int32} {xd2 : Int32} {h : qm_H} {r : qm_H}, qX3_read_59  fuel a0 x1 x3 h = some r → qm_Ret mX3_read (59, [some (qm_r 0 3 a0), some (qm_i x1), some (qm_i xd2), some (qm_i x3)], [], h) (qm_Gv r) := by
  intro fuel
  induction fuel with
  | zero => intros; rename_i ho; cases ho
  | succ n ih =>
    intro a0 x1 x3 xd2 h r ho
    unfold qX3_read_59 at ho
    refine qm_Ret.sts 2 (f' := (63, [some (qm_r 0 3 a0), some (qm_i x1), some (qm_i xd2), some (qm_i x3)], [qm_i (600 : Int32), qm_i x3], h)) rfl ?_
    refine qm_Ret.ge (t := 147) (e := 66) rfl (fun hc => ?_) (fun hc => ?_)
    · rw [if_pos hc] at ho
      refine qm_Ret.sts 1 (f' := (67, [some (qm_r 0 3 a0), some (qm_i x1), some (qm_i xd2), some (qm_i x3)], [qm_r 0 3 a0], h)) rfl ?_
      obtain ⟨r2, h1, hr, ho⟩ := qm_b2e ho
      refine qm_Ret.call (X := wX3_goesOn [qm_r 0 3 a0] h) (o1 := (some (qm_i r2), h1)) (qm_mp (G := qm_Gi) hr) rfl ?_
      show qm_Ret _ (70, [some (qm_r 0 3 a0), some (qm_i x1), some (qm_i xd2), some (qm_i x3)], [qm_i r2], h1) _
      refine qm_Ret.eq (t := 147) (e := 73) rfl (fun hc => ?_) (fun hc => ?_)
      · rw [if_pos hc] at ho
        exact rX3_read_147 ho
      · rw [if_neg hc] at ho
        refine qm_Ret.sts 3 (f' := (80, [some (qm_r 0 3 a0), some (qm_i x1), some (qm_i xd2), some (qm_i x3)], [qm_i (h1.1 (a0 + 12) 2)], h1)) rfl ?_
        refine qm_Ret.eq (t := 147) (e := 83) rfl (fun hc => ?_) (fun hc => ?_)
        · rw [if_pos hc] at ho
          exact rX3_read_147 ho
        · rw [if_neg hc] at ho
          refine qm_Ret.sts 1 (f' := (84, [some (qm_r 0 3 a0), some (qm_i x1), some (qm_i xd2), some (qm_i x3)], [qm_i x1], h1)) rfl ?_
          by_cases hc0 : x1 = (0 : Int32)
          · rw [if_pos hc0] at ho
            refine qm_Ret.sw (z := (0 : Int32)) (f1 := (112, [some (qm_r 0 3 a0), some (qm_i x1), some (qm_i xd2), some (qm_i x3)], [], h1)) hc0 rfl rfl ?_
            refine qm_Ret.sts 1 (f' := (113, [some (qm_r 0 3 a0), some (qm_i x1), some (qm_i xd2), some (qm_i x3)], [qm_r 0 3 a0], h1)) rfl ?_
            obtain ⟨h3, hr, ho⟩ := qm_bd ho
            refine qm_Ret.call (X := wX3_readBasketLine [qm_r 0 3 a0] h1) (o1 := (none, h3)) (qm_mp (G := qm_Gv) hr) rfl ?_
            show qm_Ret _ (116, [some (qm_r 0 3 a0), some (qm_i x1), some (qm_i xd2), some (qm_i x3)], [], h3) _
            refine qm_Ret.sts 1 (f' := (137, [some (qm_r 0 3 a0), some (qm_i x1), some (qm_i xd2), some (qm_i x3)], [], h3)) rfl ?_
            exact rX3_read_137 (ih) ho
          · rw [if_neg hc0] at ho
            by_cases hc1 : x1 = (1 : Int32)
            · rw [if_pos hc1] at ho
              refine qm_Ret.sw (z := (1 : Int32)) (f1 := (119, [some (qm_r 0 3 a0), some (qm_i x1), some (qm_i xd2), some (qm_i x3)], [], h1)) hc1 rfl rfl ?_
              refine qm_Ret.sts 1 (f' := (120, [some (qm_r 0 3 a0), some (qm_i x1), some (qm_i xd2), some (qm_i x3)], [qm_r 0 3 a0], h1)) rfl ?_
              obtain ⟨h4, hr, ho⟩ := qm_bd ho
              refine qm_Ret.call (X := wX3_readYearLine [qm_r 0 3 a0] h1) (o1 := (none, h4)) (qm_mp (G := qm_Gv) hr) rfl ?_
              show qm_Ret _ (123, [some (qm_r 0 3 a0), some (qm_i x1), some (qm_i xd2), some (qm_i x3)], [], h4) _
              refine qm_Ret.sts 1 (f' := (137, [some (qm_r 0 3 a0), some (qm_i x1), some (qm_i xd2), some (qm_i x3)], [], h4)) rfl ?_
              exact rX3_read_137 (ih) ho
            · rw [if_neg hc1] at ho
              by_cases hc2 : x1 = (2 : Int32)
              · rw [if_pos hc2] at ho
                refine qm_Ret.sw (z := (2 : Int32)) (f1 := (126, [some (qm_r 0 3 a0), some (qm_i x1), some (qm_i xd2), some (qm_i x3)], [], h1)) hc2 rfl rfl ?_
                refine qm_Ret.sts 1 (f' := (127, [some (qm_r 0 3 a0), some (qm_i x1), some (qm_i xd2), some (qm_i x3)], [qm_r 0 3 a0], h1)) rfl ?_
                obtain ⟨h5, hr, ho⟩ := qm_bd ho
                refine qm_Ret.call (X := wX3_readParishLine [qm_r 0 3 a0] h1) (o1 := (none, h5)) (qm_mp (G := qm_Gv) hr) rfl ?_
                show qm_Ret _ (130, [some (qm_r 0 3 a0), some (qm_i x1), some (qm_i xd2), some (qm_i x3)], [], h5) _
                refine qm_Ret.sts 1 (f' := (137, [some (qm_r 0 3 a0), some (qm_i x1), some (qm_i xd2), some (qm_i x3)], [], h5)) rfl ?_
                exact rX3_read_137 (ih) ho
              · rw [if_neg hc2] at ho
                have nhc0 := lv_neT hc0 (show (0 : Int32).toInt = 0 by decide)
                have nhc1 := lv_neT hc1 (show (1 : Int32).toInt = 1 by decide)
                have nhc2 := lv_neT hc2 (show (2 : Int32).toInt = 2 by decide)
                refine qm_Ret.swd (d := 49) (lo := 0) (hi := 2) (pc := 84) (by omega) (by decide) rfl ?_
                show qm_Ret _ (133, [some (qm_r 0 3 a0), some (qm_i x1), some (qm_i xd2), some (qm_i x3)], [], h1) _
                refine qm_Ret.sts 1 (f' := (134, [some (qm_r 0 3 a0), some (qm_i x1), some (qm_i xd2), some (qm_i x3)], [qm_r 0 3 a0], h1)) rfl ?_
                obtain ⟨h6, hr, ho⟩ := qm_bd ho
                refine qm_Ret.call (X := wX3_readCluesLine [qm_r 0 3 a0] h1) (o1 := (none, h6)) (qm_mp (G := qm_Gv) hr) rfl ?_
                show qm_Ret _ (137, [some (qm_r 0 3 a0), some (qm_i x1), some (qm_i xd2), some (qm_i x3)], [], h6) _
                exact rX3_read_137 (ih) ho
    · rw [if_neg hc] at ho
      exact rX3_read_147 ho
set_option maxRecDepth 20000 in
set_option maxHeartbeats 2000000 in
theorem rX3_read_0   {a0 : Nat} {x1 : Int32} {x2 : Int32} {h : qm_H} {r : qm_H} (ho : qX3_read  a0 x1 x2 h = some r) : qm_Ret mX3_read (0, [some (qm_r 0 3 a0), some (qm_i x1), some (qm_i x2), none], [], h) (qm_Gv r) := by
  unfold qX3_read at ho
  refine qm_Ret.sts 3 (f' := (5, [some (qm_r 0 3 a0), some (qm_i x1), some (qm_i x2), none], [], (qm_seti h a0 5 (0 : Int32)))) rfl ?_
  refine qm_Ret.lets (F := fun h1 => (5, [some (qm_r 0 3 a0), some (qm_i x1), some (qm_i x2), none], [], h1)) (G := qm_Gv) ho (fun h1 ho => ?_)
  refine qm_Ret.sts 3 (f' := (10, [some (qm_r 0 3 a0), some (qm_i x1), some (qm_i x2), none], [], (qm_seti h1 a0 6 (-1 : Int32)))) rfl ?_
  refine qm_Ret.lets (F := fun h2 => (10, [some (qm_r 0 3 a0), some (qm_i x1), some (qm_i x2), none], [], h2)) (G := qm_Gv) ho (fun h2 ho => ?_)
  refine qm_Ret.sts 3 (f' := (15, [some (qm_r 0 3 a0), some (qm_i x1), some (qm_i x2), none], [], (qm_seti h2 a0 7 (0 : Int32)))) rfl ?_
  refine qm_Ret.lets (F := fun h3 => (15, [some (qm_r 0 3 a0), some (qm_i x1), some (qm_i x2), none], [], h3)) (G := qm_Gv) ho (fun h3 ho => ?_)
  refine qm_Ret.sts 3 (f' := (20, [some (qm_r 0 3 a0), some (qm_i x1), some (qm_i x2), none], [], (qm_seti h3 a0 8 (0 : Int32)))) rfl ?_
  refine qm_Ret.lets (F := fun h4 => (20, [some (qm_r 0 3 a0), some (qm_i x1), some (qm_i x2), none], [], h4)) (G := qm_Gv) ho (fun h4 ho => ?_)
  refine qm_Ret.sts 2 (f' := (24, [some (qm_r 0 3 a0), some (qm_i x1), some (qm_i x2), none], [qm_r 0 0 (a0 + 1)], h4)) rfl ?_
  obtain ⟨h5, hr, ho⟩ := qm_bd ho
  refine qm_Ret.call (X := wX0_begin [qm_r 0 0 (a0 + 1)] h4) (o1 := (none, h5)) (qm_mp (G := qm_Gv) hr) rfl ?_
  show qm_Ret _ (27, [some (qm_r 0 3 a0), some (qm_i x1), some (qm_i x2), none], [], h5) _
  refine qm_Ret.sts 4 (f' := (35, [some (qm_r 0 3 a0), some (qm_i x1), some (qm_i x2), none], [], (qm_seti h5 (a0 + 5) 1 (0 : Int32)))) rfl ?_
  refine qm_Ret.lets (F := fun h6 => (35, [some (qm_r 0 3 a0), some (qm_i x1), some (qm_i x2), none], [], h6)) (G := qm_Gv) ho (fun h6 ho => ?_)
  refine qm_Ret.sts 2 (f' := (39, [some (qm_r 0 3 a0), some (qm_i x1), some (qm_i x2), none], [qm_r 0 2 (a0 + 7)], h6)) rfl ?_
  obtain ⟨h7, hr, ho⟩ := qm_bd ho
  refine qm_Ret.call (X := wX2_begin [qm_r 0 2 (a0 + 7)] h6) (o1 := (none, h7)) (qm_mp (G := qm_Gv) hr) rfl ?_
  show qm_Ret _ (42, [some (qm_r 0 3 a0), some (qm_i x1), some (qm_i x2), none], [], h7) _
  refine qm_Ret.sts 2 (f' := (46, [some (qm_r 0 3 a0), some (qm_i x1), some (qm_i x2), none], [qm_r 0 1 (a0 + 10)], h7)) rfl ?_
  obtain ⟨h8, hr, ho⟩ := qm_bd ho
  refine qm_Ret.call (X := wX1_begin [qm_r 0 1 (a0 + 10)] h7) (o1 := (none, h8)) (qm_mp (G := qm_Gv) hr) rfl ?_
  show qm_Ret _ (49, [some (qm_r 0 3 a0), some (qm_i x1), some (qm_i x2), none], [], h8) _
  refine qm_Ret.sts 3 (f' := (54, [some (qm_r 0 3 a0), some (qm_i x1), some (qm_i x2), none], [qm_i x2, qm_r 0 8 (a0 + 12)], h8)) rfl ?_
  obtain ⟨h9, hr, ho⟩ := qm_bd ho
  refine qm_Ret.call (X := wX8_begin [qm_r 0 8 (a0 + 12), qm_i x2] h8) (o1 := (none, h9)) (qm_mp (G := qm_Gv) hr) rfl ?_
  show qm_Ret _ (57, [some (qm_r 0 3 a0), some (qm_i x1), some (qm_i x2), none], [], h9) _
  refine qm_Ret.sts 2 (f' := (59, [some (qm_r 0 3 a0), some (qm_i x1), some (qm_i x2), some (qm_i (0 : Int32))], [], h9)) rfl ?_
  exact rX3_read_59 ho
theorem cX3_read_ok : ∀ q ∈ ([(100, 0, 3, wX3_lookForAll), (91, 0, 1, wX3_readStop), (72, 0, 1, wX3_goesOn), (79, 0, 1, wX3_readBasketLine), (82, 0, 1, wX3_readYearLine), (85, 0, 1, wX3_readParishLine), (88, 0, 1, wX3_readCluesLine), (61, 0, 1, wX0_begin), (67, 0, 1, wX2_begin), (68, 0, 1, wX1_begin), (69, 0, 2, wX8_begin)] : List (Nat × Nat × Nat × qm_C)), qm_CallOK RX3 8 172 q.2.1 q.1 q.2.2.1 q.2.2.2 := List.forall_mem_cons.mpr ⟨Or.inl ⟨yX3_lookForAll, cX3_lookForAll, 3, none, 1, 22, _, sX3_lookForAll, ⟨by decide, by decide⟩, ⟨jX3_lookForAll, kRX3_100, uRX3⟩, ⟨by decide, by decide, rfl⟩, Or.inl ⟨rfl, rfl, iX3_lookForAll, recvX3_lookForAll⟩⟩, List.forall_mem_cons.mpr ⟨Or.inl ⟨yX3_readStop, cX3_readStop, 1, none, 2, 43, _, sX3_readStop, ⟨by decide, by decide⟩, ⟨jX3_readStop, kRX3_91, uRX3⟩, ⟨by decide, by decide, rfl⟩, Or.inl ⟨rfl, rfl, iX3_readStop, recvX3_readStop⟩⟩, List.forall_mem_cons.mpr ⟨Or.inl ⟨yX3_goesOn, cX3_goesOn, 1, (some .boolean), 0, 0, _, sX3_goesOn, ⟨by decide, by decide⟩, ⟨jX3_goesOn, kRX3_72, uRX3⟩, ⟨by decide, by decide, rfl⟩, Or.inl ⟨rfl, rfl, iX3_goesOn, recvX3_goesOn⟩⟩, List.forall_mem_cons.mpr ⟨Or.inl ⟨yX3_readBasketLine, cX3_readBasketLine, 3, none, 6, 128, _, sX3_readBasketLine, ⟨by decide, by decide⟩, ⟨jX3_readBasketLine, kRX3_79, uRX3⟩, ⟨by decide, by decide, rfl⟩, Or.inl ⟨rfl, rfl, iX3_readBasketLine, recvX3_readBasketLine⟩⟩, List.forall_mem_cons.mpr ⟨Or.inl ⟨yX3_readYearLine, cX3_readYearLine, 3, none, 7, 150, _, sX3_readYearLine, ⟨by decide, by decide⟩, ⟨jX3_readYearLine, kRX3_82, uRX3⟩, ⟨by decide, by decide, rfl⟩, Or.inl ⟨rfl, rfl, iX3_readYearLine, recvX3_readYearLine⟩⟩, List.forall_mem_cons.mpr ⟨Or.inl ⟨yX3_readParishLine, cX3_readParishLine, 2, none, 6, 128, _, sX3_readParishLine, ⟨by decide, by decide⟩, ⟨jX3_readParishLine, kRX3_85, uRX3⟩, ⟨by decide, by decide, rfl⟩, Or.inl ⟨rfl, rfl, iX3_readParishLine, recvX3_readParishLine⟩⟩, List.forall_mem_cons.mpr ⟨Or.inl ⟨yX3_readCluesLine, cX3_readCluesLine, 5, none, 7, 148, _, sX3_readCluesLine, ⟨by decide, by decide⟩, ⟨jX3_readCluesLine, kRX3_88, uRX3⟩, ⟨by decide, by decide, rfl⟩, Or.inl ⟨rfl, rfl, iX3_readCluesLine, recvX3_readCluesLine⟩⟩, List.forall_mem_cons.mpr ⟨Or.inl ⟨yX0_begin, cX0_begin, 2, none, 0, 0, _, sX0_begin, ⟨by decide, by decide⟩, ⟨jX0_begin, kRX3_61, uRX0⟩, ⟨by decide, by decide, rfl⟩, Or.inl ⟨rfl, rfl, iX0_begin, recvX0_begin⟩⟩, List.forall_mem_cons.mpr ⟨Or.inl ⟨yX2_begin, cX2_begin, 1, none, 0, 0, _, sX2_begin, ⟨by decide, by decide⟩, ⟨jX2_begin, kRX3_67, uRX2⟩, ⟨by decide, by decide, rfl⟩, Or.inl ⟨rfl, rfl, iX2_begin, recvX2_begin⟩⟩, List.forall_mem_cons.mpr ⟨Or.inl ⟨yX1_begin, cX1_begin, 1, none, 0, 0, _, sX1_begin, ⟨by decide, by decide⟩, ⟨jX1_begin, kRX3_68, uRX1⟩, ⟨by decide, by decide, rfl⟩, Or.inl ⟨rfl, rfl, iX1_begin, recvX1_begin⟩⟩, List.forall_mem_cons.mpr ⟨Or.inl ⟨yX8_begin, cX8_begin, 2, none, 2, 43, _, sX8_begin, ⟨by decide, by decide⟩, ⟨jX8_begin, kRX3_69, uRX8⟩, ⟨by decide, by decide, rfl⟩, Or.inl ⟨rfl, rfl, iX8_begin, recvX8_begin⟩⟩, fun _ h => absurd h List.not_mem_nil⟩⟩⟩⟩⟩⟩⟩⟩⟩⟩⟩
theorem sX3_read : qm_Snd yX3_read cX3_read 4 none 8 172 wX3_read := qm_met (fld := fun k => qm_lk k pfRX3) (con := fun k => qm_lk k pcRX3) (call := fun k => qm_lk k [(100, 0, 3, wX3_lookForAll), (91, 0, 1, wX3_readStop), (72, 0, 1, wX3_goesOn), (79, 0, 1, wX3_readBasketLine), (82, 0, 1, wX3_readYearLine), (85, 0, 1, wX3_readParishLine), (88, 0, 1, wX3_readCluesLine), (61, 0, 1, wX0_begin), (67, 0, 1, wX2_begin), (68, 0, 1, wX1_begin), (69, 0, 2, wX8_begin)]) (tab := qm_tab aX3_read) (plainFor_of_name (by decide)) (qm_fld_ok pfRX3_ok) (qm_con_ok pcRX3_ok) (fun idx kd n f hc => cX3_read_ok (idx, kd, n, f) (qm_lk_mem hc)) (qm_tab_ok aX3_read_ok) (fun vs h o hw => by
  unfold wX3_read at hw
  split at hw
  · obtain ⟨r, hr, rfl⟩ := Option.map_eq_some_iff.mp hw
    exact ⟨Nat.le_of_ble_eq_true rfl, rX3_read_0 (hr)⟩
  · cases hw)
theorem recvX3_read : ∀ vs h o, wX3_read vs h = some o → ∃ ci a rest, vs = qm_r 0 ci a :: rest ∧ qm_R ci = yX3_read.cls := by
  intro vs h o hw
  unfold wX3_read at hw
  split at hw
  · exact ⟨_, _, _, rfl, rfl⟩
  · cases hw
-- RX11 text(II)I
theorem jX11_text : Jvm.Cond.code yX11_text cX11_text 7 (some .int) ∈ qm_all := List.mem_filter.mpr ⟨by decide +kernel, rfl⟩
theorem iX11_text : Jvm.Cond.instanceMethod yX11_text ∈ qm_all ∧ Jvm.Cond.selects yX11_text.cls yX11_text yX11_text ∈ qm_all := ⟨List.mem_filter.mpr ⟨by decide +kernel, rfl⟩, List.mem_filter.mpr ⟨by decide +kernel, rfl⟩⟩
def wX11_text : qm_C := fun vs h => match vs with
  | [.inr (.inr (some (0, 11, p0))), .inl p1, .inl p2] => (qX11_text p0 p1 p2 h).map qm_Gi
  | _ => none
def aX11_text : List (Option (Instr × Nat)) := [some (.aload_n 0, 1), some (.getfield 10, 3), none, none, some (.getfield 61, 3), none, none, some (.istore_n 3, 1), some (.aload_n 0, 1), some (.getfield 10, 3), none, none, some (.iconst 0, 1), some (.putfield 61, 3), none, none, some (.aload_n 0, 1), some (.getfield 10, 3), none, none, some (.iconst 0, 1), some (.putfield 69, 3), none, none, some (.aload_n 0, 1), some (.getfield 10, 3), none, none, some (.iconst (-1), 1), some (.putfield 72, 3), none, none, some (.iload_n 1, 1), some (.ifCond .lt 8, 3), none, none, some (.iload_n 1, 1), some (.iconst 4, 1), some (.if_icmp .lt 6, 3), none, none, some (.bipush (-2), 2), none, some (.ireturn, 1), some (.aload_n 0, 1), some (.getfield 10, 3), none, none, some (.getfield 75, 3), none, none, some (.iload_n 1, 1), some (.iaload, 1), some (.istore 4, 2), none, some (.iload_n 2, 1), some (.iconst (-1), 1), some (.if_icmp .ne 7, 3), none, none, some (.iconst 1, 1), some (.goto 4, 3), none, none, some (.iconst 0, 1), some (.istore 5, 2), none, some (.iload 5, 2), none, some (.ifCond .eq 12, 3), none, none, some (.iload 4, 2), none, some (.iconst 2, 1), some (.if_icmp .lt 19, 3), none, none, some (.goto 13, 3), none, none, some (.iload_n 2, 1), some (.ifCond .lt 9, 3), none, none, some (.iload_n 2, 1), some (.iload 4, 2), none, some (.if_icmp .lt 6, 3), none, none, some (.bipush (-2), 2), none, some (.ireturn, 1), some (.aload_n 0, 1), some (.getfield 29, 3), none, none, some (.iload_n 1, 1), some (.iload_n 3, 1), some (.invokevirtual 79, 3), none, none, some (.aload_n 0, 1), some (.getfield 29, 3), none, none, some (.getfield 83, 3), none, none, some (.ifCond .eq 33, 3), none, none, some (.aload_n 0, 1), some (.getfield 10, 3), none, none, some (.aload_n 0, 1), some (.getfield 29, 3), none, none, some (.getfield 83, 3), none, none, some (.putfield 69, 3), none, none, some (.aload_n 0, 1), some (.getfield 10, 3), none, none, some (.aload_n 0, 1), some (.getfield 29, 3), none, none, some (.getfield 84, 3), none, none, some (.putfield 72, 3), none, none, some (.iconst (-1), 1), some (.ireturn, 1), some (.iload 5, 2), none, some (.ifCond .eq 8, 3), none, none, some (.iload 4, 2), none, some (.goto 4, 3), none, none, some (.iload_n 2, 1), some (.istore 6, 2), none, some (.aload_n 0, 1), some (.getfield 10, 3), none, none, some (.iload_n 1, 1), some (.iload 6, 2), none, some (.aload_n 0, 1), some (.getfield 29, 3), none, none, some (.invokevirtual 85, 3), none, none, some (.iload 5, 2), none, some (.ifCond .eq 16, 3), none, none, some (.aload_n 0, 1), some (.getfield 10, 3), none, none, some (.getfield 75, 3), none, none, some (.iload_n 1, 1), some (.iload 4, 2), none, some (.iconst 1, 1), some (.iadd, 1), some (.iastore, 1), some (.iload 6, 2), none, some (.ireturn, 1)]
theorem aX11_text_ok : qm_tabok cX11_text aX11_text = true := by decide +kernel
def mX11_text : qm_M := ((some .int), (fun k => qm_lk k pfRX11), (fun k => qm_lk k pcRX11), (fun k => qm_lk k [(85, 0, 4, wX9_keep), (79, 0, 3, wX3_read)]), qm_tab aX11_text)
set_option maxRecDepth 20000 in
set_option maxHeartbeats 2000000 in
theorem rX11_text_154   {a0 : Nat} {x1 : Int32} {x4 : Int32} {x5 : Int32} {xs0 : Int32} {xd2 : Int32} {xd3 : Int32} {h : qm_H} {r : Int32 × qm_H} (ho : qX11_text_154  a0 x1 x4 x5 xs0 h = some r) : qm_Ret mX11_text (154, [some (qm_r 0 11 a0), some (qm_i x1), some (qm_i xd2), some (qm_i xd3), some (qm_i x4), some (qm_i x5), none], [qm_i xs0], h) (qm_Gi r) := by
  unfold qX11_text_154 at ho
  refine qm_Ret.sts 7 (f' := (167, [some (qm_r 0 11 a0), some (qm_i x1), some (qm_i xd2), some (qm_i xd3), some (qm_i x4), some (qm_i x5), some (qm_i xs0)], [qm_r 0 3 (a0 + 31), qm_i xs0, qm_i x1, qm_r 0 9 (a0 + 1)], h)) rfl ?_
  obtain ⟨h1, hr, ho⟩ := qm_bd ho
  refine qm_Ret.call (X := wX9_keep [qm_r 0 9 (a0 + 1), qm_i x1, qm_i xs0, qm_r 0 3 (a0 + 31)] h) (o1 := (none, h1)) (qm_mp (G := qm_Gv) hr) rfl ?_
  show qm_Ret _ (170, [some (qm_r 0 11 a0), some (qm_i x1), some (qm_i xd2), some (qm_i xd3), some (qm_i x4), some (qm_i x5), some (qm_i xs0)], [], h1) _
  refine qm_Ret.sts 1 (f' := (172, [some (qm_r 0 11 a0), some (qm_i x1), some (qm_i xd2), some (qm_i xd3), some (qm_i x4), some (qm_i x5), some (qm_i xs0)], [qm_i x5], h1)) rfl ?_
  refine qm_Ret.eq (t := 188) (e := 175) rfl (fun hc => ?_) (fun hc => ?_)
  · rw [if_pos hc] at ho
    cases ho
    exact qm_Ret.ret 2 rfl
  · rw [if_neg hc] at ho
    refine qm_Ret.sts 7 (f' := (187, [some (qm_r 0 11 a0), some (qm_i x1), some (qm_i xd2), some (qm_i xd3), some (qm_i x4), some (qm_i x5), some (qm_i xs0)], [qm_i (x4 + (1 : Int32)), qm_i x1, qm_r 1 4 ((a0 + 1) + 2)], h1)) rfl ?_
    obtain ⟨hg, ho⟩ := qm_ifn ho
    refine qm_Ret.gn (f1 := (188, [some (qm_r 0 11 a0), some (qm_i x1), some (qm_i xd2), some (qm_i xd3), some (qm_i x4), some (qm_i x5), some (qm_i xs0)], [], (qm_seti h1 ((a0 + 1) + 2) (x1).toNatClampNeg (x4 + (1 : Int32))))) hg rfl ?_
    refine qm_Ret.lets (F := fun h2 => (188, [some (qm_r 0 11 a0), some (qm_i x1), some (qm_i xd2), some (qm_i xd3), some (qm_i x4), some (qm_i x5), some (qm_i xs0)], [], h2)) (G := qm_Gi) ho (fun h2 ho => ?_)
    cases ho
    exact qm_Ret.ret 2 rfl
set_option maxRecDepth 20000 in
set_option maxHeartbeats 2000000 in
theorem rX11_text_94   {a0 : Nat} {x1 : Int32} {x2 : Int32} {x3 : Int32} {x4 : Int32} {x5 : Int32} {h : qm_H} {r : Int32 × qm_H} (ho : qX11_text_94  a0 x1 x2 x3 x4 x5 h = some r) : qm_Ret mX11_text (94, [some (qm_r 0 11 a0), some (qm_i x1), some (qm_i x2), some (qm_i x3), some (qm_i x4), some (qm_i x5), none], [], h) (qm_Gi r) := by
  unfold qX11_text_94 at ho
  refine qm_Ret.sts 4 (f' := (100, [some (qm_r 0 11 a0), some (qm_i x1), some (qm_i x2), some (qm_i x3), some (qm_i x4), some (qm_i x5), none], [qm_i x3, qm_i x1, qm_r 0 3 (a0 + 31)], h)) rfl ?_
  obtain ⟨h1, hr, ho⟩ := qm_bd ho
  refine qm_Ret.call (X := wX3_read [qm_r 0 3 (a0 + 31), qm_i x1, qm_i x3] h) (o1 := (none, h1)) (qm_mp (G := qm_Gv) hr) rfl ?_
  show qm_Ret _ (103, [some (qm_r 0 11 a0), some (qm_i x1), some (qm_i x2), some (qm_i x3), some (qm_i x4), some (qm_i x5), none], [], h1) _
  refine qm_Ret.sts 3 (f' := (110, [some (qm_r 0 11 a0), some (qm_i x1), some (qm_i x2), some (qm_i x3), some (qm_i x4), some (qm_i x5), none], [qm_i (h1.1 (a0 + 31) 5)], h1)) rfl ?_
  refine qm_Ret.eq (t := 143) (e := 113) rfl (fun hc => ?_) (fun hc => ?_)
  · rw [if_pos hc] at ho
    refine qm_Ret.sts 1 (f' := (145, [some (qm_r 0 11 a0), some (qm_i x1), some (qm_i x2), some (qm_i x3), some (qm_i x4), some (qm_i x5), none], [qm_i x5], h1)) rfl ?_
    refine qm_Ret.eq (t := 153) (e := 148) rfl (fun hc => ?_) (fun hc => ?_)
    · rw [if_pos hc] at ho
      refine qm_Ret.sts 1 (f' := (154, [some (qm_r 0 11 a0), some (qm_i x1), some (qm_i x2), some (qm_i x3), some (qm_i x4), some (qm_i x5), none], [qm_i x2], h1)) rfl ?_
      exact rX11_text_154 ho
    · rw [if_neg hc] at ho
      refine qm_Ret.sts 2 (f' := (154, [some (qm_r 0 11 a0), some (qm_i x1), some (qm_i x2), some (qm_i x3), some (qm_i x4), some (qm_i x5), none], [qm_i x4], h1)) rfl ?_
      exact rX11_text_154 ho
  · rw [if_neg hc] at ho
    refine qm_Ret.sts 6 (f' := (127, [some (qm_r 0 11 a0), some (qm_i x1), some (qm_i x2), some (qm_i x3), some (qm_i x4), some (qm_i x5), none], [], (qm_seti h1 (a0 + 1) 7 (h1.1 (a0 + 31) 5)))) rfl ?_
    refine qm_Ret.lets (F := fun h2 => (127, [some (qm_r 0 11 a0), some (qm_i x1), some (qm_i x2), some (qm_i x3), some (qm_i x4), some (qm_i x5), none], [], h2)) (G := qm_Gi) ho (fun h2 ho => ?_)
    refine qm_Ret.sts 6 (f' := (141, [some (qm_r 0 11 a0), some (qm_i x1), some (qm_i x2), some (qm_i x3), some (qm_i x4), some (qm_i x5), none], [], (qm_seti h2 (a0 + 1) 8 (h2.1 (a0 + 31) 6)))) rfl ?_
    refine qm_Ret.lets (F := fun h3 => (141, [some (qm_r 0 11 a0), some (qm_i x1), some (qm_i x2), some (qm_i x3), some (qm_i x4), some (qm_i x5), none], [], h3)) (G := qm_Gi) ho (fun h3 ho => ?_)
    cases ho
    exact qm_Ret.ret 2 rfl
set_option maxRecDepth 20000 in
set_option maxHeartbeats 2000000 in
theorem rX11_text_65   {a0 : Nat} {x1 : Int32} {x2 : Int32} {x3 : Int32} {x4 : Int32} {xs0 : Int32} {h : qm_H} {r : Int32 × qm_H} (ho : qX11_text_65  a0 x1 x2 x3 x4 xs0 h = some r) : qm_Ret mX11_text (65, [some (qm_r 0 11 a0), some (qm_i x1), some (qm_i x2), some (qm_i x3), some (qm_i x4), none, none], [qm_i xs0], h) (qm_Gi r) := by
  unfold qX11_text_65 at ho
  refine qm_Ret.sts 2 (f' := (69, [some (qm_r 0 11 a0), some (qm_i x1), some (qm_i x2), some (qm_i x3), some (qm_i x4), some (qm_i xs0), none], [qm_i xs0], h)) rfl ?_
  refine qm_Ret.eq (t := 81) (e := 72) rfl (fun hc => ?_) (fun hc => ?_)
  · rw [if_pos hc] at ho
    refine qm_Ret.sts 1 (f' := (82, [some (qm_r 0 11 a0), some (qm_i x1), some (qm_i x2), some (qm_i x3), some (qm_i x4), some (qm_i xs0), none], [qm_i x2], h)) rfl ?_
    refine qm_Ret.lt (t := 91) (e := 85) rfl (fun hc => ?_) (fun hc => ?_)
    · rw [if_pos hc] at ho
      cases ho
      exact qm_Ret.ret 2 rfl
    · rw [if_neg hc] at ho
      refine qm_Ret.sts 2 (f' := (88, [some (qm_r 0 11 a0), some (qm_i x1), some (qm_i x2), some (qm_i x3), some (qm_i x4), some (qm_i xs0), none], [qm_i x4, qm_i x2], h)) rfl ?_
      refine qm_Ret.lt (t := 94) (e := 91) rfl (fun hc => ?_) (fun hc => ?_)
      · rw [if_pos hc] at ho
        exact rX11_text_94 ho
      · rw [if_neg hc] at ho
        cases ho
        exact qm_Ret.ret 2 rfl
  · rw [if_neg hc] at ho
    refine qm_Ret.sts 2 (f' := (75, [some (qm_r 0 11 a0), some (qm_i x1), some (qm_i x2), some (qm_i x3), some (qm_i x4), some (qm_i xs0), none], [qm_i (2 : Int32), qm_i x4], h)) rfl ?_
    refine qm_Ret.lt (t := 94) (e := 78) rfl (fun hc => ?_) (fun hc => ?_)
    · rw [if_pos hc] at ho
      exact rX11_text_94 ho
    · rw [if_neg hc] at ho
      cases ho
      exact qm_Ret.ret 3 rfl
set_option maxRecDepth 20000 in
set_option maxHeartbeats 2000000 in
theorem rX11_text_0   {a0 : Nat} {x1 : Int32} {x2 : Int32} {h : qm_H} {r : Int32 × qm_H} (ho : qX11_text  a0 x1 x2 h = some r) : qm_Ret mX11_text (0, [some (qm_r 0 11 a0), some (qm_i x1), some (qm_i x2), none, none, none, none], [], h) (qm_Gi r) := by
  unfold qX11_text at ho
  refine qm_Ret.sts 3 (f' := (7, [some (qm_r 0 11 a0), some (qm_i x1), some (qm_i x2), none, none, none, none], [qm_i (h.1 (a0 + 1) 6)], h)) rfl ?_
  refine qm_Ret.lets (F := fun v1 => (7, [some (qm_r 0 11 a0), some (qm_i x1), some (qm_i x2), none, none, none, none], [qm_i v1], h)) (G := qm_Gi) ho (fun v1 ho => ?_)
  refine qm_Ret.sts 5 (f' := (16, [some (qm_r 0 11 a0), some (qm_i x1), some (qm_i x2), some (qm_i v1), none, none, none], [], (qm_seti h (a0 + 1) 6 (0 : Int32)))) rfl ?_
  refine qm_Ret.lets (F := fun h2 => (16, [some (qm_r 0 11 a0), some (qm_i x1), some (qm_i x2), some (qm_i v1), none, none, none], [], h2)) (G := qm_Gi) ho (fun h2 ho => ?_)
  refine qm_Ret.sts 4 (f' := (24, [some (qm_r 0 11 a0), some (qm_i x1), some (qm_i x2), some (qm_i v1), none, none, none], [], (qm_seti h2 (a0 + 1) 7 (0 : Int32)))) rfl ?_
  refine qm_Ret.lets (F := fun h3 => (24, [some (qm_r 0 11 a0), some (qm_i x1), some (qm_i x2), some (qm_i v1), none, none, none], [], h3)) (G := qm_Gi) ho (fun h3 ho => ?_)
  refine qm_Ret.sts 4 (f' := (32, [some (qm_r 0 11 a0), some (qm_i x1), some (qm_i x2), some (qm_i v1), none, none, none], [], (qm_seti h3 (a0 + 1) 8 (-1 : Int32)))) rfl ?_
  refine qm_Ret.lets (F := fun h4 => (32, [some (qm_r 0 11 a0), some (qm_i x1), some (qm_i x2), some (qm_i v1), none, none, none], [], h4)) (G := qm_Gi) ho (fun h4 ho => ?_)
  refine qm_Ret.sts 1 (f' := (33, [some (qm_r 0 11 a0), some (qm_i x1), some (qm_i x2), some (qm_i v1), none, none, none], [qm_i x1], h4)) rfl ?_
  refine qm_Ret.lt (t := 41) (e := 36) rfl (fun hc => ?_) (fun hc => ?_)
  · rw [if_pos hc] at ho
    cases ho
    exact qm_Ret.ret 2 rfl
  · rw [if_neg hc] at ho
    refine qm_Ret.sts 2 (f' := (38, [some (qm_r 0 11 a0), some (qm_i x1), some (qm_i x2), some (qm_i v1), none, none, none], [qm_i (4 : Int32), qm_i x1], h4)) rfl ?_
    refine qm_Ret.lt (t := 44) (e := 41) rfl (fun hc => ?_) (fun hc => ?_)
    · rw [if_pos hc] at ho
      refine qm_Ret.sts 4 (f' := (52, [some (qm_r 0 11 a0), some (qm_i x1), some (qm_i x2), some (qm_i v1), none, none, none], [qm_i x1, qm_r 1 4 ((a0 + 1) + 2)], h4)) rfl ?_
      obtain ⟨hg, ho⟩ := qm_ifn ho
      refine qm_Ret.gn (f1 := (53, [some (qm_r 0 11 a0), some (qm_i x1), some (qm_i x2), some (qm_i v1), none, none, none], [qm_i (h4.1 ((a0 + 1) + 2) (x1).toNatClampNeg)], h4)) hg rfl ?_
      refine qm_Ret.lets (F := fun v5 => (53, [some (qm_r 0 11 a0), some (qm_i x1), some (qm_i x2), some (qm_i v1), none, none, none], [qm_i v5], h4)) (G := qm_Gi) ho (fun v5 ho => ?_)
      refine qm_Ret.sts 3 (f' := (57, [some (qm_r 0 11 a0), some (qm_i x1), some (qm_i x2), some (qm_i v1), some (qm_i v5), none, none], [qm_i (-1 : Int32), qm_i x2], h4)) rfl ?_
      refine qm_Ret.ne (t := 64) (e := 60) rfl (fun hc => ?_) (fun hc => ?_)
      · rw [if_pos hc] at ho
        refine qm_Ret.sts 2 (f' := (65, [some (qm_r 0 11 a0), some (qm_i x1), some (qm_i x2), some (qm_i v1), some (qm_i v5), none, none], [qm_i (1 : Int32)], h4)) rfl ?_
        exact rX11_text_65 ho
      · rw [if_neg hc] at ho
        refine qm_Ret.sts 1 (f' := (65, [some (qm_r 0 11 a0), some (qm_i x1), some (qm_i x2), some (qm_i v1), some (qm_i v5), none, none], [qm_i (0 : Int32)], h4)) rfl ?_
        exact rX11_text_65 ho
    · rw [if_neg hc] at ho
      cases ho
      exact qm_Ret.ret 2 rfl
theorem cX11_text_ok : ∀ q ∈ ([(85, 0, 4, wX9_keep), (79, 0, 3, wX3_read)] : List (Nat × Nat × Nat × qm_C)), qm_CallOK RX11 9 195 q.2.1 q.1 q.2.2.1 q.2.2.2 := List.forall_mem_cons.mpr ⟨Or.inl ⟨yX9_keep, cX9_keep, 4, none, 2, 81, _, sX9_keep, ⟨by decide, by decide⟩, ⟨jX9_keep, kRX11_85, uRX9⟩, ⟨by decide, by decide, rfl⟩, Or.inl ⟨rfl, rfl, iX9_keep, recvX9_keep⟩⟩, List.forall_mem_cons.mpr ⟨Or.inl ⟨yX3_read, cX3_read, 4, none, 8, 172, _, sX3_read, ⟨by decide, by decide⟩, ⟨jX3_read, kRX11_79, uRX3⟩, ⟨by decide, by decide, rfl⟩, Or.inl ⟨rfl, rfl, iX3_read, recvX3_read⟩⟩, fun _ h => absurd h List.not_mem_nil⟩⟩
theorem sX11_text : qm_Snd yX11_text cX11_text 7 (some .int) 9 195 wX11_text := qm_met (fld := fun k => qm_lk k pfRX11) (con := fun k => qm_lk k pcRX11) (call := fun k => qm_lk k [(85, 0, 4, wX9_keep), (79, 0, 3, wX3_read)]) (tab := qm_tab aX11_text) (plainFor_of_name (by decide)) (qm_fld_ok pfRX11_ok) (qm_con_ok pcRX11_ok) (fun idx kd n f hc => cX11_text_ok (idx, kd, n, f) (qm_lk_mem hc)) (qm_tab_ok aX11_text_ok) (fun vs h o hw => by
  unfold wX11_text at hw
  split at hw
  · obtain ⟨r, hr, rfl⟩ := Option.map_eq_some_iff.mp hw
    exact ⟨Nat.le_of_ble_eq_true rfl, rX11_text_0 (hr)⟩
  · cases hw)
theorem recvX11_text : ∀ vs h o, wX11_text vs h = some o → ∃ ci a rest, vs = qm_r 0 ci a :: rest ∧ qm_R ci = yX11_text.cls := by
  intro vs h o hw
  unfold wX11_text at hw
  split at hw
  · exact ⟨_, _, _, rfl, rfl⟩
  · cases hw
