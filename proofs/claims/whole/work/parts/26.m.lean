-- RX12 yearLine(JI)Z
theorem jX12_yearLine : Jvm.Cond.code yX12_yearLine cX12_yearLine 6 (some .boolean) ∈ qm_all := List.mem_filter.mpr ⟨by decide +kernel, rfl⟩
theorem iX12_yearLine : Jvm.Cond.instanceMethod yX12_yearLine ∈ qm_all ∧ Jvm.Cond.selects yX12_yearLine.cls yX12_yearLine yX12_yearLine ∈ qm_all := ⟨List.mem_filter.mpr ⟨by decide +kernel, rfl⟩, List.mem_filter.mpr ⟨by decide +kernel, rfl⟩⟩
def wX12_yearLine : qm_C := fun vs h => match vs with
  | [.inr (.inr (some (0, 12, p0))), .inr (.inl p1), .inl p2] => (qX12_yearLine p0 p1 p2 h).map qm_Gi
  | _ => none
def aX12_yearLine : List (Option (Instr × Nat)) := [some (.lload_n 1, 1), some (.invokestatic 204, 3), none, none, some (.istore 4, 2), none, some (.iload 4, 2), none, some (.iconst (-1), 1), some (.if_icmp .ne 8, 3), none, none, some (.aload_n 0, 1), some (.invokevirtual 140, 3), none, none, some (.ireturn, 1), some (.aload_n 0, 1), some (.iconst 0, 1), some (.bipush 40, 2), none, some (.iload_n 3, 1), some (.invokevirtual 208, 3), none, none, some (.aload_n 0, 1), some (.invokevirtual 152, 3), none, none, some (.iconst 1, 1), some (.istore 5, 2), none, some (.iload 5, 2), none, some (.iconst 4, 1), some (.if_icmp .ge 17, 3), none, none, some (.aload_n 0, 1), some (.getfield 41, 3), none, none, some (.iload 5, 2), none, some (.iconst (-1), 1), some (.iastore, 1), some (.iinc 5 1, 3), none, none, some (.goto (-17), 3), none, none, some (.iconst 1, 1), some (.istore 5, 2), none, some (.iload 4, 2), none, some (.ifCond .ne 46, 3), none, none, some (.aload_n 0, 1), some (.iconst 1, 1), some (.iconst 1, 1), some (.bipush 8, 2), none, some (.invokevirtual 155, 3), none, none, some (.ifCond .eq 29, 3), none, none, some (.aload_n 0, 1), some (.iconst 2, 1), some (.iconst 1, 1), some (.bipush 8, 2), none, some (.invokevirtual 155, 3), none, none, some (.ifCond .eq 18, 3), none, none, some (.aload_n 0, 1), some (.iconst 3, 1), some (.iconst 0, 1), some (.bipush 99, 2), none, some (.invokevirtual 155, 3), none, none, some (.ifCond .eq 7, 3), none, none, some (.iconst 1, 1), some (.goto 4, 3), none, none, some (.iconst 0, 1), some (.istore 5, 2), none, some (.goto 59, 3), none, none, some (.iload 4, 2), none, some (.iconst 3, 1), some (.if_icmp .ne 35, 3), none, none, some (.aload_n 0, 1), some (.iconst 1, 1), some (.iconst 0, 1), some (.bipush 7, 2), none, some (.invokevirtual 155, 3), none, none, some (.ifCond .eq 18, 3), none, none, some (.aload_n 0, 1), some (.iconst 2, 1), some (.iconst 0, 1), some (.bipush 7, 2), none, some (.invokevirtual 155, 3), none, none, some (.ifCond .eq 7, 3), none, none, some (.iconst 1, 1), some (.goto 4, 3), none, none, some (.iconst 0, 1), some (.istore 5, 2), none, some (.goto 21, 3), none, none, some (.iload 4, 2), none, some (.iconst 1, 1), some (.if_icmp .eq 9, 3), none, none, some (.iload 4, 2), none, some (.iconst 2, 1), some (.if_icmp .ne 9, 3), none, none, some (.aload_n 0, 1), some (.invokevirtual 212, 3), none, none, some (.istore 5, 2), none, some (.iload 5, 2), none, some (.ifCond .ne 5, 3), none, none, some (.iconst 0, 1), some (.ireturn, 1), some (.aload_n 0, 1), some (.getfield 41, 3), none, none, some (.iconst 0, 1), some (.iload 4, 2), none, some (.iastore, 1), some (.aload_n 0, 1), some (.iconst 0, 1), some (.iconst 1, 1), some (.iconst 4, 1), some (.bipush 40, 2), none, some (.invokevirtual 215, 3), none, none, some (.iconst 1, 1), some (.ireturn, 1)]
theorem aX12_yearLine_ok : qm_tabok cX12_yearLine aX12_yearLine = true := by decide +kernel
def mX12_yearLine : qm_M := ((some .boolean), (fun k => qm_lk k pfRX12), (fun k => qm_lk k pcRX12), (fun k => qm_lk k [(215, 0, 5, wX12_keep), (212, 0, 1, wX12_takeSide), (155, 0, 4, wX12_take), (204, 2, 1, wX12_deedBy), (208, 0, 4, wX12_full), (152, 0, 1, wX12_token), (140, 0, 1, wX12_fails)]), qm_tab aX12_yearLine)
set_option maxRecDepth 20000 in
set_option maxHeartbeats 2000000 in
theorem rX12_yearLine_159   {a0 : Nat} {x4 : Int32} {x5 : Int32} {ld1 : Int64} {xd3 : Int32} {h : qm_H} {r : Int32 × qm_H} (ho : qX12_yearLine_159  a0 x4 x5 h = some r) : qm_Ret mX12_yearLine (159, [some (qm_r 0 12 a0), some (qm_l ld1), none, some (qm_i xd3), some (qm_i x4), some (qm_i x5)], [], h) (qm_Gi r) := by
  unfold qX12_yearLine_159 at ho
  refine qm_Ret.sts 1 (f' := (161, [some (qm_r 0 12 a0), some (qm_l ld1), none, some (qm_i xd3), some (qm_i x4), some (qm_i x5)], [qm_i x5], h)) rfl ?_
  refine qm_Ret.ne (t := 166) (e := 164) rfl (fun hc => ?_) (fun hc => ?_)
  · rw [if_pos hc] at ho
    cases ho
    exact qm_Ret.ret 2 rfl
  · rw [if_neg hc] at ho
    refine qm_Ret.sts 5 (f' := (174, [some (qm_r 0 12 a0), some (qm_l ld1), none, some (qm_i xd3), some (qm_i x4), some (qm_i x5)], [], (qm_seti h (a0 + 11) (0 : Int32).toNatClampNeg x4))) rfl ?_
    refine qm_Ret.lets (F := fun h1 => (174, [some (qm_r 0 12 a0), some (qm_l ld1), none, some (qm_i xd3), some (qm_i x4), some (qm_i x5)], [], h1)) (G := qm_Gi) ho (fun h1 ho => ?_)
    refine qm_Ret.sts 5 (f' := (180, [some (qm_r 0 12 a0), some (qm_l ld1), none, some (qm_i xd3), some (qm_i x4), some (qm_i x5)], [qm_i (40 : Int32), qm_i (4 : Int32), qm_i (1 : Int32), qm_i (0 : Int32), qm_r 0 12 a0], h1)) rfl ?_
    obtain ⟨h2, hr, ho⟩ := qm_bd ho
    refine qm_Ret.call (X := wX12_keep [qm_r 0 12 a0, qm_i (0 : Int32), qm_i (1 : Int32), qm_i (4 : Int32), qm_i (40 : Int32)] h1) (o1 := (none, h2)) (qm_mp (G := qm_Gv) hr) rfl ?_
    show qm_Ret _ (183, [some (qm_r 0 12 a0), some (qm_l ld1), none, some (qm_i xd3), some (qm_i x4), some (qm_i x5)], [], h2) _
    cases ho
    exact qm_Ret.ret 2 rfl
set_option maxRecDepth 20000 in
set_option maxHeartbeats 2000000 in
theorem rX12_yearLine_153   {a0 : Nat} {x4 : Int32} {ld1 : Int64} {xd3 : Int32} {xd5 : Int32} {h : qm_H} {r : Int32 × qm_H} (ho : qX12_yearLine_153  a0 x4 h = some r) : qm_Ret mX12_yearLine (153, [some (qm_r 0 12 a0), some (qm_l ld1), none, some (qm_i xd3), some (qm_i x4), some (qm_i xd5)], [], h) (qm_Gi r) := by
  unfold qX12_yearLine_153 at ho
  refine qm_Ret.sts 1 (f' := (154, [some (qm_r 0 12 a0), some (qm_l ld1), none, some (qm_i xd3), some (qm_i x4), some (qm_i xd5)], [qm_r 0 12 a0], h)) rfl ?_
  obtain ⟨r2, h1, hr, ho⟩ := qm_b2e ho
  refine qm_Ret.call (X := wX12_takeSide [qm_r 0 12 a0] h) (o1 := (some (qm_i r2), h1)) (qm_mp (G := qm_Gi) hr) rfl ?_
  show qm_Ret _ (157, [some (qm_r 0 12 a0), some (qm_l ld1), none, some (qm_i xd3), some (qm_i x4), some (qm_i xd5)], [qm_i r2], h1) _
  refine qm_Ret.sts 1 (f' := (159, [some (qm_r 0 12 a0), some (qm_l ld1), none, some (qm_i xd3), some (qm_i x4), some (qm_i r2)], [], h1)) rfl ?_
  exact rX12_yearLine_159 ho
set_option maxRecDepth 20000 in
set_option maxHeartbeats 2000000 in
theorem rX12_yearLine_32   : ∀ {fuel : Nat} {a0 : Nat} {x4 : Int32} {x5 : Int32} {ld1 : Int64} {xd3 : Int32} {h : qm_H} {r : Int32 × qm_H}, qX12_yearLine_32  fuel a0 x4 x5 h = some r → qm_Ret mX12_yearLine (32, [some (qm_r 0 12 a0), some (qm_l ld1), none, some (qm_i xd3), some (qm_i x4), some (qm_i x5)], [], h) (qm_Gi r) := by
  intro fuel
  induction fuel with
  | zero => intros; rename_i ho; cases ho
  | succ n ih =>
    intro a0 x4 x5 ld1 xd3 h r ho
    unfold qX12_yearLine_32 at ho
    refine qm_Ret.sts 2 (f' := (35, [some (qm_r 0 12 a0), some (qm_l ld1), none, some (qm_i xd3), some (qm_i x4), some (qm_i x5)], [qm_i (4 : Int32), qm_i x5], h)) rfl ?_
    refine qm_Ret.ge (t := 52) (e := 38) rfl (fun hc => ?_) (fun hc => ?_)
    · rw [if_pos hc] at ho
      refine qm_Ret.sts 4 (f' := (45, [some (qm_r 0 12 a0), some (qm_l ld1), none, some (qm_i xd3), some (qm_i x4), some (qm_i x5)], [qm_i (-1 : Int32), qm_i x5, qm_r 1 4 (a0 + 11)], h)) rfl ?_
      obtain ⟨hg, ho⟩ := qm_ifn ho
      refine qm_Ret.gn (f1 := (46, [some (qm_r 0 12 a0), some (qm_l ld1), none, some (qm_i xd3), some (qm_i x4), some (qm_i x5)], [], (qm_seti h (a0 + 11) (x5).toNatClampNeg (-1 : Int32)))) hg rfl ?_
      refine qm_Ret.lets (F := fun h11 => (46, [some (qm_r 0 12 a0), some (qm_l ld1), none, some (qm_i xd3), some (qm_i x4), some (qm_i x5)], [], h11)) (G := qm_Gi) ho (fun h11 ho => ?_)
      refine qm_Ret.sts 2 (f' := (32, [some (qm_r 0 12 a0), some (qm_l ld1), none, some (qm_i xd3), some (qm_i x4), some (qm_i (x5 + (1 : Int32)))], [], h11)) rfl ?_
      exact ih ho
    · rw [if_neg hc] at ho
      refine qm_Ret.sts 3 (f' := (57, [some (qm_r 0 12 a0), some (qm_l ld1), none, some (qm_i xd3), some (qm_i x4), some (qm_i (1 : Int32))], [qm_i x4], h)) rfl ?_
      refine qm_Ret.ne (t := 103) (e := 60) rfl (fun hc => ?_) (fun hc => ?_)
      · rw [if_pos hc] at ho
        refine qm_Ret.sts 4 (f' := (65, [some (qm_r 0 12 a0), some (qm_l ld1), none, some (qm_i xd3), some (qm_i x4), some (qm_i (1 : Int32))], [qm_i (8 : Int32), qm_i (1 : Int32), qm_i (1 : Int32), qm_r 0 12 a0], h)) rfl ?_
        obtain ⟨r6, h5, hr, ho⟩ := qm_b2e ho
        refine qm_Ret.call (X := wX12_take [qm_r 0 12 a0, qm_i (1 : Int32), qm_i (1 : Int32), qm_i (8 : Int32)] h) (o1 := (some (qm_i r6), h5)) (qm_mp (G := qm_Gi) hr) rfl ?_
        show qm_Ret _ (68, [some (qm_r 0 12 a0), some (qm_l ld1), none, some (qm_i xd3), some (qm_i x4), some (qm_i (1 : Int32))], [qm_i r6], h5) _
        refine qm_Ret.eq (t := 97) (e := 71) rfl (fun hc => ?_) (fun hc => ?_)
        · rw [if_pos hc] at ho
          refine qm_Ret.sts 3 (f' := (159, [some (qm_r 0 12 a0), some (qm_l ld1), none, some (qm_i xd3), some (qm_i x4), some (qm_i (0 : Int32))], [], h5)) rfl ?_
          exact rX12_yearLine_159 ho
        · rw [if_neg hc] at ho
          refine qm_Ret.sts 4 (f' := (76, [some (qm_r 0 12 a0), some (qm_l ld1), none, some (qm_i xd3), some (qm_i x4), some (qm_i (1 : Int32))], [qm_i (8 : Int32), qm_i (1 : Int32), qm_i (2 : Int32), qm_r 0 12 a0], h5)) rfl ?_
          obtain ⟨r8, h7, hr, ho⟩ := qm_b2e ho
          refine qm_Ret.call (X := wX12_take [qm_r 0 12 a0, qm_i (2 : Int32), qm_i (1 : Int32), qm_i (8 : Int32)] h5) (o1 := (some (qm_i r8), h7)) (qm_mp (G := qm_Gi) hr) rfl ?_
          show qm_Ret _ (79, [some (qm_r 0 12 a0), some (qm_l ld1), none, some (qm_i xd3), some (qm_i x4), some (qm_i (1 : Int32))], [qm_i r8], h7) _
          refine qm_Ret.eq (t := 97) (e := 82) rfl (fun hc => ?_) (fun hc => ?_)
          · rw [if_pos hc] at ho
            refine qm_Ret.sts 3 (f' := (159, [some (qm_r 0 12 a0), some (qm_l ld1), none, some (qm_i xd3), some (qm_i x4), some (qm_i (0 : Int32))], [], h7)) rfl ?_
            exact rX12_yearLine_159 ho
          · rw [if_neg hc] at ho
            refine qm_Ret.sts 4 (f' := (87, [some (qm_r 0 12 a0), some (qm_l ld1), none, some (qm_i xd3), some (qm_i x4), some (qm_i (1 : Int32))], [qm_i (99 : Int32), qm_i (0 : Int32), qm_i (3 : Int32), qm_r 0 12 a0], h7)) rfl ?_
            obtain ⟨r10, h9, hr, ho⟩ := qm_b2e ho
            refine qm_Ret.call (X := wX12_take [qm_r 0 12 a0, qm_i (3 : Int32), qm_i (0 : Int32), qm_i (99 : Int32)] h7) (o1 := (some (qm_i r10), h9)) (qm_mp (G := qm_Gi) hr) rfl ?_
            show qm_Ret _ (90, [some (qm_r 0 12 a0), some (qm_l ld1), none, some (qm_i xd3), some (qm_i x4), some (qm_i (1 : Int32))], [qm_i r10], h9) _
            refine qm_Ret.eq (t := 97) (e := 93) rfl (fun hc => ?_) (fun hc => ?_)
            · rw [if_pos hc] at ho
              refine qm_Ret.sts 3 (f' := (159, [some (qm_r 0 12 a0), some (qm_l ld1), none, some (qm_i xd3), some (qm_i x4), some (qm_i (0 : Int32))], [], h9)) rfl ?_
              exact rX12_yearLine_159 ho
            · rw [if_neg hc] at ho
              refine qm_Ret.sts 4 (f' := (159, [some (qm_r 0 12 a0), some (qm_l ld1), none, some (qm_i xd3), some (qm_i x4), some (qm_i (1 : Int32))], [], h9)) rfl ?_
              exact rX12_yearLine_159 ho
      · rw [if_neg hc] at ho
        refine qm_Ret.sts 2 (f' := (106, [some (qm_r 0 12 a0), some (qm_l ld1), none, some (qm_i xd3), some (qm_i x4), some (qm_i (1 : Int32))], [qm_i (3 : Int32), qm_i x4], h)) rfl ?_
        refine qm_Ret.ne (t := 141) (e := 109) rfl (fun hc => ?_) (fun hc => ?_)
        · rw [if_pos hc] at ho
          refine qm_Ret.sts 4 (f' := (114, [some (qm_r 0 12 a0), some (qm_l ld1), none, some (qm_i xd3), some (qm_i x4), some (qm_i (1 : Int32))], [qm_i (7 : Int32), qm_i (0 : Int32), qm_i (1 : Int32), qm_r 0 12 a0], h)) rfl ?_
          obtain ⟨r2, h1, hr, ho⟩ := qm_b2e ho
          refine qm_Ret.call (X := wX12_take [qm_r 0 12 a0, qm_i (1 : Int32), qm_i (0 : Int32), qm_i (7 : Int32)] h) (o1 := (some (qm_i r2), h1)) (qm_mp (G := qm_Gi) hr) rfl ?_
          show qm_Ret _ (117, [some (qm_r 0 12 a0), some (qm_l ld1), none, some (qm_i xd3), some (qm_i x4), some (qm_i (1 : Int32))], [qm_i r2], h1) _
          refine qm_Ret.eq (t := 135) (e := 120) rfl (fun hc => ?_) (fun hc => ?_)
          · rw [if_pos hc] at ho
            refine qm_Ret.sts 3 (f' := (159, [some (qm_r 0 12 a0), some (qm_l ld1), none, some (qm_i xd3), some (qm_i x4), some (qm_i (0 : Int32))], [], h1)) rfl ?_
            exact rX12_yearLine_159 ho
          · rw [if_neg hc] at ho
            refine qm_Ret.sts 4 (f' := (125, [some (qm_r 0 12 a0), some (qm_l ld1), none, some (qm_i xd3), some (qm_i x4), some (qm_i (1 : Int32))], [qm_i (7 : Int32), qm_i (0 : Int32), qm_i (2 : Int32), qm_r 0 12 a0], h1)) rfl ?_
            obtain ⟨r4, h3, hr, ho⟩ := qm_b2e ho
            refine qm_Ret.call (X := wX12_take [qm_r 0 12 a0, qm_i (2 : Int32), qm_i (0 : Int32), qm_i (7 : Int32)] h1) (o1 := (some (qm_i r4), h3)) (qm_mp (G := qm_Gi) hr) rfl ?_
            show qm_Ret _ (128, [some (qm_r 0 12 a0), some (qm_l ld1), none, some (qm_i xd3), some (qm_i x4), some (qm_i (1 : Int32))], [qm_i r4], h3) _
            refine qm_Ret.eq (t := 135) (e := 131) rfl (fun hc => ?_) (fun hc => ?_)
            · rw [if_pos hc] at ho
              refine qm_Ret.sts 3 (f' := (159, [some (qm_r 0 12 a0), some (qm_l ld1), none, some (qm_i xd3), some (qm_i x4), some (qm_i (0 : Int32))], [], h3)) rfl ?_
              exact rX12_yearLine_159 ho
            · rw [if_neg hc] at ho
              refine qm_Ret.sts 4 (f' := (159, [some (qm_r 0 12 a0), some (qm_l ld1), none, some (qm_i xd3), some (qm_i x4), some (qm_i (1 : Int32))], [], h3)) rfl ?_
              exact rX12_yearLine_159 ho
        · rw [if_neg hc] at ho
          refine qm_Ret.sts 2 (f' := (144, [some (qm_r 0 12 a0), some (qm_l ld1), none, some (qm_i xd3), some (qm_i x4), some (qm_i (1 : Int32))], [qm_i (1 : Int32), qm_i x4], h)) rfl ?_
          refine qm_Ret.eq (t := 153) (e := 147) rfl (fun hc => ?_) (fun hc => ?_)
          · rw [if_pos hc] at ho
            exact rX12_yearLine_153 ho
          · rw [if_neg hc] at ho
            refine qm_Ret.sts 2 (f' := (150, [some (qm_r 0 12 a0), some (qm_l ld1), none, some (qm_i xd3), some (qm_i x4), some (qm_i (1 : Int32))], [qm_i (2 : Int32), qm_i x4], h)) rfl ?_
            refine qm_Ret.ne (t := 159) (e := 153) rfl (fun hc => ?_) (fun hc => ?_)
            · rw [if_pos hc] at ho
              exact rX12_yearLine_153 ho
            · rw [if_neg hc] at ho
              exact rX12_yearLine_159 ho
set_option maxRecDepth 20000 in
set_option maxHeartbeats 2000000 in
theorem rX12_yearLine_0   {a0 : Nat} {l1 : Int64} {x3 : Int32} {h : qm_H} {r : Int32 × qm_H} (ho : qX12_yearLine  a0 l1 x3 h = some r) : qm_Ret mX12_yearLine (0, [some (qm_r 0 12 a0), some (qm_l l1), none, some (qm_i x3), none, none], [], h) (qm_Gi r) := by
  unfold qX12_yearLine at ho
  refine qm_Ret.sts 1 (f' := (1, [some (qm_r 0 12 a0), some (qm_l l1), none, some (qm_i x3), none, none], [qm_l l1], h)) rfl ?_
  obtain ⟨r2, h1, hr, ho⟩ := qm_b2e ho
  refine qm_Ret.call (X := wX12_deedBy [qm_l l1] h) (o1 := (some (qm_i r2), h1)) (qm_mp (G := qm_Gi) hr) rfl ?_
  show qm_Ret _ (4, [some (qm_r 0 12 a0), some (qm_l l1), none, some (qm_i x3), none, none], [qm_i r2], h1) _
  refine qm_Ret.sts 3 (f' := (9, [some (qm_r 0 12 a0), some (qm_l l1), none, some (qm_i x3), some (qm_i r2), none], [qm_i (-1 : Int32), qm_i r2], h1)) rfl ?_
  refine qm_Ret.ne (t := 17) (e := 12) rfl (fun hc => ?_) (fun hc => ?_)
  · rw [if_pos hc] at ho
    refine qm_Ret.sts 1 (f' := (13, [some (qm_r 0 12 a0), some (qm_l l1), none, some (qm_i x3), some (qm_i r2), none], [qm_r 0 12 a0], h1)) rfl ?_
    obtain ⟨r6, h5, hr, ho⟩ := qm_b2e ho
    refine qm_Ret.call (X := wX12_fails [qm_r 0 12 a0] h1) (o1 := (some (qm_i r6), h5)) (qm_mp (G := qm_Gi) hr) rfl ?_
    show qm_Ret _ (16, [some (qm_r 0 12 a0), some (qm_l l1), none, some (qm_i x3), some (qm_i r2), none], [qm_i r6], h5) _
    obtain ⟨hz, ho⟩ := qm_if ho
    cases ho
    exact qm_Ret.gr hz rfl
  · rw [if_neg hc] at ho
    refine qm_Ret.sts 4 (f' := (22, [some (qm_r 0 12 a0), some (qm_l l1), none, some (qm_i x3), some (qm_i r2), none], [qm_i x3, qm_i (40 : Int32), qm_i (0 : Int32), qm_r 0 12 a0], h1)) rfl ?_
    obtain ⟨h3, hr, ho⟩ := qm_bd ho
    refine qm_Ret.call (X := wX12_full [qm_r 0 12 a0, qm_i (0 : Int32), qm_i (40 : Int32), qm_i x3] h1) (o1 := (none, h3)) (qm_mp (G := qm_Gv) hr) rfl ?_
    show qm_Ret _ (25, [some (qm_r 0 12 a0), some (qm_l l1), none, some (qm_i x3), some (qm_i r2), none], [], h3) _
    refine qm_Ret.sts 1 (f' := (26, [some (qm_r 0 12 a0), some (qm_l l1), none, some (qm_i x3), some (qm_i r2), none], [qm_r 0 12 a0], h3)) rfl ?_
    obtain ⟨h4, hr, ho⟩ := qm_bd ho
    refine qm_Ret.call (X := wX12_token [qm_r 0 12 a0] h3) (o1 := (none, h4)) (qm_mp (G := qm_Gv) hr) rfl ?_
    show qm_Ret _ (29, [some (qm_r 0 12 a0), some (qm_l l1), none, some (qm_i x3), some (qm_i r2), none], [], h4) _
    refine qm_Ret.sts 2 (f' := (32, [some (qm_r 0 12 a0), some (qm_l l1), none, some (qm_i x3), some (qm_i r2), some (qm_i (1 : Int32))], [], h4)) rfl ?_
    exact rX12_yearLine_32 ho
theorem cX12_yearLine_ok : ∀ q ∈ ([(215, 0, 5, wX12_keep), (212, 0, 1, wX12_takeSide), (155, 0, 4, wX12_take), (204, 2, 1, wX12_deedBy), (208, 0, 4, wX12_full), (152, 0, 1, wX12_token), (140, 0, 1, wX12_fails)] : List (Nat × Nat × Nat × qm_C)), qm_CallOK RX12 4 87 q.2.1 q.1 q.2.2.1 q.2.2.2 := List.forall_mem_cons.mpr ⟨Or.inl ⟨yX12_keep, cX12_keep, 7, none, 0, 0, _, sX12_keep, ⟨by decide, by decide⟩, ⟨jX12_keep, kRX12_215, uRX12⟩, ⟨by decide, by decide, rfl⟩, Or.inl ⟨rfl, rfl, iX12_keep, recvX12_keep⟩⟩, List.forall_mem_cons.mpr ⟨Or.inl ⟨yX12_takeSide, cX12_takeSide, 1, (some .boolean), 3, 67, _, sX12_takeSide, ⟨by decide, by decide⟩, ⟨jX12_takeSide, kRX12_212, uRX12⟩, ⟨by decide, by decide, rfl⟩, Or.inl ⟨rfl, rfl, iX12_takeSide, recvX12_takeSide⟩⟩, List.forall_mem_cons.mpr ⟨Or.inl ⟨yX12_take, cX12_take, 4, (some .boolean), 2, 44, _, sX12_take, ⟨by decide, by decide⟩, ⟨jX12_take, kRX12_155, uRX12⟩, ⟨by decide, by decide, rfl⟩, Or.inl ⟨rfl, rfl, iX12_take, recvX12_take⟩⟩, List.forall_mem_cons.mpr ⟨Or.inl ⟨yX12_deedBy, cX12_deedBy, 2, (some .int), 0, 0, _, sX12_deedBy, ⟨by decide, by decide⟩, ⟨jX12_deedBy, kRX12_204, uRX12⟩, ⟨by decide, by decide, rfl⟩, Or.inr (Or.inl ⟨rfl, rfl, iX12_deedBy⟩)⟩, List.forall_mem_cons.mpr ⟨Or.inl ⟨yX12_full, cX12_full, 4, none, 1, 22, _, sX12_full, ⟨by decide, by decide⟩, ⟨jX12_full, kRX12_208, uRX12⟩, ⟨by decide, by decide, rfl⟩, Or.inl ⟨rfl, rfl, iX12_full, recvX12_full⟩⟩, List.forall_mem_cons.mpr ⟨Or.inl ⟨yX12_token, cX12_token, 3, none, 1, 22, _, sX12_token, ⟨by decide, by decide⟩, ⟨jX12_token, kRX12_152, uRX12⟩, ⟨by decide, by decide, rfl⟩, Or.inl ⟨rfl, rfl, iX12_token, recvX12_token⟩⟩, List.forall_mem_cons.mpr ⟨Or.inl ⟨yX12_fails, cX12_fails, 1, (some .boolean), 0, 0, _, sX12_fails, ⟨by decide, by decide⟩, ⟨jX12_fails, kRX12_140, uRX12⟩, ⟨by decide, by decide, rfl⟩, Or.inl ⟨rfl, rfl, iX12_fails, recvX12_fails⟩⟩, fun _ h => absurd h List.not_mem_nil⟩⟩⟩⟩⟩⟩⟩
theorem sX12_yearLine : qm_Snd yX12_yearLine cX12_yearLine 6 (some .boolean) 4 87 wX12_yearLine := qm_met (fld := fun k => qm_lk k pfRX12) (con := fun k => qm_lk k pcRX12) (call := fun k => qm_lk k [(215, 0, 5, wX12_keep), (212, 0, 1, wX12_takeSide), (155, 0, 4, wX12_take), (204, 2, 1, wX12_deedBy), (208, 0, 4, wX12_full), (152, 0, 1, wX12_token), (140, 0, 1, wX12_fails)]) (tab := qm_tab aX12_yearLine) (plainFor_of_name (by decide)) (qm_fld_ok pfRX12_ok) (qm_con_ok pcRX12_ok) (fun idx kd n f hc => cX12_yearLine_ok (idx, kd, n, f) (qm_lk_mem hc)) (qm_tab_ok aX12_yearLine_ok) (fun vs h o hw => by
  unfold wX12_yearLine at hw
  split at hw
  · obtain ⟨r, hr, rfl⟩ := Option.map_eq_some_iff.mp hw
    exact ⟨Nat.le_of_ble_eq_true rfl, rX12_yearLine_0 (hr)⟩
  · cases hw)
theorem recvX12_yearLine : ∀ vs h o, wX12_yearLine vs h = some o → ∃ ci a rest, vs = qm_r 0 ci a :: rest ∧ qm_R ci = yX12_yearLine.cls := by
  intro vs h o hw
  unfold wX12_yearLine at hw
  split at hw
  · exact ⟨_, _, _, rfl, rfl⟩
  · cases hw
-- RX12 parishLine(JI)Z
theorem jX12_parishLine : Jvm.Cond.code yX12_parishLine cX12_parishLine 4 (some .boolean) ∈ qm_all := List.mem_filter.mpr ⟨by decide +kernel, rfl⟩
theorem iX12_parishLine : Jvm.Cond.instanceMethod yX12_parishLine ∈ qm_all ∧ Jvm.Cond.selects yX12_parishLine.cls yX12_parishLine yX12_parishLine ∈ qm_all := ⟨List.mem_filter.mpr ⟨by decide +kernel, rfl⟩, List.mem_filter.mpr ⟨by decide +kernel, rfl⟩⟩
def wX12_parishLine : qm_C := fun vs h => match vs with
  | [.inr (.inr (some (0, 12, p0))), .inr (.inl p1), .inl p2] => (qX12_parishLine p0 p1 p2 h).map qm_Gi
  | _ => none
def aX12_parishLine : List (Option (Instr × Nat)) := [some (.lload_n 1, 1), some (.ldc2_w 176, 3), none, none, some (.lcmp, 1), some (.ifCond .eq 24, 3), none, none, some (.lload_n 1, 1), some (.ldc2_w 219, 3), none, none, some (.lcmp, 1), some (.ifCond .eq 16, 3), none, none, some (.lload_n 1, 1), some (.ldc2_w 221, 3), none, none, some (.lcmp, 1), some (.ifCond .eq 8, 3), none, none, some (.aload_n 0, 1), some (.invokevirtual 140, 3), none, none, some (.ireturn, 1), some (.lload_n 1, 1), some (.ldc2_w 221, 3), none, none, some (.lcmp, 1), some (.ifCond .eq 36, 3), none, none, some (.aload_n 0, 1), some (.lload_n 1, 1), some (.ldc2_w 176, 3), none, none, some (.lcmp, 1), some (.ifCond .ne 7, 3), none, none, some (.iconst 0, 1), some (.goto 4, 3), none, none, some (.iconst 1, 1), some (.lload_n 1, 1), some (.ldc2_w 176, 3), none, none, some (.lcmp, 1), some (.ifCond .ne 8, 3), none, none, some (.bipush 6, 2), none, some (.goto 5, 3), none, none, some (.bipush 8, 2), none, some (.iload_n 3, 1), some (.invokevirtual 208, 3), none, none, some (.aload_n 0, 1), some (.invokevirtual 152, 3), none, none, some (.aload_n 0, 1), some (.iconst 0, 1), some (.iconst 1, 1), some (.lload_n 1, 1), some (.ldc2_w 221, 3), none, none, some (.lcmp, 1), some (.ifCond .ne 8, 3), none, none, some (.bipush 9, 2), none, some (.goto 5, 3), none, none, some (.bipush 60, 2), none, some (.invokevirtual 155, 3), none, none, some (.ifCond .ne 5, 3), none, none, some (.iconst 0, 1), some (.ireturn, 1), some (.lload_n 1, 1), some (.ldc2_w 221, 3), none, none, some (.lcmp, 1), some (.ifCond .ne 18, 3), none, none, some (.aload_n 0, 1), some (.getfield 38, 3), none, none, some (.iconst 2, 1), some (.aload_n 0, 1), some (.getfield 41, 3), none, none, some (.iconst 0, 1), some (.iaload, 1), some (.iastore, 1), some (.goto 50, 3), none, none, some (.aload_n 0, 1), some (.lload_n 1, 1), some (.ldc2_w 176, 3), none, none, some (.lcmp, 1), some (.ifCond .ne 7, 3), none, none, some (.iconst 0, 1), some (.goto 4, 3), none, none, some (.iconst 1, 1), some (.lload_n 1, 1), some (.ldc2_w 176, 3), none, none, some (.lcmp, 1), some (.ifCond .ne 7, 3), none, none, some (.iconst 3, 1), some (.goto 5, 3), none, none, some (.bipush 9, 2), none, some (.iconst 1, 1), some (.lload_n 1, 1), some (.ldc2_w 176, 3), none, none, some (.lcmp, 1), some (.ifCond .ne 8, 3), none, none, some (.bipush 6, 2), none, some (.goto 5, 3), none, none, some (.bipush 8, 2), none, some (.invokevirtual 215, 3), none, none, some (.iconst 1, 1), some (.ireturn, 1)]
theorem aX12_parishLine_ok : qm_tabok cX12_parishLine aX12_parishLine = true := by decide +kernel
def mX12_parishLine : qm_M := ((some .boolean), (fun k => qm_lk k pfRX12), (fun k => qm_lk k pcRX12), (fun k => qm_lk k [(215, 0, 5, wX12_keep), (155, 0, 4, wX12_take), (152, 0, 1, wX12_token), (208, 0, 4, wX12_full), (140, 0, 1, wX12_fails)]), qm_tab aX12_parishLine)
set_option maxRecDepth 20000 in
set_option maxHeartbeats 2000000 in
theorem rX12_parishLine_167   {xs0 : Int32} {xs1 : Int32} {xs2 : Int32} {xs3 : Int32} {as4 : Nat} {ad0 : Nat} {ld1 : Int64} {xd3 : Int32} {h : qm_H} {r : Int32 × qm_H} (ho : qX12_parishLine_167  xs0 xs1 xs2 xs3 as4 h = some r) : qm_Ret mX12_parishLine (167, [some (qm_r 0 12 ad0), some (qm_l ld1), none, some (qm_i xd3)], [qm_i xs0, qm_i xs1, qm_i xs2, qm_i xs3, qm_r 0 12 as4], h) (qm_Gi r) := by
  unfold qX12_parishLine_167 at ho
  obtain ⟨h1, hr, ho⟩ := qm_bd ho
  refine qm_Ret.call (X := wX12_keep [qm_r 0 12 as4, qm_i xs3, qm_i xs2, qm_i xs1, qm_i xs0] h) (o1 := (none, h1)) (qm_mp (G := qm_Gv) hr) rfl ?_
  show qm_Ret _ (170, [some (qm_r 0 12 ad0), some (qm_l ld1), none, some (qm_i xd3)], [], h1) _
  cases ho
  exact qm_Ret.ret 2 rfl
set_option maxRecDepth 20000 in
set_option maxHeartbeats 2000000 in
theorem rX12_parishLine_137   {l1 : Int64} {xs0 : Int32} {as1 : Nat} {ad0 : Nat} {xd3 : Int32} {h : qm_H} {r : Int32 × qm_H} (ho : qX12_parishLine_137  l1 xs0 as1 h = some r) : qm_Ret mX12_parishLine (137, [some (qm_r 0 12 ad0), some (qm_l l1), none, some (qm_i xd3)], [qm_i xs0, qm_r 0 12 as1], h) (qm_Gi r) := by
  unfold qX12_parishLine_137 at ho
  refine qm_Ret.sts 3 (f' := (142, [some (qm_r 0 12 ad0), some (qm_l l1), none, some (qm_i xd3)], [qm_i (lg_cmp l1 (7499620 : Int64)), qm_i xs0, qm_r 0 12 as1], h)) rfl ?_
  refine qm_Ret.ne (t := 149) (e := 145) rfl (fun hc => ?_) (fun hc => ?_)
  · rw [if_pos hc] at ho
    refine qm_Ret.sts 6 (f' := (157, [some (qm_r 0 12 ad0), some (qm_l l1), none, some (qm_i xd3)], [qm_i (lg_cmp l1 (7499620 : Int64)), qm_i (1 : Int32), qm_i (3 : Int32), qm_i xs0, qm_r 0 12 as1], h)) rfl ?_
    refine qm_Ret.ne (t := 165) (e := 160) rfl (fun hc => ?_) (fun hc => ?_)
    · rw [if_pos hc] at ho
      refine qm_Ret.sts 2 (f' := (167, [some (qm_r 0 12 ad0), some (qm_l l1), none, some (qm_i xd3)], [qm_i (6 : Int32), qm_i (1 : Int32), qm_i (3 : Int32), qm_i xs0, qm_r 0 12 as1], h)) rfl ?_
      exact rX12_parishLine_167 ho
    · rw [if_neg hc] at ho
      refine qm_Ret.sts 1 (f' := (167, [some (qm_r 0 12 ad0), some (qm_l l1), none, some (qm_i xd3)], [qm_i (8 : Int32), qm_i (1 : Int32), qm_i (3 : Int32), qm_i xs0, qm_r 0 12 as1], h)) rfl ?_
      exact rX12_parishLine_167 ho
  · rw [if_neg hc] at ho
    refine qm_Ret.sts 5 (f' := (157, [some (qm_r 0 12 ad0), some (qm_l l1), none, some (qm_i xd3)], [qm_i (lg_cmp l1 (7499620 : Int64)), qm_i (1 : Int32), qm_i (9 : Int32), qm_i xs0, qm_r 0 12 as1], h)) rfl ?_
    refine qm_Ret.ne (t := 165) (e := 160) rfl (fun hc => ?_) (fun hc => ?_)
    · rw [if_pos hc] at ho
      refine qm_Ret.sts 2 (f' := (167, [some (qm_r 0 12 ad0), some (qm_l l1), none, some (qm_i xd3)], [qm_i (6 : Int32), qm_i (1 : Int32), qm_i (9 : Int32), qm_i xs0, qm_r 0 12 as1], h)) rfl ?_
      exact rX12_parishLine_167 ho
    · rw [if_neg hc] at ho
      refine qm_Ret.sts 1 (f' := (167, [some (qm_r 0 12 ad0), some (qm_l l1), none, some (qm_i xd3)], [qm_i (8 : Int32), qm_i (1 : Int32), qm_i (9 : Int32), qm_i xs0, qm_r 0 12 as1], h)) rfl ?_
      exact rX12_parishLine_167 ho
set_option maxRecDepth 20000 in
set_option maxHeartbeats 2000000 in
theorem rX12_parishLine_92   {a0 : Nat} {l1 : Int64} {xs0 : Int32} {xs1 : Int32} {xs2 : Int32} {as3 : Nat} {xd3 : Int32} {h : qm_H} {r : Int32 × qm_H} (ho : qX12_parishLine_92  a0 l1 xs0 xs1 xs2 as3 h = some r) : qm_Ret mX12_parishLine (92, [some (qm_r 0 12 a0), some (qm_l l1), none, some (qm_i xd3)], [qm_i xs0, qm_i xs1, qm_i xs2, qm_r 0 12 as3], h) (qm_Gi r) := by
  unfold qX12_parishLine_92 at ho
  obtain ⟨r2, h1, hr, ho⟩ := qm_b2e ho
  refine qm_Ret.call (X := wX12_take [qm_r 0 12 as3, qm_i xs2, qm_i xs1, qm_i xs0] h) (o1 := (some (qm_i r2), h1)) (qm_mp (G := qm_Gi) hr) rfl ?_
  show qm_Ret _ (95, [some (qm_r 0 12 a0), some (qm_l l1), none, some (qm_i xd3)], [qm_i r2], h1) _
  refine qm_Ret.ne (t := 100) (e := 98) rfl (fun hc => ?_) (fun hc => ?_)
  · rw [if_pos hc] at ho
    cases ho
    exact qm_Ret.ret 2 rfl
  · rw [if_neg hc] at ho
    refine qm_Ret.sts 3 (f' := (105, [some (qm_r 0 12 a0), some (qm_l l1), none, some (qm_i xd3)], [qm_i (lg_cmp l1 (6518132 : Int64))], h1)) rfl ?_
    refine qm_Ret.ne (t := 123) (e := 108) rfl (fun hc => ?_) (fun hc => ?_)
    · rw [if_pos hc] at ho
      refine qm_Ret.sts 8 (f' := (120, [some (qm_r 0 12 a0), some (qm_l l1), none, some (qm_i xd3)], [], (qm_seti h1 (a0 + 10) (2 : Int32).toNatClampNeg (h1.1 (a0 + 11) (0 : Int32).toNatClampNeg)))) rfl ?_
      refine qm_Ret.lets (F := fun h3 => (120, [some (qm_r 0 12 a0), some (qm_l l1), none, some (qm_i xd3)], [], h3)) (G := qm_Gi) ho (fun h3 ho => ?_)
      cases ho
      exact qm_Ret.ret 3 rfl
    · rw [if_neg hc] at ho
      refine qm_Ret.sts 4 (f' := (129, [some (qm_r 0 12 a0), some (qm_l l1), none, some (qm_i xd3)], [qm_i (lg_cmp l1 (7499620 : Int64)), qm_r 0 12 a0], h1)) rfl ?_
      refine qm_Ret.ne (t := 136) (e := 132) rfl (fun hc => ?_) (fun hc => ?_)
      · rw [if_pos hc] at ho
        refine qm_Ret.sts 2 (f' := (137, [some (qm_r 0 12 a0), some (qm_l l1), none, some (qm_i xd3)], [qm_i (0 : Int32), qm_r 0 12 a0], h1)) rfl ?_
        exact rX12_parishLine_137 ho
      · rw [if_neg hc] at ho
        refine qm_Ret.sts 1 (f' := (137, [some (qm_r 0 12 a0), some (qm_l l1), none, some (qm_i xd3)], [qm_i (1 : Int32), qm_r 0 12 a0], h1)) rfl ?_
        exact rX12_parishLine_137 ho
set_option maxRecDepth 20000 in
set_option maxHeartbeats 2000000 in
theorem rX12_parishLine_70   {a0 : Nat} {l1 : Int64} {xd3 : Int32} {h : qm_H} {r : Int32 × qm_H} (ho : qX12_parishLine_70  a0 l1 h = some r) : qm_Ret mX12_parishLine (70, [some (qm_r 0 12 a0), some (qm_l l1), none, some (qm_i xd3)], [], h) (qm_Gi r) := by
  unfold qX12_parishLine_70 at ho
  refine qm_Ret.sts 1 (f' := (71, [some (qm_r 0 12 a0), some (qm_l l1), none, some (qm_i xd3)], [qm_r 0 12 a0], h)) rfl ?_
  obtain ⟨h1, hr, ho⟩ := qm_bd ho
  refine qm_Ret.call (X := wX12_token [qm_r 0 12 a0] h) (o1 := (none, h1)) (qm_mp (G := qm_Gv) hr) rfl ?_
  show qm_Ret _ (74, [some (qm_r 0 12 a0), some (qm_l l1), none, some (qm_i xd3)], [], h1) _
  refine qm_Ret.sts 6 (f' := (82, [some (qm_r 0 12 a0), some (qm_l l1), none, some (qm_i xd3)], [qm_i (lg_cmp l1 (6518132 : Int64)), qm_i (1 : Int32), qm_i (0 : Int32), qm_r 0 12 a0], h1)) rfl ?_
  refine qm_Ret.ne (t := 90) (e := 85) rfl (fun hc => ?_) (fun hc => ?_)
  · rw [if_pos hc] at ho
    refine qm_Ret.sts 2 (f' := (92, [some (qm_r 0 12 a0), some (qm_l l1), none, some (qm_i xd3)], [qm_i (9 : Int32), qm_i (1 : Int32), qm_i (0 : Int32), qm_r 0 12 a0], h1)) rfl ?_
    exact rX12_parishLine_92 ho
  · rw [if_neg hc] at ho
    refine qm_Ret.sts 1 (f' := (92, [some (qm_r 0 12 a0), some (qm_l l1), none, some (qm_i xd3)], [qm_i (60 : Int32), qm_i (1 : Int32), qm_i (0 : Int32), qm_r 0 12 a0], h1)) rfl ?_
    exact rX12_parishLine_92 ho
set_option maxRecDepth 20000 in
set_option maxHeartbeats 2000000 in
theorem rX12_parishLine_66   {a0 : Nat} {l1 : Int64} {x3 : Int32} {xs0 : Int32} {xs1 : Int32} {as2 : Nat} {h : qm_H} {r : Int32 × qm_H} (ho : qX12_parishLine_66  a0 l1 x3 xs0 xs1 as2 h = some r) : qm_Ret mX12_parishLine (66, [some (qm_r 0 12 a0), some (qm_l l1), none, some (qm_i x3)], [qm_i xs0, qm_i xs1, qm_r 0 12 as2], h) (qm_Gi r) := by
  unfold qX12_parishLine_66 at ho
  refine qm_Ret.sts 1 (f' := (67, [some (qm_r 0 12 a0), some (qm_l l1), none, some (qm_i x3)], [qm_i x3, qm_i xs0, qm_i xs1, qm_r 0 12 as2], h)) rfl ?_
  obtain ⟨h1, hr, ho⟩ := qm_bd ho
  refine qm_Ret.call (X := wX12_full [qm_r 0 12 as2, qm_i xs1, qm_i xs0, qm_i x3] h) (o1 := (none, h1)) (qm_mp (G := qm_Gv) hr) rfl ?_
  show qm_Ret _ (70, [some (qm_r 0 12 a0), some (qm_l l1), none, some (qm_i x3)], [], h1) _
  exact rX12_parishLine_70 ho
set_option maxRecDepth 20000 in
set_option maxHeartbeats 2000000 in
theorem rX12_parishLine_29   {a0 : Nat} {l1 : Int64} {x3 : Int32} {h : qm_H} {r : Int32 × qm_H} (ho : qX12_parishLine_29  a0 l1 x3 h = some r) : qm_Ret mX12_parishLine (29, [some (qm_r 0 12 a0), some (qm_l l1), none, some (qm_i x3)], [], h) (qm_Gi r) := by
  unfold qX12_parishLine_29 at ho
  refine qm_Ret.sts 3 (f' := (34, [some (qm_r 0 12 a0), some (qm_l l1), none, some (qm_i x3)], [qm_i (lg_cmp l1 (6518132 : Int64))], h)) rfl ?_
  refine qm_Ret.eq (t := 70) (e := 37) rfl (fun hc => ?_) (fun hc => ?_)
  · rw [if_pos hc] at ho
    exact rX12_parishLine_70 ho
  · rw [if_neg hc] at ho
    refine qm_Ret.sts 4 (f' := (43, [some (qm_r 0 12 a0), some (qm_l l1), none, some (qm_i x3)], [qm_i (lg_cmp l1 (7499620 : Int64)), qm_r 0 12 a0], h)) rfl ?_
    refine qm_Ret.ne (t := 50) (e := 46) rfl (fun hc => ?_) (fun hc => ?_)
    · rw [if_pos hc] at ho
      refine qm_Ret.sts 5 (f' := (56, [some (qm_r 0 12 a0), some (qm_l l1), none, some (qm_i x3)], [qm_i (lg_cmp l1 (7499620 : Int64)), qm_i (0 : Int32), qm_r 0 12 a0], h)) rfl ?_
      refine qm_Ret.ne (t := 64) (e := 59) rfl (fun hc => ?_) (fun hc => ?_)
      · rw [if_pos hc] at ho
        refine qm_Ret.sts 2 (f' := (66, [some (qm_r 0 12 a0), some (qm_l l1), none, some (qm_i x3)], [qm_i (6 : Int32), qm_i (0 : Int32), qm_r 0 12 a0], h)) rfl ?_
        exact rX12_parishLine_66 ho
      · rw [if_neg hc] at ho
        refine qm_Ret.sts 1 (f' := (66, [some (qm_r 0 12 a0), some (qm_l l1), none, some (qm_i x3)], [qm_i (8 : Int32), qm_i (0 : Int32), qm_r 0 12 a0], h)) rfl ?_
        exact rX12_parishLine_66 ho
    · rw [if_neg hc] at ho
      refine qm_Ret.sts 4 (f' := (56, [some (qm_r 0 12 a0), some (qm_l l1), none, some (qm_i x3)], [qm_i (lg_cmp l1 (7499620 : Int64)), qm_i (1 : Int32), qm_r 0 12 a0], h)) rfl ?_
      refine qm_Ret.ne (t := 64) (e := 59) rfl (fun hc => ?_) (fun hc => ?_)
      · rw [if_pos hc] at ho
        refine qm_Ret.sts 2 (f' := (66, [some (qm_r 0 12 a0), some (qm_l l1), none, some (qm_i x3)], [qm_i (6 : Int32), qm_i (1 : Int32), qm_r 0 12 a0], h)) rfl ?_
        exact rX12_parishLine_66 ho
      · rw [if_neg hc] at ho
        refine qm_Ret.sts 1 (f' := (66, [some (qm_r 0 12 a0), some (qm_l l1), none, some (qm_i x3)], [qm_i (8 : Int32), qm_i (1 : Int32), qm_r 0 12 a0], h)) rfl ?_
        exact rX12_parishLine_66 ho
set_option maxRecDepth 20000 in
set_option maxHeartbeats 2000000 in
theorem rX12_parishLine_0   {a0 : Nat} {l1 : Int64} {x3 : Int32} {h : qm_H} {r : Int32 × qm_H} (ho : qX12_parishLine  a0 l1 x3 h = some r) : qm_Ret mX12_parishLine (0, [some (qm_r 0 12 a0), some (qm_l l1), none, some (qm_i x3)], [], h) (qm_Gi r) := by
  unfold qX12_parishLine at ho
  refine qm_Ret.sts 3 (f' := (5, [some (qm_r 0 12 a0), some (qm_l l1), none, some (qm_i x3)], [qm_i (lg_cmp l1 (7499620 : Int64))], h)) rfl ?_
  refine qm_Ret.eq (t := 29) (e := 8) rfl (fun hc => ?_) (fun hc => ?_)
  · rw [if_pos hc] at ho
    exact rX12_parishLine_29 ho
  · rw [if_neg hc] at ho
    refine qm_Ret.sts 3 (f' := (13, [some (qm_r 0 12 a0), some (qm_l l1), none, some (qm_i x3)], [qm_i (lg_cmp l1 (1852138852 : Int64))], h)) rfl ?_
    refine qm_Ret.eq (t := 29) (e := 16) rfl (fun hc => ?_) (fun hc => ?_)
    · rw [if_pos hc] at ho
      exact rX12_parishLine_29 ho
    · rw [if_neg hc] at ho
      refine qm_Ret.sts 3 (f' := (21, [some (qm_r 0 12 a0), some (qm_l l1), none, some (qm_i x3)], [qm_i (lg_cmp l1 (6518132 : Int64))], h)) rfl ?_
      refine qm_Ret.eq (t := 29) (e := 24) rfl (fun hc => ?_) (fun hc => ?_)
      · rw [if_pos hc] at ho
        exact rX12_parishLine_29 ho
      · rw [if_neg hc] at ho
        refine qm_Ret.sts 1 (f' := (25, [some (qm_r 0 12 a0), some (qm_l l1), none, some (qm_i x3)], [qm_r 0 12 a0], h)) rfl ?_
        obtain ⟨r2, h1, hr, ho⟩ := qm_b2e ho
        refine qm_Ret.call (X := wX12_fails [qm_r 0 12 a0] h) (o1 := (some (qm_i r2), h1)) (qm_mp (G := qm_Gi) hr) rfl ?_
        show qm_Ret _ (28, [some (qm_r 0 12 a0), some (qm_l l1), none, some (qm_i x3)], [qm_i r2], h1) _
        obtain ⟨hz, ho⟩ := qm_if ho
        cases ho
        exact qm_Ret.gr hz rfl
theorem cX12_parishLine_ok : ∀ q ∈ ([(215, 0, 5, wX12_keep), (155, 0, 4, wX12_take), (152, 0, 1, wX12_token), (208, 0, 4, wX12_full), (140, 0, 1, wX12_fails)] : List (Nat × Nat × Nat × qm_C)), qm_CallOK RX12 3 67 q.2.1 q.1 q.2.2.1 q.2.2.2 := List.forall_mem_cons.mpr ⟨Or.inl ⟨yX12_keep, cX12_keep, 7, none, 0, 0, _, sX12_keep, ⟨by decide, by decide⟩, ⟨jX12_keep, kRX12_215, uRX12⟩, ⟨by decide, by decide, rfl⟩, Or.inl ⟨rfl, rfl, iX12_keep, recvX12_keep⟩⟩, List.forall_mem_cons.mpr ⟨Or.inl ⟨yX12_take, cX12_take, 4, (some .boolean), 2, 44, _, sX12_take, ⟨by decide, by decide⟩, ⟨jX12_take, kRX12_155, uRX12⟩, ⟨by decide, by decide, rfl⟩, Or.inl ⟨rfl, rfl, iX12_take, recvX12_take⟩⟩, List.forall_mem_cons.mpr ⟨Or.inl ⟨yX12_token, cX12_token, 3, none, 1, 22, _, sX12_token, ⟨by decide, by decide⟩, ⟨jX12_token, kRX12_152, uRX12⟩, ⟨by decide, by decide, rfl⟩, Or.inl ⟨rfl, rfl, iX12_token, recvX12_token⟩⟩, List.forall_mem_cons.mpr ⟨Or.inl ⟨yX12_full, cX12_full, 4, none, 1, 22, _, sX12_full, ⟨by decide, by decide⟩, ⟨jX12_full, kRX12_208, uRX12⟩, ⟨by decide, by decide, rfl⟩, Or.inl ⟨rfl, rfl, iX12_full, recvX12_full⟩⟩, List.forall_mem_cons.mpr ⟨Or.inl ⟨yX12_fails, cX12_fails, 1, (some .boolean), 0, 0, _, sX12_fails, ⟨by decide, by decide⟩, ⟨jX12_fails, kRX12_140, uRX12⟩, ⟨by decide, by decide, rfl⟩, Or.inl ⟨rfl, rfl, iX12_fails, recvX12_fails⟩⟩, fun _ h => absurd h List.not_mem_nil⟩⟩⟩⟩⟩
theorem sX12_parishLine : qm_Snd yX12_parishLine cX12_parishLine 4 (some .boolean) 3 67 wX12_parishLine := qm_met (fld := fun k => qm_lk k pfRX12) (con := fun k => qm_lk k pcRX12) (call := fun k => qm_lk k [(215, 0, 5, wX12_keep), (155, 0, 4, wX12_take), (152, 0, 1, wX12_token), (208, 0, 4, wX12_full), (140, 0, 1, wX12_fails)]) (tab := qm_tab aX12_parishLine) (plainFor_of_name (by decide)) (qm_fld_ok pfRX12_ok) (qm_con_ok pcRX12_ok) (fun idx kd n f hc => cX12_parishLine_ok (idx, kd, n, f) (qm_lk_mem hc)) (qm_tab_ok aX12_parishLine_ok) (fun vs h o hw => by
  unfold wX12_parishLine at hw
  split at hw
  · obtain ⟨r, hr, rfl⟩ := Option.map_eq_some_iff.mp hw
    exact ⟨Nat.le_of_ble_eq_true rfl, rX12_parishLine_0 (hr)⟩
  · cases hw)
theorem recvX12_parishLine : ∀ vs h o, wX12_parishLine vs h = some o → ∃ ci a rest, vs = qm_r 0 ci a :: rest ∧ qm_R ci = yX12_parishLine.cls := by
  intro vs h o hw
  unfold wX12_parishLine at hw
  split at hw
  · exact ⟨_, _, _, rfl, rfl⟩
  · cases hw
-- RX12 clueLine(JI)Z
theorem jX12_clueLine : Jvm.Cond.code yX12_clueLine cX12_clueLine 5 (some .boolean) ∈ qm_all := List.mem_filter.mpr ⟨by decide +kernel, rfl⟩
theorem iX12_clueLine : Jvm.Cond.instanceMethod yX12_clueLine ∈ qm_all ∧ Jvm.Cond.selects yX12_clueLine.cls yX12_clueLine yX12_clueLine ∈ qm_all := ⟨List.mem_filter.mpr ⟨by decide +kernel, rfl⟩, List.mem_filter.mpr ⟨by decide +kernel, rfl⟩⟩
def wX12_clueLine : qm_C := fun vs h => match vs with
  | [.inr (.inr (some (0, 12, p0))), .inr (.inl p1), .inl p2] => (qX12_clueLine p0 p1 p2 h).map qm_Gi
  | _ => none
def aX12_clueLine : List (Option (Instr × Nat)) := [some (.lload_n 1, 1), some (.ldc2_w 174, 3), none, none, some (.lcmp, 1), some (.ifCond .ne 7, 3), none, none, some (.iconst 0, 1), some (.goto 40, 3), none, none, some (.lload_n 1, 1), some (.ldc2_w 223, 3), none, none, some (.lcmp, 1), some (.ifCond .ne 7, 3), none, none, some (.iconst 1, 1), some (.goto 28, 3), none, none, some (.lload_n 1, 1), some (.ldc2_w 225, 3), none, none, some (.lcmp, 1), some (.ifCond .ne 7, 3), none, none, some (.iconst 2, 1), some (.goto 16, 3), none, none, some (.lload_n 1, 1), some (.ldc2_w 227, 3), none, none, some (.lcmp, 1), some (.ifCond .ne 7, 3), none, none, some (.iconst 3, 1), some (.goto 4, 3), none, none, some (.iconst (-1), 1), some (.istore 4, 2), none, some (.iload 4, 2), none, some (.iconst (-1), 1), some (.if_icmp .ne 16, 3), none, none, some (.lload_n 1, 1), some (.ldc2_w 172, 3), none, none, some (.lcmp, 1), some (.ifCond .eq 8, 3), none, none, some (.aload_n 0, 1), some (.invokevirtual 140, 3), none, none, some (.ireturn, 1), some (.iload 4, 2), none, some (.iconst (-1), 1), some (.if_icmp .eq 11, 3), none, none, some (.aload_n 0, 1), some (.iconst 2, 1), some (.bipush 10, 2), none, some (.iload_n 3, 1), some (.invokevirtual 208, 3), none, none, some (.aload_n 0, 1), some (.invokevirtual 152, 3), none, none, some (.iload 4, 2), none, some (.iconst (-1), 1), some (.if_icmp .ne 8, 3), none, none, some (.aload_n 0, 1), some (.invokevirtual 182, 3), none, none, some (.ireturn, 1), some (.iload 4, 2), none, some (.iconst 2, 1), some (.if_icmp .ge 14, 3), none, none, some (.aload_n 0, 1), some (.iconst 1, 1), some (.invokevirtual 168, 3), none, none, some (.ifCond .ne 30, 3), none, none, some (.goto 25, 3), none, none, some (.aload_n 0, 1), some (.iconst 1, 1), some (.iconst 1, 1), some (.bipush 8, 2), none, some (.invokevirtual 155, 3), none, none, some (.ifCond .eq 14, 3), none, none, some (.aload_n 0, 1), some (.iconst 2, 1), some (.iconst 1, 1), some (.bipush 8, 2), none, some (.invokevirtual 155, 3), none, none, some (.ifCond .ne 5, 3), none, none, some (.iconst 0, 1), some (.ireturn, 1), some (.aload_n 0, 1), some (.getfield 41, 3), none, none, some (.iconst 0, 1), some (.iload 4, 2), none, some (.iastore, 1), some (.aload_n 0, 1), some (.iconst 2, 1), some (.iconst 3, 1), some (.iconst 3, 1), some (.bipush 10, 2), none, some (.invokevirtual 215, 3), none, none, some (.iconst 1, 1), some (.ireturn, 1)]
theorem aX12_clueLine_ok : qm_tabok cX12_clueLine aX12_clueLine = true := by decide +kernel
def mX12_clueLine : qm_M := ((some .boolean), (fun k => qm_lk k pfRX12), (fun k => qm_lk k pcRX12), (fun k => qm_lk k [(215, 0, 5, wX12_keep), (152, 0, 1, wX12_token), (155, 0, 4, wX12_take), (168, 0, 2, wX12_takeCell), (182, 0, 1, wX12_sizeLine), (208, 0, 4, wX12_full), (140, 0, 1, wX12_fails)]), qm_tab aX12_clueLine)
set_option maxRecDepth 20000 in
set_option maxHeartbeats 2000000 in
theorem rX12_clueLine_140   {a0 : Nat} {x4 : Int32} {ld1 : Int64} {xd3 : Int32} {h : qm_H} {r : Int32 × qm_H} (ho : qX12_clueLine_140  a0 x4 h = some r) : qm_Ret mX12_clueLine (140, [some (qm_r 0 12 a0), some (qm_l ld1), none, some (qm_i xd3), some (qm_i x4)], [], h) (qm_Gi r) := by
  unfold qX12_clueLine_140 at ho
  refine qm_Ret.sts 5 (f' := (148, [some (qm_r 0 12 a0), some (qm_l ld1), none, some (qm_i xd3), some (qm_i x4)], [], (qm_seti h (a0 + 11) (0 : Int32).toNatClampNeg x4))) rfl ?_
  refine qm_Ret.lets (F := fun h1 => (148, [some (qm_r 0 12 a0), some (qm_l ld1), none, some (qm_i xd3), some (qm_i x4)], [], h1)) (G := qm_Gi) ho (fun h1 ho => ?_)
  refine qm_Ret.sts 5 (f' := (154, [some (qm_r 0 12 a0), some (qm_l ld1), none, some (qm_i xd3), some (qm_i x4)], [qm_i (10 : Int32), qm_i (3 : Int32), qm_i (3 : Int32), qm_i (2 : Int32), qm_r 0 12 a0], h1)) rfl ?_
  obtain ⟨h2, hr, ho⟩ := qm_bd ho
  refine qm_Ret.call (X := wX12_keep [qm_r 0 12 a0, qm_i (2 : Int32), qm_i (3 : Int32), qm_i (3 : Int32), qm_i (10 : Int32)] h1) (o1 := (none, h2)) (qm_mp (G := qm_Gv) hr) rfl ?_
  show qm_Ret _ (157, [some (qm_r 0 12 a0), some (qm_l ld1), none, some (qm_i xd3), some (qm_i x4)], [], h2) _
  cases ho
  exact qm_Ret.ret 2 rfl
set_option maxRecDepth 20000 in
set_option maxHeartbeats 2000000 in
theorem rX12_clueLine_84   {a0 : Nat} {x4 : Int32} {ld1 : Int64} {xd3 : Int32} {h : qm_H} {r : Int32 × qm_H} (ho : qX12_clueLine_84  a0 x4 h = some r) : qm_Ret mX12_clueLine (84, [some (qm_r 0 12 a0), some (qm_l ld1), none, some (qm_i xd3), some (qm_i x4)], [], h) (qm_Gi r) := by
  unfold qX12_clueLine_84 at ho
  refine qm_Ret.sts 1 (f' := (85, [some (qm_r 0 12 a0), some (qm_l ld1), none, some (qm_i xd3), some (qm_i x4)], [qm_r 0 12 a0], h)) rfl ?_
  obtain ⟨h1, hr, ho⟩ := qm_bd ho
  refine qm_Ret.call (X := wX12_token [qm_r 0 12 a0] h) (o1 := (none, h1)) (qm_mp (G := qm_Gv) hr) rfl ?_
  show qm_Ret _ (88, [some (qm_r 0 12 a0), some (qm_l ld1), none, some (qm_i xd3), some (qm_i x4)], [], h1) _
  refine qm_Ret.sts 2 (f' := (91, [some (qm_r 0 12 a0), some (qm_l ld1), none, some (qm_i xd3), some (qm_i x4)], [qm_i (-1 : Int32), qm_i x4], h1)) rfl ?_
  refine qm_Ret.ne (t := 99) (e := 94) rfl (fun hc => ?_) (fun hc => ?_)
  · rw [if_pos hc] at ho
    refine qm_Ret.sts 1 (f' := (95, [some (qm_r 0 12 a0), some (qm_l ld1), none, some (qm_i xd3), some (qm_i x4)], [qm_r 0 12 a0], h1)) rfl ?_
    obtain ⟨r9, h8, hr, ho⟩ := qm_b2e ho
    refine qm_Ret.call (X := wX12_sizeLine [qm_r 0 12 a0] h1) (o1 := (some (qm_i r9), h8)) (qm_mp (G := qm_Gi) hr) rfl ?_
    show qm_Ret _ (98, [some (qm_r 0 12 a0), some (qm_l ld1), none, some (qm_i xd3), some (qm_i x4)], [qm_i r9], h8) _
    obtain ⟨hz, ho⟩ := qm_if ho
    cases ho
    exact qm_Ret.gr hz rfl
  · rw [if_neg hc] at ho
    refine qm_Ret.sts 2 (f' := (102, [some (qm_r 0 12 a0), some (qm_l ld1), none, some (qm_i xd3), some (qm_i x4)], [qm_i (2 : Int32), qm_i x4], h1)) rfl ?_
    refine qm_Ret.ge (t := 116) (e := 105) rfl (fun hc => ?_) (fun hc => ?_)
    · rw [if_pos hc] at ho
      refine qm_Ret.sts 2 (f' := (107, [some (qm_r 0 12 a0), some (qm_l ld1), none, some (qm_i xd3), some (qm_i x4)], [qm_i (1 : Int32), qm_r 0 12 a0], h1)) rfl ?_
      obtain ⟨r7, h6, hr, ho⟩ := qm_b2e ho
      refine qm_Ret.call (X := wX12_takeCell [qm_r 0 12 a0, qm_i (1 : Int32)] h1) (o1 := (some (qm_i r7), h6)) (qm_mp (G := qm_Gi) hr) rfl ?_
      show qm_Ret _ (110, [some (qm_r 0 12 a0), some (qm_l ld1), none, some (qm_i xd3), some (qm_i x4)], [qm_i r7], h6) _
      refine qm_Ret.ne (t := 140) (e := 113) rfl (fun hc => ?_) (fun hc => ?_)
      · rw [if_pos hc] at ho
        cases ho
        exact qm_Ret.ret 3 rfl
      · rw [if_neg hc] at ho
        exact rX12_clueLine_140 ho
    · rw [if_neg hc] at ho
      refine qm_Ret.sts 4 (f' := (121, [some (qm_r 0 12 a0), some (qm_l ld1), none, some (qm_i xd3), some (qm_i x4)], [qm_i (8 : Int32), qm_i (1 : Int32), qm_i (1 : Int32), qm_r 0 12 a0], h1)) rfl ?_
      obtain ⟨r3, h2, hr, ho⟩ := qm_b2e ho
      refine qm_Ret.call (X := wX12_take [qm_r 0 12 a0, qm_i (1 : Int32), qm_i (1 : Int32), qm_i (8 : Int32)] h1) (o1 := (some (qm_i r3), h2)) (qm_mp (G := qm_Gi) hr) rfl ?_
      show qm_Ret _ (124, [some (qm_r 0 12 a0), some (qm_l ld1), none, some (qm_i xd3), some (qm_i x4)], [qm_i r3], h2) _
      refine qm_Ret.eq (t := 138) (e := 127) rfl (fun hc => ?_) (fun hc => ?_)
      · rw [if_pos hc] at ho
        cases ho
        exact qm_Ret.ret 2 rfl
      · rw [if_neg hc] at ho
        refine qm_Ret.sts 4 (f' := (132, [some (qm_r 0 12 a0), some (qm_l ld1), none, some (qm_i xd3), some (qm_i x4)], [qm_i (8 : Int32), qm_i (1 : Int32), qm_i (2 : Int32), qm_r 0 12 a0], h2)) rfl ?_
        obtain ⟨r5, h4, hr, ho⟩ := qm_b2e ho
        refine qm_Ret.call (X := wX12_take [qm_r 0 12 a0, qm_i (2 : Int32), qm_i (1 : Int32), qm_i (8 : Int32)] h2) (o1 := (some (qm_i r5), h4)) (qm_mp (G := qm_Gi) hr) rfl ?_
        show qm_Ret _ (135, [some (qm_r 0 12 a0), some (qm_l ld1), none, some (qm_i xd3), some (qm_i x4)], [qm_i r5], h4) _
        refine qm_Ret.ne (t := 140) (e := 138) rfl (fun hc => ?_) (fun hc => ?_)
        · rw [if_pos hc] at ho
          cases ho
          exact qm_Ret.ret 2 rfl
        · rw [if_neg hc] at ho
          exact rX12_clueLine_140 ho
set_option maxRecDepth 20000 in
set_option maxHeartbeats 2000000 in
theorem rX12_clueLine_70   {a0 : Nat} {x3 : Int32} {x4 : Int32} {ld1 : Int64} {h : qm_H} {r : Int32 × qm_H} (ho : qX12_clueLine_70  a0 x3 x4 h = some r) : qm_Ret mX12_clueLine (70, [some (qm_r 0 12 a0), some (qm_l ld1), none, some (qm_i x3), some (qm_i x4)], [], h) (qm_Gi r) := by
  unfold qX12_clueLine_70 at ho
  refine qm_Ret.sts 2 (f' := (73, [some (qm_r 0 12 a0), some (qm_l ld1), none, some (qm_i x3), some (qm_i x4)], [qm_i (-1 : Int32), qm_i x4], h)) rfl ?_
  refine qm_Ret.eq (t := 84) (e := 76) rfl (fun hc => ?_) (fun hc => ?_)
  · rw [if_pos hc] at ho
    exact rX12_clueLine_84 ho
  · rw [if_neg hc] at ho
    refine qm_Ret.sts 4 (f' := (81, [some (qm_r 0 12 a0), some (qm_l ld1), none, some (qm_i x3), some (qm_i x4)], [qm_i x3, qm_i (10 : Int32), qm_i (2 : Int32), qm_r 0 12 a0], h)) rfl ?_
    obtain ⟨h1, hr, ho⟩ := qm_bd ho
    refine qm_Ret.call (X := wX12_full [qm_r 0 12 a0, qm_i (2 : Int32), qm_i (10 : Int32), qm_i x3] h) (o1 := (none, h1)) (qm_mp (G := qm_Gv) hr) rfl ?_
    show qm_Ret _ (84, [some (qm_r 0 12 a0), some (qm_l ld1), none, some (qm_i x3), some (qm_i x4)], [], h1) _
    exact rX12_clueLine_84 ho
set_option maxRecDepth 20000 in
set_option maxHeartbeats 2000000 in
theorem rX12_clueLine_49   {a0 : Nat} {l1 : Int64} {x3 : Int32} {xs0 : Int32} {h : qm_H} {r : Int32 × qm_H} (ho : qX12_clueLine_49  a0 l1 x3 xs0 h = some r) : qm_Ret mX12_clueLine (49, [some (qm_r 0 12 a0), some (qm_l l1), none, some (qm_i x3), none], [qm_i xs0], h) (qm_Gi r) := by
  unfold qX12_clueLine_49 at ho
  refine qm_Ret.sts 3 (f' := (54, [some (qm_r 0 12 a0), some (qm_l l1), none, some (qm_i x3), some (qm_i xs0)], [qm_i (-1 : Int32), qm_i xs0], h)) rfl ?_
  refine qm_Ret.ne (t := 70) (e := 57) rfl (fun hc => ?_) (fun hc => ?_)
  · rw [if_pos hc] at ho
    refine qm_Ret.sts 3 (f' := (62, [some (qm_r 0 12 a0), some (qm_l l1), none, some (qm_i x3), some (qm_i xs0)], [qm_i (lg_cmp l1 (1936292453 : Int64))], h)) rfl ?_
    refine qm_Ret.eq (t := 70) (e := 65) rfl (fun hc => ?_) (fun hc => ?_)
    · rw [if_pos hc] at ho
      exact rX12_clueLine_70 ho
    · rw [if_neg hc] at ho
      refine qm_Ret.sts 1 (f' := (66, [some (qm_r 0 12 a0), some (qm_l l1), none, some (qm_i x3), some (qm_i xs0)], [qm_r 0 12 a0], h)) rfl ?_
      obtain ⟨r2, h1, hr, ho⟩ := qm_b2e ho
      refine qm_Ret.call (X := wX12_fails [qm_r 0 12 a0] h) (o1 := (some (qm_i r2), h1)) (qm_mp (G := qm_Gi) hr) rfl ?_
      show qm_Ret _ (69, [some (qm_r 0 12 a0), some (qm_l l1), none, some (qm_i x3), some (qm_i xs0)], [qm_i r2], h1) _
      obtain ⟨hz, ho⟩ := qm_if ho
      cases ho
      exact qm_Ret.gr hz rfl
  · rw [if_neg hc] at ho
    exact rX12_clueLine_70 ho
set_option maxRecDepth 20000 in
set_option maxHeartbeats 2000000 in
theorem rX12_clueLine_0   {a0 : Nat} {l1 : Int64} {x3 : Int32} {h : qm_H} {r : Int32 × qm_H} (ho : qX12_clueLine  a0 l1 x3 h = some r) : qm_Ret mX12_clueLine (0, [some (qm_r 0 12 a0), some (qm_l l1), none, some (qm_i x3), none], [], h) (qm_Gi r) := by
  unfold qX12_clueLine at ho
  refine qm_Ret.sts 3 (f' := (5, [some (qm_r 0 12 a0), some (qm_l l1), none, some (qm_i x3), none], [qm_i (lg_cmp l1 (1869636974 : Int64))], h)) rfl ?_
  refine qm_Ret.ne (t := 12) (e := 8) rfl (fun hc => ?_) (fun hc => ?_)
  · rw [if_pos hc] at ho
    refine qm_Ret.sts 2 (f' := (49, [some (qm_r 0 12 a0), some (qm_l l1), none, some (qm_i x3), none], [qm_i (0 : Int32)], h)) rfl ?_
    exact rX12_clueLine_49 ho
  · rw [if_neg hc] at ho
    refine qm_Ret.sts 3 (f' := (17, [some (qm_r 0 12 a0), some (qm_l l1), none, some (qm_i x3), none], [qm_i (lg_cmp l1 (1936225652 : Int64))], h)) rfl ?_
    refine qm_Ret.ne (t := 24) (e := 20) rfl (fun hc => ?_) (fun hc => ?_)
    · rw [if_pos hc] at ho
      refine qm_Ret.sts 2 (f' := (49, [some (qm_r 0 12 a0), some (qm_l l1), none, some (qm_i x3), none], [qm_i (1 : Int32)], h)) rfl ?_
      exact rX12_clueLine_49 ho
    · rw [if_neg hc] at ho
      refine qm_Ret.sts 3 (f' := (29, [some (qm_r 0 12 a0), some (qm_l l1), none, some (qm_i x3), none], [qm_i (lg_cmp l1 (495740088435 : Int64))], h)) rfl ?_
      refine qm_Ret.ne (t := 36) (e := 32) rfl (fun hc => ?_) (fun hc => ?_)
      · rw [if_pos hc] at ho
        refine qm_Ret.sts 2 (f' := (49, [some (qm_r 0 12 a0), some (qm_l l1), none, some (qm_i x3), none], [qm_i (2 : Int32)], h)) rfl ?_
        exact rX12_clueLine_49 ho
      · rw [if_neg hc] at ho
        refine qm_Ret.sts 3 (f' := (41, [some (qm_r 0 12 a0), some (qm_l l1), none, some (qm_i x3), none], [qm_i (lg_cmp l1 (1751477348 : Int64))], h)) rfl ?_
        refine qm_Ret.ne (t := 48) (e := 44) rfl (fun hc => ?_) (fun hc => ?_)
        · rw [if_pos hc] at ho
          refine qm_Ret.sts 2 (f' := (49, [some (qm_r 0 12 a0), some (qm_l l1), none, some (qm_i x3), none], [qm_i (3 : Int32)], h)) rfl ?_
          exact rX12_clueLine_49 ho
        · rw [if_neg hc] at ho
          refine qm_Ret.sts 1 (f' := (49, [some (qm_r 0 12 a0), some (qm_l l1), none, some (qm_i x3), none], [qm_i (-1 : Int32)], h)) rfl ?_
          exact rX12_clueLine_49 ho
theorem cX12_clueLine_ok : ∀ q ∈ ([(215, 0, 5, wX12_keep), (152, 0, 1, wX12_token), (155, 0, 4, wX12_take), (168, 0, 2, wX12_takeCell), (182, 0, 1, wX12_sizeLine), (208, 0, 4, wX12_full), (140, 0, 1, wX12_fails)] : List (Nat × Nat × Nat × qm_C)), qm_CallOK RX12 4 88 q.2.1 q.1 q.2.2.1 q.2.2.2 := List.forall_mem_cons.mpr ⟨Or.inl ⟨yX12_keep, cX12_keep, 7, none, 0, 0, _, sX12_keep, ⟨by decide, by decide⟩, ⟨jX12_keep, kRX12_215, uRX12⟩, ⟨by decide, by decide, rfl⟩, Or.inl ⟨rfl, rfl, iX12_keep, recvX12_keep⟩⟩, List.forall_mem_cons.mpr ⟨Or.inl ⟨yX12_token, cX12_token, 3, none, 1, 22, _, sX12_token, ⟨by decide, by decide⟩, ⟨jX12_token, kRX12_152, uRX12⟩, ⟨by decide, by decide, rfl⟩, Or.inl ⟨rfl, rfl, iX12_token, recvX12_token⟩⟩, List.forall_mem_cons.mpr ⟨Or.inl ⟨yX12_take, cX12_take, 4, (some .boolean), 2, 44, _, sX12_take, ⟨by decide, by decide⟩, ⟨jX12_take, kRX12_155, uRX12⟩, ⟨by decide, by decide, rfl⟩, Or.inl ⟨rfl, rfl, iX12_take, recvX12_take⟩⟩, List.forall_mem_cons.mpr ⟨Or.inl ⟨yX12_takeCell, cX12_takeCell, 2, (some .boolean), 3, 67, _, sX12_takeCell, ⟨by decide, by decide⟩, ⟨jX12_takeCell, kRX12_168, uRX12⟩, ⟨by decide, by decide, rfl⟩, Or.inl ⟨rfl, rfl, iX12_takeCell, recvX12_takeCell⟩⟩, List.forall_mem_cons.mpr ⟨Or.inl ⟨yX12_sizeLine, cX12_sizeLine, 1, (some .boolean), 3, 67, _, sX12_sizeLine, ⟨by decide, by decide⟩, ⟨jX12_sizeLine, kRX12_182, uRX12⟩, ⟨by decide, by decide, rfl⟩, Or.inl ⟨rfl, rfl, iX12_sizeLine, recvX12_sizeLine⟩⟩, List.forall_mem_cons.mpr ⟨Or.inl ⟨yX12_full, cX12_full, 4, none, 1, 22, _, sX12_full, ⟨by decide, by decide⟩, ⟨jX12_full, kRX12_208, uRX12⟩, ⟨by decide, by decide, rfl⟩, Or.inl ⟨rfl, rfl, iX12_full, recvX12_full⟩⟩, List.forall_mem_cons.mpr ⟨Or.inl ⟨yX12_fails, cX12_fails, 1, (some .boolean), 0, 0, _, sX12_fails, ⟨by decide, by decide⟩, ⟨jX12_fails, kRX12_140, uRX12⟩, ⟨by decide, by decide, rfl⟩, Or.inl ⟨rfl, rfl, iX12_fails, recvX12_fails⟩⟩, fun _ h => absurd h List.not_mem_nil⟩⟩⟩⟩⟩⟩⟩
theorem sX12_clueLine : qm_Snd yX12_clueLine cX12_clueLine 5 (some .boolean) 4 88 wX12_clueLine := qm_met (fld := fun k => qm_lk k pfRX12) (con := fun k => qm_lk k pcRX12) (call := fun k => qm_lk k [(215, 0, 5, wX12_keep), (152, 0, 1, wX12_token), (155, 0, 4, wX12_take), (168, 0, 2, wX12_takeCell), (182, 0, 1, wX12_sizeLine), (208, 0, 4, wX12_full), (140, 0, 1, wX12_fails)]) (tab := qm_tab aX12_clueLine) (plainFor_of_name (by decide)) (qm_fld_ok pfRX12_ok) (qm_con_ok pcRX12_ok) (fun idx kd n f hc => cX12_clueLine_ok (idx, kd, n, f) (qm_lk_mem hc)) (qm_tab_ok aX12_clueLine_ok) (fun vs h o hw => by
  unfold wX12_clueLine at hw
  split at hw
  · obtain ⟨r, hr, rfl⟩ := Option.map_eq_some_iff.mp hw
    exact ⟨Nat.le_of_ble_eq_true rfl, rX12_clueLine_0 (hr)⟩
  · cases hw)
theorem recvX12_clueLine : ∀ vs h o, wX12_clueLine vs h = some o → ∃ ci a rest, vs = qm_r 0 ci a :: rest ∧ qm_R ci = yX12_clueLine.cls := by
  intro vs h o hw
  unfold wX12_clueLine at hw
  split at hw
  · exact ⟨_, _, _, rfl, rfl⟩
  · cases hw
-- RX12 lineOf(IJI)Z
theorem jX12_lineOf : Jvm.Cond.code yX12_lineOf cX12_lineOf 5 (some .boolean) ∈ qm_all := List.mem_filter.mpr ⟨by decide +kernel, rfl⟩
theorem iX12_lineOf : Jvm.Cond.instanceMethod yX12_lineOf ∈ qm_all ∧ Jvm.Cond.selects yX12_lineOf.cls yX12_lineOf yX12_lineOf ∈ qm_all := ⟨List.mem_filter.mpr ⟨by decide +kernel, rfl⟩, List.mem_filter.mpr ⟨by decide +kernel, rfl⟩⟩
def wX12_lineOf : qm_C := fun vs h => match vs with
  | [.inr (.inr (some (0, 12, p0))), .inl p1, .inr (.inl p2), .inl p3] => (qX12_lineOf p0 p1 p2 p3 h).map qm_Gi
  | _ => none
def aX12_lineOf : List (Option (Instr × Nat)) := [some (.iload_n 1, 1), some (.tableswitch 49 0 2 #[27, 33, 41], 27), none, none, none, none, none, none, none, none, none, none, none, none, none, none, none, none, none, none, none, none, none, none, none, none, none, none, some (.aload_n 0, 1), some (.lload_n 2, 1), some (.invokevirtual 229, 3), none, none, some (.ireturn, 1), some (.aload_n 0, 1), some (.lload_n 2, 1), some (.iload 4, 2), none, some (.invokevirtual 233, 3), none, none, some (.ireturn, 1), some (.aload_n 0, 1), some (.lload_n 2, 1), some (.iload 4, 2), none, some (.invokevirtual 237, 3), none, none, some (.ireturn, 1), some (.aload_n 0, 1), some (.lload_n 2, 1), some (.iload 4, 2), none, some (.invokevirtual 240, 3), none, none, some (.ireturn, 1)]
theorem aX12_lineOf_ok : qm_tabok cX12_lineOf aX12_lineOf = true := by decide +kernel
def mX12_lineOf : qm_M := ((some .boolean), (fun k => qm_lk k pfRX12), (fun k => qm_lk k pcRX12), (fun k => qm_lk k [(229, 0, 2, wX12_basketLine), (233, 0, 3, wX12_yearLine), (237, 0, 3, wX12_parishLine), (240, 0, 3, wX12_clueLine)]), qm_tab aX12_lineOf)
set_option maxRecDepth 20000 in
set_option maxHeartbeats 2000000 in
theorem rX12_lineOf_0   {a0 : Nat} {x1 : Int32} {l2 : Int64} {x4 : Int32} {h : qm_H} {r : Int32 × qm_H} (ho : qX12_lineOf  a0 x1 l2 x4 h = some r) : qm_Ret mX12_lineOf (0, [some (qm_r 0 12 a0), some (qm_i x1), some (qm_l l2), none, some (qm_i x4)], [], h) (qm_Gi r) := by
  unfold qX12_lineOf at ho
  refine qm_Ret.sts 1 (f' := (1, [some (qm_r 0 12 a0), some (qm_i x1), some (qm_l l2), none, some (qm_i x4)], [qm_i x1], h)) rfl ?_
  by_cases hc0 : x1 = (0 : Int32)
  · rw [if_pos hc0] at ho
    refine qm_Ret.sw (z := (0 : Int32)) (f1 := (28, [some (qm_r 0 12 a0), some (qm_i x1), some (qm_l l2), none, some (qm_i x4)], [], h)) hc0 rfl rfl ?_
    refine qm_Ret.sts 2 (f' := (30, [some (qm_r 0 12 a0), some (qm_i x1), some (qm_l l2), none, some (qm_i x4)], [qm_l l2, qm_r 0 12 a0], h)) rfl ?_
    obtain ⟨r2, h1, hr, ho⟩ := qm_b2e ho
    refine qm_Ret.call (X := wX12_basketLine [qm_r 0 12 a0, qm_l l2] h) (o1 := (some (qm_i r2), h1)) (qm_mp (G := qm_Gi) hr) rfl ?_
    show qm_Ret _ (33, [some (qm_r 0 12 a0), some (qm_i x1), some (qm_l l2), none, some (qm_i x4)], [qm_i r2], h1) _
    obtain ⟨hz, ho⟩ := qm_if ho
    cases ho
    exact qm_Ret.gr hz rfl
  · rw [if_neg hc0] at ho
    by_cases hc1 : x1 = (1 : Int32)
    · rw [if_pos hc1] at ho
      refine qm_Ret.sw (z := (1 : Int32)) (f1 := (34, [some (qm_r 0 12 a0), some (qm_i x1), some (qm_l l2), none, some (qm_i x4)], [], h)) hc1 rfl rfl ?_
      refine qm_Ret.sts 3 (f' := (38, [some (qm_r 0 12 a0), some (qm_i x1), some (qm_l l2), none, some (qm_i x4)], [qm_i x4, qm_l l2, qm_r 0 12 a0], h)) rfl ?_
      obtain ⟨r4, h3, hr, ho⟩ := qm_b2e ho
      refine qm_Ret.call (X := wX12_yearLine [qm_r 0 12 a0, qm_l l2, qm_i x4] h) (o1 := (some (qm_i r4), h3)) (qm_mp (G := qm_Gi) hr) rfl ?_
      show qm_Ret _ (41, [some (qm_r 0 12 a0), some (qm_i x1), some (qm_l l2), none, some (qm_i x4)], [qm_i r4], h3) _
      obtain ⟨hz, ho⟩ := qm_if ho
      cases ho
      exact qm_Ret.gr hz rfl
    · rw [if_neg hc1] at ho
      by_cases hc2 : x1 = (2 : Int32)
      · rw [if_pos hc2] at ho
        refine qm_Ret.sw (z := (2 : Int32)) (f1 := (42, [some (qm_r 0 12 a0), some (qm_i x1), some (qm_l l2), none, some (qm_i x4)], [], h)) hc2 rfl rfl ?_
        refine qm_Ret.sts 3 (f' := (46, [some (qm_r 0 12 a0), some (qm_i x1), some (qm_l l2), none, some (qm_i x4)], [qm_i x4, qm_l l2, qm_r 0 12 a0], h)) rfl ?_
        obtain ⟨r6, h5, hr, ho⟩ := qm_b2e ho
        refine qm_Ret.call (X := wX12_parishLine [qm_r 0 12 a0, qm_l l2, qm_i x4] h) (o1 := (some (qm_i r6), h5)) (qm_mp (G := qm_Gi) hr) rfl ?_
        show qm_Ret _ (49, [some (qm_r 0 12 a0), some (qm_i x1), some (qm_l l2), none, some (qm_i x4)], [qm_i r6], h5) _
        obtain ⟨hz, ho⟩ := qm_if ho
        cases ho
        exact qm_Ret.gr hz rfl
      · rw [if_neg hc2] at ho
        have nhc0 := lv_neT hc0 (show (0 : Int32).toInt = 0 by decide)
        have nhc1 := lv_neT hc1 (show (1 : Int32).toInt = 1 by decide)
        have nhc2 := lv_neT hc2 (show (2 : Int32).toInt = 2 by decide)
        refine qm_Ret.swd (d := 49) (lo := 0) (hi := 2) (pc := 1) (by omega) (by decide) rfl ?_
        show qm_Ret _ (50, [some (qm_r 0 12 a0), some (qm_i x1), some (qm_l l2), none, some (qm_i x4)], [], h) _
        refine qm_Ret.sts 3 (f' := (54, [some (qm_r 0 12 a0), some (qm_i x1), some (qm_l l2), none, some (qm_i x4)], [qm_i x4, qm_l l2, qm_r 0 12 a0], h)) rfl ?_
        obtain ⟨r8, h7, hr, ho⟩ := qm_b2e ho
        refine qm_Ret.call (X := wX12_clueLine [qm_r 0 12 a0, qm_l l2, qm_i x4] h) (o1 := (some (qm_i r8), h7)) (qm_mp (G := qm_Gi) hr) rfl ?_
        show qm_Ret _ (57, [some (qm_r 0 12 a0), some (qm_i x1), some (qm_l l2), none, some (qm_i x4)], [qm_i r8], h7) _
        obtain ⟨hz, ho⟩ := qm_if ho
        cases ho
        exact qm_Ret.gr hz rfl
theorem cX12_lineOf_ok : ∀ q ∈ ([(229, 0, 2, wX12_basketLine), (233, 0, 3, wX12_yearLine), (237, 0, 3, wX12_parishLine), (240, 0, 3, wX12_clueLine)] : List (Nat × Nat × Nat × qm_C)), qm_CallOK RX12 6 130 q.2.1 q.1 q.2.2.1 q.2.2.2 := List.forall_mem_cons.mpr ⟨Or.inl ⟨yX12_basketLine, cX12_basketLine, 3, (some .boolean), 5, 108, _, sX12_basketLine, ⟨by decide, by decide⟩, ⟨jX12_basketLine, kRX12_229, uRX12⟩, ⟨by decide, by decide, rfl⟩, Or.inl ⟨rfl, rfl, iX12_basketLine, recvX12_basketLine⟩⟩, List.forall_mem_cons.mpr ⟨Or.inl ⟨yX12_yearLine, cX12_yearLine, 6, (some .boolean), 4, 87, _, sX12_yearLine, ⟨by decide, by decide⟩, ⟨jX12_yearLine, kRX12_233, uRX12⟩, ⟨by decide, by decide, rfl⟩, Or.inl ⟨rfl, rfl, iX12_yearLine, recvX12_yearLine⟩⟩, List.forall_mem_cons.mpr ⟨Or.inl ⟨yX12_parishLine, cX12_parishLine, 4, (some .boolean), 3, 67, _, sX12_parishLine, ⟨by decide, by decide⟩, ⟨jX12_parishLine, kRX12_237, uRX12⟩, ⟨by decide, by decide, rfl⟩, Or.inl ⟨rfl, rfl, iX12_parishLine, recvX12_parishLine⟩⟩, List.forall_mem_cons.mpr ⟨Or.inl ⟨yX12_clueLine, cX12_clueLine, 5, (some .boolean), 4, 88, _, sX12_clueLine, ⟨by decide, by decide⟩, ⟨jX12_clueLine, kRX12_240, uRX12⟩, ⟨by decide, by decide, rfl⟩, Or.inl ⟨rfl, rfl, iX12_clueLine, recvX12_clueLine⟩⟩, fun _ h => absurd h List.not_mem_nil⟩⟩⟩⟩
theorem sX12_lineOf : qm_Snd yX12_lineOf cX12_lineOf 5 (some .boolean) 6 130 wX12_lineOf := qm_met (fld := fun k => qm_lk k pfRX12) (con := fun k => qm_lk k pcRX12) (call := fun k => qm_lk k [(229, 0, 2, wX12_basketLine), (233, 0, 3, wX12_yearLine), (237, 0, 3, wX12_parishLine), (240, 0, 3, wX12_clueLine)]) (tab := qm_tab aX12_lineOf) (plainFor_of_name (by decide)) (qm_fld_ok pfRX12_ok) (qm_con_ok pcRX12_ok) (fun idx kd n f hc => cX12_lineOf_ok (idx, kd, n, f) (qm_lk_mem hc)) (qm_tab_ok aX12_lineOf_ok) (fun vs h o hw => by
  unfold wX12_lineOf at hw
  split at hw
  · obtain ⟨r, hr, rfl⟩ := Option.map_eq_some_iff.mp hw
    exact ⟨Nat.le_of_ble_eq_true rfl, rX12_lineOf_0 (hr)⟩
  · cases hw)
theorem recvX12_lineOf : ∀ vs h o, wX12_lineOf vs h = some o → ∃ ci a rest, vs = qm_r 0 ci a :: rest ∧ qm_R ci = yX12_lineOf.cls := by
  intro vs h o hw
  unfold wX12_lineOf at hw
  split at hw
  · exact ⟨_, _, _, rfl, rfl⟩
  · cases hw
-- RX12 lines(I)Z
theorem jX12_lines : Jvm.Cond.code yX12_lines cX12_lines 4 (some .boolean) ∈ qm_all := List.mem_filter.mpr ⟨by decide +kernel, rfl⟩
theorem iX12_lines : Jvm.Cond.instanceMethod yX12_lines ∈ qm_all ∧ Jvm.Cond.selects yX12_lines.cls yX12_lines yX12_lines ∈ qm_all := ⟨List.mem_filter.mpr ⟨by decide +kernel, rfl⟩, List.mem_filter.mpr ⟨by decide +kernel, rfl⟩⟩
def wX12_lines : qm_C := fun vs h => match vs with
  | [.inr (.inr (some (0, 12, p0))), .inl p1] => (qX12_lines p0 p1 h).map qm_Gi
  | _ => none
def aX12_lines : List (Option (Instr × Nat)) := [some (.iconst 1, 1), some (.istore_n 2, 1), some (.iload_n 2, 1), some (.ifCond .eq 71, 3), none, none, some (.aload_n 0, 1), some (.getfield 125, 3), none, none, some (.ifCond .eq 64, 3), none, none, some (.aload_n 0, 1), some (.getfield 118, 3), none, none, some (.istore_n 3, 1), some (.aload_n 0, 1), some (.iconst 1, 1), some (.putfield 148, 3), none, none, some (.aload_n 0, 1), some (.iload_n 1, 1), some (.aload_n 0, 1), some (.getfield 125, 3), none, none, some (.iconst 2, 1), some (.if_icmp .ne 10, 3), none, none, some (.aload_n 0, 1), some (.getfield 121, 3), none, none, some (.goto 4, 3), none, none, some (.lconst 0, 1), some (.iload_n 3, 1), some (.invokevirtual 243, 3), none, none, some (.istore_n 2, 1), some (.iload_n 2, 1), some (.ifCond .eq 16, 3), none, none, some (.aload_n 0, 1), some (.getfield 125, 3), none, none, some (.iconst 4, 1), some (.if_icmp .eq 8, 3), none, none, some (.aload_n 0, 1), some (.invokevirtual 140, 3), none, none, some (.istore_n 2, 1), some (.iload_n 2, 1), some (.ifCond .eq 7, 3), none, none, some (.aload_n 0, 1), some (.invokevirtual 152, 3), none, none, some (.goto (-69), 3), none, none, some (.iload_n 2, 1), some (.ireturn, 1)]
theorem aX12_lines_ok : qm_tabok cX12_lines aX12_lines = true := by decide +kernel
def mX12_lines : qm_M := ((some .boolean), (fun k => qm_lk k pfRX12), (fun k => qm_lk k pcRX12), (fun k => qm_lk k [(152, 0, 1, wX12_token), (243, 0, 4, wX12_lineOf), (140, 0, 1, wX12_fails)]), qm_tab aX12_lines)
set_option maxRecDepth 20000 in
set_option maxHeartbeats 2000000 in
theorem rX12_lines_63 {K2 : Nat → Int32 → Int32 → qm_H → Option (Int32 × qm_H)} (H2 : ∀ {a0 : Nat} {x1 : Int32} {x2 : Int32} {d3 : Option qm_V} {h : qm_H} {r : Int32 × qm_H}, K2 a0 x1 x2 h = some r → qm_Ret mX12_lines (2, [some (qm_r 0 12 a0), some (qm_i x1), some (qm_i x2), d3], [], h) (qm_Gi r)) {a0 : Nat} {x1 : Int32} {x2 : Int32} {xd3 : Int32} {h : qm_H} {r : Int32 × qm_H} (ho : qX12_lines_63 K2 a0 x1 x2 h = some r) : qm_Ret mX12_lines (63, [some (qm_r 0 12 a0), some (qm_i x1), some (qm_i x2), some (qm_i xd3)], [], h) (qm_Gi r) := by
  unfold qX12_lines_63 at ho
  refine qm_Ret.sts 1 (f' := (64, [some (qm_r 0 12 a0), some (qm_i x1), some (qm_i x2), some (qm_i xd3)], [qm_i x2], h)) rfl ?_
  refine qm_Ret.eq (t := 71) (e := 67) rfl (fun hc => ?_) (fun hc => ?_)
  · rw [if_pos hc] at ho
    refine qm_Ret.sts 1 (f' := (2, [some (qm_r 0 12 a0), some (qm_i x1), some (qm_i x2), some (qm_i xd3)], [], h)) rfl ?_
    exact H2 ho
  · rw [if_neg hc] at ho
    refine qm_Ret.sts 1 (f' := (68, [some (qm_r 0 12 a0), some (qm_i x1), some (qm_i x2), some (qm_i xd3)], [qm_r 0 12 a0], h)) rfl ?_
    obtain ⟨h1, hr, ho⟩ := qm_bd ho
    refine qm_Ret.call (X := wX12_token [qm_r 0 12 a0] h) (o1 := (none, h1)) (qm_mp (G := qm_Gv) hr) rfl ?_
    show qm_Ret _ (71, [some (qm_r 0 12 a0), some (qm_i x1), some (qm_i x2), some (qm_i xd3)], [], h1) _
    refine qm_Ret.sts 1 (f' := (2, [some (qm_r 0 12 a0), some (qm_i x1), some (qm_i x2), some (qm_i xd3)], [], h1)) rfl ?_
    exact H2 ho
set_option maxRecDepth 20000 in
set_option maxHeartbeats 2000000 in
theorem rX12_lines_41 {K2 : Nat → Int32 → Int32 → qm_H → Option (Int32 × qm_H)} (H2 : ∀ {a0 : Nat} {x1 : Int32} {x2 : Int32} {d3 : Option qm_V} {h : qm_H} {r : Int32 × qm_H}, K2 a0 x1 x2 h = some r → qm_Ret mX12_lines (2, [some (qm_r 0 12 a0), some (qm_i x1), some (qm_i x2), d3], [], h) (qm_Gi r)) {a0 : Nat} {x1 : Int32} {x3 : Int32} {ls0 : Int64} {xs1 : Int32} {as2 : Nat} {xd2 : Int32} {h : qm_H} {r : Int32 × qm_H} (ho : qX12_lines_41 K2 a0 x1 x3 ls0 xs1 as2 h = some r) : qm_Ret mX12_lines (41, [some (qm_r 0 12 a0), some (qm_i x1), some (qm_i xd2), some (qm_i x3)], [qm_l ls0, qm_i xs1, qm_r 0 12 as2], h) (qm_Gi r) := by
  unfold qX12_lines_41 at ho
  refine qm_Ret.sts 1 (f' := (42, [some (qm_r 0 12 a0), some (qm_i x1), some (qm_i xd2), some (qm_i x3)], [qm_i x3, qm_l ls0, qm_i xs1, qm_r 0 12 as2], h)) rfl ?_
  obtain ⟨r2, h1, hr, ho⟩ := qm_b2e ho
  refine qm_Ret.call (X := wX12_lineOf [qm_r 0 12 as2, qm_i xs1, qm_l ls0, qm_i x3] h) (o1 := (some (qm_i r2), h1)) (qm_mp (G := qm_Gi) hr) rfl ?_
  show qm_Ret _ (45, [some (qm_r 0 12 a0), some (qm_i x1), some (qm_i xd2), some (qm_i x3)], [qm_i r2], h1) _
  refine qm_Ret.sts 2 (f' := (47, [some (qm_r 0 12 a0), some (qm_i x1), some (qm_i r2), some (qm_i x3)], [qm_i r2], h1)) rfl ?_
  refine qm_Ret.eq (t := 63) (e := 50) rfl (fun hc => ?_) (fun hc => ?_)
  · rw [if_pos hc] at ho
    exact rX12_lines_63 H2 ho
  · rw [if_neg hc] at ho
    refine qm_Ret.sts 3 (f' := (55, [some (qm_r 0 12 a0), some (qm_i x1), some (qm_i r2), some (qm_i x3)], [qm_i (4 : Int32), qm_i (h1.1 a0 13)], h1)) rfl ?_
    refine qm_Ret.eq (t := 63) (e := 58) rfl (fun hc => ?_) (fun hc => ?_)
    · rw [if_pos hc] at ho
      exact rX12_lines_63 H2 ho
    · rw [if_neg hc] at ho
      refine qm_Ret.sts 1 (f' := (59, [some (qm_r 0 12 a0), some (qm_i x1), some (qm_i r2), some (qm_i x3)], [qm_r 0 12 a0], h1)) rfl ?_
      obtain ⟨r4, h3, hr, ho⟩ := qm_b2e ho
      refine qm_Ret.call (X := wX12_fails [qm_r 0 12 a0] h1) (o1 := (some (qm_i r4), h3)) (qm_mp (G := qm_Gi) hr) rfl ?_
      show qm_Ret _ (62, [some (qm_r 0 12 a0), some (qm_i x1), some (qm_i r2), some (qm_i x3)], [qm_i r4], h3) _
      refine qm_Ret.sts 1 (f' := (63, [some (qm_r 0 12 a0), some (qm_i x1), some (qm_i r4), some (qm_i x3)], [], h3)) rfl ?_
      exact rX12_lines_63 H2 ho
set_option maxRecDepth 20000 in
set_option maxHeartbeats 2000000 in
theorem rX12_lines_2   : ∀ {fuel : Nat} {a0 : Nat} {x1 : Int32} {x2 : Int32} {d3 : Option qm_V} {h : qm_H} {r : Int32 × qm_H}, qX12_lines_2  fuel a0 x1 x2 h = some r → qm_Ret mX12_lines (2, [some (qm_r 0 12 a0), some (qm_i x1), some (qm_i x2), d3], [], h) (qm_Gi r) := by
  intro fuel
  induction fuel with
  | zero => intros; rename_i ho; cases ho
  | succ n ih =>
    intro a0 x1 x2 d3 h r ho
    unfold qX12_lines_2 at ho
    refine qm_Ret.sts 1 (f' := (3, [some (qm_r 0 12 a0), some (qm_i x1), some (qm_i x2), d3], [qm_i x2], h)) rfl ?_
    refine qm_Ret.eq (t := 74) (e := 6) rfl (fun hc => ?_) (fun hc => ?_)
    · rw [if_pos hc] at ho
      refine qm_Ret.sts 1 (f' := (75, [some (qm_r 0 12 a0), some (qm_i x1), some (qm_i x2), d3], [qm_i x2], h)) rfl ?_
      obtain ⟨hz, ho⟩ := qm_if ho
      cases ho
      exact qm_Ret.gr hz rfl
    · rw [if_neg hc] at ho
      refine qm_Ret.sts 2 (f' := (10, [some (qm_r 0 12 a0), some (qm_i x1), some (qm_i x2), d3], [qm_i (h.1 a0 13)], h)) rfl ?_
      refine qm_Ret.eq (t := 74) (e := 13) rfl (fun hc => ?_) (fun hc => ?_)
      · rw [if_pos hc] at ho
        refine qm_Ret.sts 1 (f' := (75, [some (qm_r 0 12 a0), some (qm_i x1), some (qm_i x2), d3], [qm_i x2], h)) rfl ?_
        obtain ⟨hz, ho⟩ := qm_if ho
        cases ho
        exact qm_Ret.gr hz rfl
      · rw [if_neg hc] at ho
        refine qm_Ret.sts 6 (f' := (23, [some (qm_r 0 12 a0), some (qm_i x1), some (qm_i x2), some (qm_i (h.1 a0 12))], [], (qm_seti h a0 23 (1 : Int32)))) rfl ?_
        refine qm_Ret.lets (F := fun h1 => (23, [some (qm_r 0 12 a0), some (qm_i x1), some (qm_i x2), some (qm_i (h.1 a0 12))], [], h1)) (G := qm_Gi) ho (fun h1 ho => ?_)
        refine qm_Ret.sts 5 (f' := (30, [some (qm_r 0 12 a0), some (qm_i x1), some (qm_i x2), some (qm_i (h.1 a0 12))], [qm_i (2 : Int32), qm_i (h1.1 a0 13), qm_i x1, qm_r 0 12 a0], h1)) rfl ?_
        refine qm_Ret.ne (t := 40) (e := 33) rfl (fun hc => ?_) (fun hc => ?_)
        · rw [if_pos hc] at ho
          refine qm_Ret.sts 3 (f' := (41, [some (qm_r 0 12 a0), some (qm_i x1), some (qm_i x2), some (qm_i (h.1 a0 12))], [qm_l (h1.2 a0 15), qm_i x1, qm_r 0 12 a0], h1)) rfl ?_
          exact rX12_lines_41 (ih) ho
        · rw [if_neg hc] at ho
          refine qm_Ret.sts 1 (f' := (41, [some (qm_r 0 12 a0), some (qm_i x1), some (qm_i x2), some (qm_i (h.1 a0 12))], [qm_l (0 : Int64), qm_i x1, qm_r 0 12 a0], h1)) rfl ?_
          exact rX12_lines_41 (ih) ho
set_option maxRecDepth 20000 in
set_option maxHeartbeats 2000000 in
theorem rX12_lines_0   {a0 : Nat} {x1 : Int32} {h : qm_H} {r : Int32 × qm_H} (ho : qX12_lines  a0 x1 h = some r) : qm_Ret mX12_lines (0, [some (qm_r 0 12 a0), some (qm_i x1), none, none], [], h) (qm_Gi r) := by
  unfold qX12_lines at ho
  refine qm_Ret.sts 2 (f' := (2, [some (qm_r 0 12 a0), some (qm_i x1), some (qm_i (1 : Int32)), none], [], h)) rfl ?_
  exact rX12_lines_2 ho
theorem cX12_lines_ok : ∀ q ∈ ([(152, 0, 1, wX12_token), (243, 0, 4, wX12_lineOf), (140, 0, 1, wX12_fails)] : List (Nat × Nat × Nat × qm_C)), qm_CallOK RX12 7 154 q.2.1 q.1 q.2.2.1 q.2.2.2 := List.forall_mem_cons.mpr ⟨Or.inl ⟨yX12_token, cX12_token, 3, none, 1, 22, _, sX12_token, ⟨by decide, by decide⟩, ⟨jX12_token, kRX12_152, uRX12⟩, ⟨by decide, by decide, rfl⟩, Or.inl ⟨rfl, rfl, iX12_token, recvX12_token⟩⟩, List.forall_mem_cons.mpr ⟨Or.inl ⟨yX12_lineOf, cX12_lineOf, 5, (some .boolean), 6, 130, _, sX12_lineOf, ⟨by decide, by decide⟩, ⟨jX12_lineOf, kRX12_243, uRX12⟩, ⟨by decide, by decide, rfl⟩, Or.inl ⟨rfl, rfl, iX12_lineOf, recvX12_lineOf⟩⟩, List.forall_mem_cons.mpr ⟨Or.inl ⟨yX12_fails, cX12_fails, 1, (some .boolean), 0, 0, _, sX12_fails, ⟨by decide, by decide⟩, ⟨jX12_fails, kRX12_140, uRX12⟩, ⟨by decide, by decide, rfl⟩, Or.inl ⟨rfl, rfl, iX12_fails, recvX12_fails⟩⟩, fun _ h => absurd h List.not_mem_nil⟩⟩⟩
theorem sX12_lines : qm_Snd yX12_lines cX12_lines 4 (some .boolean) 7 154 wX12_lines := qm_met (fld := fun k => qm_lk k pfRX12) (con := fun k => qm_lk k pcRX12) (call := fun k => qm_lk k [(152, 0, 1, wX12_token), (243, 0, 4, wX12_lineOf), (140, 0, 1, wX12_fails)]) (tab := qm_tab aX12_lines) (plainFor_of_name (by decide)) (qm_fld_ok pfRX12_ok) (qm_con_ok pcRX12_ok) (fun idx kd n f hc => cX12_lines_ok (idx, kd, n, f) (qm_lk_mem hc)) (qm_tab_ok aX12_lines_ok) (fun vs h o hw => by
  unfold wX12_lines at hw
  split at hw
  · obtain ⟨r, hr, rfl⟩ := Option.map_eq_some_iff.mp hw
    exact ⟨Nat.le_of_ble_eq_true rfl, rX12_lines_0 (hr)⟩
  · cases hw)
theorem recvX12_lines : ∀ vs h o, wX12_lines vs h = some o → ∃ ci a rest, vs = qm_r 0 ci a :: rest ∧ qm_R ci = yX12_lines.cls := by
  intro vs h o hw
  unfold wX12_lines at hw
  split at hw
  · exact ⟨_, _, _, rfl, rfl⟩
  · cases hw
-- RX12 blank(I)V
theorem jX12_blank : Jvm.Cond.code yX12_blank cX12_blank 3 none ∈ qm_all := List.mem_filter.mpr ⟨by decide +kernel, rfl⟩
theorem iX12_blank : Jvm.Cond.instanceMethod yX12_blank ∈ qm_all ∧ Jvm.Cond.selects yX12_blank.cls yX12_blank yX12_blank ∈ qm_all := ⟨List.mem_filter.mpr ⟨by decide +kernel, rfl⟩, List.mem_filter.mpr ⟨by decide +kernel, rfl⟩⟩
def wX12_blank : qm_C := fun vs h => match vs with
  | [.inr (.inr (some (0, 12, p0))), .inl p1] => (qX12_blank p0 p1 h).map qm_Gv
  | _ => none
def aX12_blank : List (Option (Instr × Nat)) := [some (.iconst 0, 1), some (.istore_n 2, 1), some (.iload_n 2, 1), some (.sipush 161, 3), none, none, some (.if_icmp .ge 45, 3), none, none, some (.aload_n 0, 1), some (.getfield 38, 3), none, none, some (.iload_n 2, 1), some (.iload_n 1, 1), some (.ifCond .ne 28, 3), none, none, some (.iload_n 2, 1), some (.iconst 3, 1), some (.bipush 10, 2), none, some (.invokestatic 100, 3), none, none, some (.ifCond .ne 14, 3), none, none, some (.iload_n 2, 1), some (.bipush 19, 2), none, some (.bipush 26, 2), none, some (.invokestatic 100, 3), none, none, some (.ifCond .eq 7, 3), none, none, some (.iconst 2, 1), some (.goto 4, 3), none, none, some (.iconst 0, 1), some (.iastore, 1), some (.iinc 2 1, 3), none, none, some (.goto (-46), 3), none, none, some (.aload_n 0, 1), some (.getfield 38, 3), none, none, some (.iconst 0, 1), some (.iload_n 1, 1), some (.ifCond .eq 8, 3), none, none, some (.iload_n 1, 1), some (.iconst 3, 1), some (.if_icmp .ne 8, 3), none, none, some (.bipush 6, 2), none, some (.goto 4, 3), none, none, some (.iconst 0, 1), some (.iastore, 1), some (.aload_n 0, 1), some (.getfield 38, 3), none, none, some (.iconst 1, 1), some (.iload_n 1, 1), some (.ifCond .eq 8, 3), none, none, some (.iload_n 1, 1), some (.iconst 3, 1), some (.if_icmp .ne 8, 3), none, none, some (.bipush 6, 2), none, some (.goto 4, 3), none, none, some (.iconst 0, 1), some (.iastore, 1), some (.aload_n 0, 1), some (.getfield 38, 3), none, none, some (.iconst 2, 1), some (.iload_n 1, 1), some (.iconst 2, 1), some (.if_icmp .ne 7, 3), none, none, some (.iconst 3, 1), some (.goto 4, 3), none, none, some (.iconst 0, 1), some (.iastore, 1), some (.return_, 1)]
theorem aX12_blank_ok : qm_tabok cX12_blank aX12_blank = true := by decide +kernel
def mX12_blank : qm_M := (none, (fun k => qm_lk k pfRX12), (fun k => qm_lk k pcRX12), (fun k => qm_lk k [(100, 2, 3, wX12_in)]), qm_tab aX12_blank)
set_option maxRecDepth 20000 in
set_option maxHeartbeats 2000000 in
theorem rX12_blank_86   {a0 : Nat} {x1 : Int32} {xs0 : Int32} {as1 : Nat} {xd2 : Int32} {h : qm_H} {r : qm_H} (ho : qX12_blank_86  a0 x1 xs0 as1 h = some r) : qm_Ret mX12_blank (86, [some (qm_r 0 12 a0), some (qm_i x1), some (qm_i xd2)], [qm_i xs0, qm_r 1 161 as1], h) (qm_Gv r) := by
  unfold qX12_blank_86 at ho
  refine qm_Ret.sts 2 (f' := (92, [some (qm_r 0 12 a0), some (qm_i x1), some (qm_i xd2)], [qm_i (6 : Int32), qm_i xs0, qm_r 1 161 as1], h)) rfl ?_
  obtain ⟨hg, ho⟩ := qm_ifn ho
  refine qm_Ret.gn (f1 := (93, [some (qm_r 0 12 a0), some (qm_i x1), some (qm_i xd2)], [], (qm_seti h as1 (xs0).toNatClampNeg (6 : Int32)))) hg rfl ?_
  refine qm_Ret.lets (F := fun h1 => (93, [some (qm_r 0 12 a0), some (qm_i x1), some (qm_i xd2)], [], h1)) (G := qm_Gv) ho (fun h1 ho => ?_)
  refine qm_Ret.sts 5 (f' := (100, [some (qm_r 0 12 a0), some (qm_i x1), some (qm_i xd2)], [qm_i (2 : Int32), qm_i x1, qm_i (2 : Int32), qm_r 1 161 (a0 + 10)], h1)) rfl ?_
  refine qm_Ret.ne (t := 107) (e := 103) rfl (fun hc => ?_) (fun hc => ?_)
  · rw [if_pos hc] at ho
    refine qm_Ret.sts 3 (f' := (109, [some (qm_r 0 12 a0), some (qm_i x1), some (qm_i xd2)], [], (qm_seti h1 (a0 + 10) (2 : Int32).toNatClampNeg (3 : Int32)))) rfl ?_
    refine qm_Ret.lets (F := fun h3 => (109, [some (qm_r 0 12 a0), some (qm_i x1), some (qm_i xd2)], [], h3)) (G := qm_Gv) ho (fun h3 ho => ?_)
    cases ho
    exact qm_Ret.ret 1 rfl
  · rw [if_neg hc] at ho
    refine qm_Ret.sts 2 (f' := (109, [some (qm_r 0 12 a0), some (qm_i x1), some (qm_i xd2)], [], (qm_seti h1 (a0 + 10) (2 : Int32).toNatClampNeg (0 : Int32)))) rfl ?_
    refine qm_Ret.lets (F := fun h2 => (109, [some (qm_r 0 12 a0), some (qm_i x1), some (qm_i xd2)], [], h2)) (G := qm_Gv) ho (fun h2 ho => ?_)
    cases ho
    exact qm_Ret.ret 1 rfl
set_option maxRecDepth 20000 in
set_option maxHeartbeats 2000000 in
theorem rX12_blank_71   {a0 : Nat} {x1 : Int32} {xs0 : Int32} {xs1 : Int32} {as2 : Nat} {xd2 : Int32} {h : qm_H} {r : qm_H} (ho : qX12_blank_71  a0 x1 xs0 xs1 as2 h = some r) : qm_Ret mX12_blank (71, [some (qm_r 0 12 a0), some (qm_i x1), some (qm_i xd2)], [qm_i xs0, qm_i xs1, qm_r 1 161 as2], h) (qm_Gv r) := by
  unfold qX12_blank_71 at ho
  obtain ⟨hg, ho⟩ := qm_ifn ho
  refine qm_Ret.gn (f1 := (72, [some (qm_r 0 12 a0), some (qm_i x1), some (qm_i xd2)], [], (qm_seti h as2 (xs1).toNatClampNeg xs0))) hg rfl ?_
  refine qm_Ret.lets (F := fun h1 => (72, [some (qm_r 0 12 a0), some (qm_i x1), some (qm_i xd2)], [], h1)) (G := qm_Gv) ho (fun h1 ho => ?_)
  refine qm_Ret.sts 4 (f' := (78, [some (qm_r 0 12 a0), some (qm_i x1), some (qm_i xd2)], [qm_i x1, qm_i (1 : Int32), qm_r 1 161 (a0 + 10)], h1)) rfl ?_
  refine qm_Ret.eq (t := 86) (e := 81) rfl (fun hc => ?_) (fun hc => ?_)
  · rw [if_pos hc] at ho
    exact rX12_blank_86 ho
  · rw [if_neg hc] at ho
    refine qm_Ret.sts 2 (f' := (83, [some (qm_r 0 12 a0), some (qm_i x1), some (qm_i xd2)], [qm_i (3 : Int32), qm_i x1, qm_i (1 : Int32), qm_r 1 161 (a0 + 10)], h1)) rfl ?_
    refine qm_Ret.ne (t := 91) (e := 86) rfl (fun hc => ?_) (fun hc => ?_)
    · rw [if_pos hc] at ho
      exact rX12_blank_86 ho
    · rw [if_neg hc] at ho
      refine qm_Ret.sts 2 (f' := (93, [some (qm_r 0 12 a0), some (qm_i x1), some (qm_i xd2)], [], (qm_seti h1 (a0 + 10) (1 : Int32).toNatClampNeg (0 : Int32)))) rfl ?_
      refine qm_Ret.lets (F := fun h2 => (93, [some (qm_r 0 12 a0), some (qm_i x1), some (qm_i xd2)], [], h2)) (G := qm_Gv) ho (fun h2 ho => ?_)
      refine qm_Ret.sts 5 (f' := (100, [some (qm_r 0 12 a0), some (qm_i x1), some (qm_i xd2)], [qm_i (2 : Int32), qm_i x1, qm_i (2 : Int32), qm_r 1 161 (a0 + 10)], h2)) rfl ?_
      refine qm_Ret.ne (t := 107) (e := 103) rfl (fun hc => ?_) (fun hc => ?_)
      · rw [if_pos hc] at ho
        refine qm_Ret.sts 3 (f' := (109, [some (qm_r 0 12 a0), some (qm_i x1), some (qm_i xd2)], [], (qm_seti h2 (a0 + 10) (2 : Int32).toNatClampNeg (3 : Int32)))) rfl ?_
        refine qm_Ret.lets (F := fun h4 => (109, [some (qm_r 0 12 a0), some (qm_i x1), some (qm_i xd2)], [], h4)) (G := qm_Gv) ho (fun h4 ho => ?_)
        cases ho
        exact qm_Ret.ret 1 rfl
      · rw [if_neg hc] at ho
        refine qm_Ret.sts 2 (f' := (109, [some (qm_r 0 12 a0), some (qm_i x1), some (qm_i xd2)], [], (qm_seti h2 (a0 + 10) (2 : Int32).toNatClampNeg (0 : Int32)))) rfl ?_
        refine qm_Ret.lets (F := fun h3 => (109, [some (qm_r 0 12 a0), some (qm_i x1), some (qm_i xd2)], [], h3)) (G := qm_Gv) ho (fun h3 ho => ?_)
        cases ho
        exact qm_Ret.ret 1 rfl
set_option maxRecDepth 20000 in
set_option maxHeartbeats 2000000 in
theorem rX12_blank_2   : ∀ {fuel : Nat} {a0 : Nat} {x1 : Int32} {x2 : Int32} {h : qm_H} {r : qm_H}, qX12_blank_2  fuel a0 x1 x2 h = some r → qm_Ret mX12_blank (2, [some (qm_r 0 12 a0), some (qm_i x1), some (qm_i x2)], [], h) (qm_Gv r) := by
  intro fuel
  induction fuel with
  | zero => intros; rename_i ho; cases ho
  | succ n ih =>
    intro a0 x1 x2 h r ho
    unfold qX12_blank_2 at ho
    refine qm_Ret.sts 2 (f' := (6, [some (qm_r 0 12 a0), some (qm_i x1), some (qm_i x2)], [qm_i (161 : Int32), qm_i x2], h)) rfl ?_
    refine qm_Ret.ge (t := 51) (e := 9) rfl (fun hc => ?_) (fun hc => ?_)
    · rw [if_pos hc] at ho
      refine qm_Ret.sts 4 (f' := (15, [some (qm_r 0 12 a0), some (qm_i x1), some (qm_i x2)], [qm_i x1, qm_i x2, qm_r 1 161 (a0 + 10)], h)) rfl ?_
      refine qm_Ret.ne (t := 43) (e := 18) rfl (fun hc => ?_) (fun hc => ?_)
      · rw [if_pos hc] at ho
        refine qm_Ret.sts 3 (f' := (22, [some (qm_r 0 12 a0), some (qm_i x1), some (qm_i x2)], [qm_i (10 : Int32), qm_i (3 : Int32), qm_i x2, qm_i x2, qm_r 1 161 (a0 + 10)], h)) rfl ?_
        obtain ⟨r3, h2, hr, ho⟩ := qm_b2e ho
        refine qm_Ret.call (X := wX12_in [qm_i x2, qm_i (3 : Int32), qm_i (10 : Int32)] h) (o1 := (some (qm_i r3), h2)) (qm_mp (G := qm_Gi) hr) rfl ?_
        show qm_Ret _ (25, [some (qm_r 0 12 a0), some (qm_i x1), some (qm_i x2)], [qm_i r3, qm_i x2, qm_r 1 161 (a0 + 10)], h2) _
        refine qm_Ret.ne (t := 39) (e := 28) rfl (fun hc => ?_) (fun hc => ?_)
        · rw [if_pos hc] at ho
          refine qm_Ret.sts 3 (f' := (33, [some (qm_r 0 12 a0), some (qm_i x1), some (qm_i x2)], [qm_i (26 : Int32), qm_i (19 : Int32), qm_i x2, qm_i x2, qm_r 1 161 (a0 + 10)], h2)) rfl ?_
          obtain ⟨r6, h5, hr, ho⟩ := qm_b2e ho
          refine qm_Ret.call (X := wX12_in [qm_i x2, qm_i (19 : Int32), qm_i (26 : Int32)] h2) (o1 := (some (qm_i r6), h5)) (qm_mp (G := qm_Gi) hr) rfl ?_
          show qm_Ret _ (36, [some (qm_r 0 12 a0), some (qm_i x1), some (qm_i x2)], [qm_i r6, qm_i x2, qm_r 1 161 (a0 + 10)], h5) _
          refine qm_Ret.eq (t := 43) (e := 39) rfl (fun hc => ?_) (fun hc => ?_)
          · rw [if_pos hc] at ho
            refine qm_Ret.sts 1 (f' := (44, [some (qm_r 0 12 a0), some (qm_i x1), some (qm_i x2)], [qm_i (0 : Int32), qm_i x2, qm_r 1 161 (a0 + 10)], h5)) rfl ?_
            obtain ⟨hg, ho⟩ := qm_ifn ho
            refine qm_Ret.gn (f1 := (45, [some (qm_r 0 12 a0), some (qm_i x1), some (qm_i x2)], [], (qm_seti h5 (a0 + 10) (x2).toNatClampNeg (0 : Int32)))) hg rfl ?_
            refine qm_Ret.lets (F := fun h7 => (45, [some (qm_r 0 12 a0), some (qm_i x1), some (qm_i x2)], [], h7)) (G := qm_Gv) ho (fun h7 ho => ?_)
            refine qm_Ret.sts 2 (f' := (2, [some (qm_r 0 12 a0), some (qm_i x1), some (qm_i (x2 + (1 : Int32)))], [], h7)) rfl ?_
            exact ih ho
          · rw [if_neg hc] at ho
            refine qm_Ret.sts 2 (f' := (44, [some (qm_r 0 12 a0), some (qm_i x1), some (qm_i x2)], [qm_i (2 : Int32), qm_i x2, qm_r 1 161 (a0 + 10)], h5)) rfl ?_
            obtain ⟨hg, ho⟩ := qm_ifn ho
            refine qm_Ret.gn (f1 := (45, [some (qm_r 0 12 a0), some (qm_i x1), some (qm_i x2)], [], (qm_seti h5 (a0 + 10) (x2).toNatClampNeg (2 : Int32)))) hg rfl ?_
            refine qm_Ret.lets (F := fun h8 => (45, [some (qm_r 0 12 a0), some (qm_i x1), some (qm_i x2)], [], h8)) (G := qm_Gv) ho (fun h8 ho => ?_)
            refine qm_Ret.sts 2 (f' := (2, [some (qm_r 0 12 a0), some (qm_i x1), some (qm_i (x2 + (1 : Int32)))], [], h8)) rfl ?_
            exact ih ho
        · rw [if_neg hc] at ho
          refine qm_Ret.sts 2 (f' := (44, [some (qm_r 0 12 a0), some (qm_i x1), some (qm_i x2)], [qm_i (2 : Int32), qm_i x2, qm_r 1 161 (a0 + 10)], h2)) rfl ?_
          obtain ⟨hg, ho⟩ := qm_ifn ho
          refine qm_Ret.gn (f1 := (45, [some (qm_r 0 12 a0), some (qm_i x1), some (qm_i x2)], [], (qm_seti h2 (a0 + 10) (x2).toNatClampNeg (2 : Int32)))) hg rfl ?_
          refine qm_Ret.lets (F := fun h4 => (45, [some (qm_r 0 12 a0), some (qm_i x1), some (qm_i x2)], [], h4)) (G := qm_Gv) ho (fun h4 ho => ?_)
          refine qm_Ret.sts 2 (f' := (2, [some (qm_r 0 12 a0), some (qm_i x1), some (qm_i (x2 + (1 : Int32)))], [], h4)) rfl ?_
          exact ih ho
      · rw [if_neg hc] at ho
        refine qm_Ret.sts 1 (f' := (44, [some (qm_r 0 12 a0), some (qm_i x1), some (qm_i x2)], [qm_i (0 : Int32), qm_i x2, qm_r 1 161 (a0 + 10)], h)) rfl ?_
        obtain ⟨hg, ho⟩ := qm_ifn ho
        refine qm_Ret.gn (f1 := (45, [some (qm_r 0 12 a0), some (qm_i x1), some (qm_i x2)], [], (qm_seti h (a0 + 10) (x2).toNatClampNeg (0 : Int32)))) hg rfl ?_
        refine qm_Ret.lets (F := fun h1 => (45, [some (qm_r 0 12 a0), some (qm_i x1), some (qm_i x2)], [], h1)) (G := qm_Gv) ho (fun h1 ho => ?_)
        refine qm_Ret.sts 2 (f' := (2, [some (qm_r 0 12 a0), some (qm_i x1), some (qm_i (x2 + (1 : Int32)))], [], h1)) rfl ?_
        exact ih ho
    · rw [if_neg hc] at ho
      refine qm_Ret.sts 4 (f' := (57, [some (qm_r 0 12 a0), some (qm_i x1), some (qm_i x2)], [qm_i x1, qm_i (0 : Int32), qm_r 1 161 (a0 + 10)], h)) rfl ?_
      refine qm_Ret.eq (t := 65) (e := 60) rfl (fun hc => ?_) (fun hc => ?_)
      · rw [if_pos hc] at ho
        refine qm_Ret.sts 2 (f' := (71, [some (qm_r 0 12 a0), some (qm_i x1), some (qm_i x2)], [qm_i (6 : Int32), qm_i (0 : Int32), qm_r 1 161 (a0 + 10)], h)) rfl ?_
        exact rX12_blank_71 ho
      · rw [if_neg hc] at ho
        refine qm_Ret.sts 2 (f' := (62, [some (qm_r 0 12 a0), some (qm_i x1), some (qm_i x2)], [qm_i (3 : Int32), qm_i x1, qm_i (0 : Int32), qm_r 1 161 (a0 + 10)], h)) rfl ?_
        refine qm_Ret.ne (t := 70) (e := 65) rfl (fun hc => ?_) (fun hc => ?_)
        · rw [if_pos hc] at ho
          refine qm_Ret.sts 2 (f' := (71, [some (qm_r 0 12 a0), some (qm_i x1), some (qm_i x2)], [qm_i (6 : Int32), qm_i (0 : Int32), qm_r 1 161 (a0 + 10)], h)) rfl ?_
          exact rX12_blank_71 ho
        · rw [if_neg hc] at ho
          refine qm_Ret.sts 1 (f' := (71, [some (qm_r 0 12 a0), some (qm_i x1), some (qm_i x2)], [qm_i (0 : Int32), qm_i (0 : Int32), qm_r 1 161 (a0 + 10)], h)) rfl ?_
          exact rX12_blank_71 ho
set_option maxRecDepth 20000 in
set_option maxHeartbeats 2000000 in
theorem rX12_blank_0   {a0 : Nat} {x1 : Int32} {h : qm_H} {r : qm_H} (ho : qX12_blank  a0 x1 h = some r) : qm_Ret mX12_blank (0, [some (qm_r 0 12 a0), some (qm_i x1), none], [], h) (qm_Gv r) := by
  unfold qX12_blank at ho
  refine qm_Ret.sts 2 (f' := (2, [some (qm_r 0 12 a0), some (qm_i x1), some (qm_i (0 : Int32))], [], h)) rfl ?_
  exact rX12_blank_2 ho
theorem cX12_blank_ok : ∀ q ∈ ([(100, 2, 3, wX12_in)] : List (Nat × Nat × Nat × qm_C)), qm_CallOK RX12 1 22 q.2.1 q.1 q.2.2.1 q.2.2.2 := List.forall_mem_cons.mpr ⟨Or.inl ⟨yX12_in, cX12_in, 3, (some .boolean), 0, 0, _, sX12_in, ⟨by decide, by decide⟩, ⟨jX12_in, kRX12_100, uRX12⟩, ⟨by decide, by decide, rfl⟩, Or.inr (Or.inl ⟨rfl, rfl, iX12_in⟩)⟩, fun _ h => absurd h List.not_mem_nil⟩
theorem sX12_blank : qm_Snd yX12_blank cX12_blank 3 none 1 22 wX12_blank := qm_met (fld := fun k => qm_lk k pfRX12) (con := fun k => qm_lk k pcRX12) (call := fun k => qm_lk k [(100, 2, 3, wX12_in)]) (tab := qm_tab aX12_blank) (plainFor_of_name (by decide)) (qm_fld_ok pfRX12_ok) (qm_con_ok pcRX12_ok) (fun idx kd n f hc => cX12_blank_ok (idx, kd, n, f) (qm_lk_mem hc)) (qm_tab_ok aX12_blank_ok) (fun vs h o hw => by
  unfold wX12_blank at hw
  split at hw
  · obtain ⟨r, hr, rfl⟩ := Option.map_eq_some_iff.mp hw
    exact ⟨Nat.le_of_ble_eq_true rfl, rX12_blank_0 (hr)⟩
  · cases hw)
theorem recvX12_blank : ∀ vs h o, wX12_blank vs h = some o → ∃ ci a rest, vs = qm_r 0 ci a :: rest ∧ qm_R ci = yX12_blank.cls := by
  intro vs h o hw
  unfold wX12_blank at hw
  split at hw
  · exact ⟨_, _, _, rfl, rfl⟩
  · cases hw
