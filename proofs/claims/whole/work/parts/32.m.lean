-- RX12 tens(I)J
theorem jX12_tens : Jvm.Cond.code yX12_tens cX12_tens 4 (some .long) ∈ qm_all := List.mem_filter.mpr ⟨by decide +kernel, rfl⟩
theorem iX12_tens : Jvm.Cond.static yX12_tens ∈ qm_all := List.mem_filter.mpr ⟨by decide +kernel, rfl⟩
def wX12_tens : qm_C := fun vs h => match vs with
  | [.inl p0] => (qX12_tens p0 h).map qm_Gl
  | _ => none
def aX12_tens : List (Option (Instr × Nat)) := [some (.lconst 1, 1), some (.lstore_n 1, 1), some (.iconst 0, 1), some (.istore_n 3, 1), some (.iload_n 3, 1), some (.iload_n 0, 1), some (.if_icmp .ge 15, 3), none, none, some (.lload_n 1, 1), some (.ldc2_w 412, 3), none, none, some (.lmul, 1), some (.lstore_n 1, 1), some (.iinc 3 1, 3), none, none, some (.goto (-14), 3), none, none, some (.lload_n 1, 1), some (.lreturn, 1)]
theorem aX12_tens_ok : qm_tabok cX12_tens aX12_tens = true := by decide +kernel
def mX12_tens : qm_M := ((some .long), (fun k => qm_lk k pfRX12), (fun k => qm_lk k pcRX12), (fun k => qm_lk k []), qm_tab aX12_tens)
set_option maxRecDepth 20000 in
set_option maxHeartbeats 2000000 in
theorem rX12_tens_4   : ∀ {fuel : Nat} {x0 : Int32} {l1 : Int64} {x3 : Int32} {h : qm_H} {r : Int64 × qm_H}, qX12_tens_4  fuel x0 l1 x3 h = some r → qm_Ret mX12_tens (4, [some (qm_i x0), some (qm_l l1), none, some (qm_i x3)], [], h) (qm_Gl r) := by
  intro fuel
  induction fuel with
  | zero => intros; rename_i ho; cases ho
  | succ n ih =>
    intro x0 l1 x3 h r ho
    unfold qX12_tens_4 at ho
    refine qm_Ret.sts 2 (f' := (6, [some (qm_i x0), some (qm_l l1), none, some (qm_i x3)], [qm_i x0, qm_i x3], h)) rfl ?_
    refine qm_Ret.ge (t := 21) (e := 9) rfl (fun hc => ?_) (fun hc => ?_)
    · rw [if_pos hc] at ho
      refine qm_Ret.sts 3 (f' := (14, [some (qm_i x0), some (qm_l l1), none, some (qm_i x3)], [qm_l (l1 * (10 : Int64))], h)) rfl ?_
      refine qm_Ret.lets (F := fun v1 => (14, [some (qm_i x0), some (qm_l l1), none, some (qm_i x3)], [qm_l v1], h)) (G := qm_Gl) ho (fun v1 ho => ?_)
      refine qm_Ret.sts 3 (f' := (4, [some (qm_i x0), some (qm_l v1), none, some (qm_i (x3 + (1 : Int32)))], [], h)) rfl ?_
      exact ih ho
    · rw [if_neg hc] at ho
      cases ho
      exact qm_Ret.ret 2 rfl
set_option maxRecDepth 20000 in
set_option maxHeartbeats 2000000 in
theorem rX12_tens_0   {x0 : Int32} {h : qm_H} {r : Int64 × qm_H} (ho : qX12_tens  x0 h = some r) : qm_Ret mX12_tens (0, [some (qm_i x0), none, none, none], [], h) (qm_Gl r) := by
  unfold qX12_tens at ho
  refine qm_Ret.sts 4 (f' := (4, [some (qm_i x0), some (qm_l (1 : Int64)), none, some (qm_i (0 : Int32))], [], h)) rfl ?_
  exact rX12_tens_4 ho
theorem cX12_tens_ok : ∀ q ∈ ([] : List (Nat × Nat × Nat × qm_C)), qm_CallOK RX12 0 0 q.2.1 q.1 q.2.2.1 q.2.2.2 := fun _ h => absurd h List.not_mem_nil
theorem sX12_tens : qm_Snd yX12_tens cX12_tens 4 (some .long) 0 0 wX12_tens := qm_met (fld := fun k => qm_lk k pfRX12) (con := fun k => qm_lk k pcRX12) (call := fun k => qm_lk k []) (tab := qm_tab aX12_tens) (plainFor_of_name (by decide)) (qm_fld_ok pfRX12_ok) (qm_con_ok pcRX12_ok) (fun idx kd n f hc => cX12_tens_ok (idx, kd, n, f) (qm_lk_mem hc)) (qm_tab_ok aX12_tens_ok) (fun vs h o hw => by
  unfold wX12_tens at hw
  split at hw
  · obtain ⟨r, hr, rfl⟩ := Option.map_eq_some_iff.mp hw
    exact ⟨Nat.le_of_ble_eq_true rfl, rX12_tens_0 (hr)⟩
  · cases hw)
-- RX12 common(JJ)J
theorem jX12_common : Jvm.Cond.code yX12_common cX12_common 10 (some .long) ∈ qm_all := List.mem_filter.mpr ⟨by decide +kernel, rfl⟩
theorem iX12_common : Jvm.Cond.static yX12_common ∈ qm_all := List.mem_filter.mpr ⟨by decide +kernel, rfl⟩
def wX12_common : qm_C := fun vs h => match vs with
  | [.inr (.inl p0), .inr (.inl p1)] => (qX12_common p0 p1 h).map qm_Gl
  | _ => none
def aX12_common : List (Option (Instr × Nat)) := [some (.lload_n 0, 1), some (.lstore 4, 2), none, some (.lload_n 2, 1), some (.lstore 6, 2), none, some (.lload 6, 2), none, some (.lconst 0, 1), some (.lcmp, 1), some (.ifCond .eq 21, 3), none, none, some (.lload 4, 2), none, some (.lload 6, 2), none, some (.lrem, 1), some (.lstore 8, 2), none, some (.lload 6, 2), none, some (.lstore 4, 2), none, some (.lload 8, 2), none, some (.lstore 6, 2), none, some (.goto (-22), 3), none, none, some (.lload 4, 2), none, some (.lreturn, 1)]
theorem aX12_common_ok : qm_tabok cX12_common aX12_common = true := by decide +kernel
def mX12_common : qm_M := ((some .long), (fun k => qm_lk k pfRX12), (fun k => qm_lk k pcRX12), (fun k => qm_lk k []), qm_tab aX12_common)
set_option maxRecDepth 20000 in
set_option maxHeartbeats 2000000 in
theorem rX12_common_6   : ∀ {fuel : Nat} {l4 : Int64} {l6 : Int64} {ld0 : Int64} {ld2 : Int64} {d8 : Option qm_V} {h : qm_H} {r : Int64 × qm_H}, qX12_common_6  fuel l4 l6 h = some r → qm_Ret mX12_common (6, [some (qm_l ld0), none, some (qm_l ld2), none, some (qm_l l4), none, some (qm_l l6), none, d8, none], [], h) (qm_Gl r) := by
  intro fuel
  induction fuel with
  | zero => intros; rename_i ho; cases ho
  | succ n ih =>
    intro l4 l6 ld0 ld2 d8 h r ho
    unfold qX12_common_6 at ho
    refine qm_Ret.sts 3 (f' := (10, [some (qm_l ld0), none, some (qm_l ld2), none, some (qm_l l4), none, some (qm_l l6), none, d8, none], [qm_i (lg_cmp l6 (0 : Int64))], h)) rfl ?_
    refine qm_Ret.eq (t := 31) (e := 13) rfl (fun hc => ?_) (fun hc => ?_)
    · rw [if_pos hc] at ho
      cases ho
      exact qm_Ret.ret 2 rfl
    · rw [if_neg hc] at ho
      refine qm_Ret.sts 2 (f' := (17, [some (qm_l ld0), none, some (qm_l ld2), none, some (qm_l l4), none, some (qm_l l6), none, d8, none], [qm_l l6, qm_l l4], h)) rfl ?_
      obtain ⟨hg, ho⟩ := qm_ifn ho
      refine qm_Ret.gn (f1 := (18, [some (qm_l ld0), none, some (qm_l ld2), none, some (qm_l l4), none, some (qm_l l6), none, d8, none], [qm_l (qm_lrem l4 l6)], h)) hg rfl ?_
      refine qm_Ret.lets (F := fun v1 => (18, [some (qm_l ld0), none, some (qm_l ld2), none, some (qm_l l4), none, some (qm_l l6), none, d8, none], [qm_l v1], h)) (G := qm_Gl) ho (fun v1 ho => ?_)
      refine qm_Ret.sts 6 (f' := (6, [some (qm_l ld0), none, some (qm_l ld2), none, some (qm_l l6), none, some (qm_l v1), none, some (qm_l v1), none], [], h)) rfl ?_
      exact ih ho
set_option maxRecDepth 20000 in
set_option maxHeartbeats 2000000 in
theorem rX12_common_0   {l0 : Int64} {l2 : Int64} {h : qm_H} {r : Int64 × qm_H} (ho : qX12_common  l0 l2 h = some r) : qm_Ret mX12_common (0, [some (qm_l l0), none, some (qm_l l2), none, none, none, none, none, none, none], [], h) (qm_Gl r) := by
  unfold qX12_common at ho
  refine qm_Ret.sts 4 (f' := (6, [some (qm_l l0), none, some (qm_l l2), none, some (qm_l l0), none, some (qm_l l2), none, none, none], [], h)) rfl ?_
  exact rX12_common_6 ho
theorem cX12_common_ok : ∀ q ∈ ([] : List (Nat × Nat × Nat × qm_C)), qm_CallOK RX12 0 0 q.2.1 q.1 q.2.2.1 q.2.2.2 := fun _ h => absurd h List.not_mem_nil
theorem sX12_common : qm_Snd yX12_common cX12_common 10 (some .long) 0 0 wX12_common := qm_met (fld := fun k => qm_lk k pfRX12) (con := fun k => qm_lk k pcRX12) (call := fun k => qm_lk k []) (tab := qm_tab aX12_common) (plainFor_of_name (by decide)) (qm_fld_ok pfRX12_ok) (qm_con_ok pcRX12_ok) (fun idx kd n f hc => cX12_common_ok (idx, kd, n, f) (qm_lk_mem hc)) (qm_tab_ok aX12_common_ok) (fun vs h o hw => by
  unfold wX12_common at hw
  split at hw
  · obtain ⟨r, hr, rfl⟩ := Option.map_eq_some_iff.mp hw
    exact ⟨Nat.le_of_ble_eq_true rfl, rX12_common_0 (hr)⟩
  · cases hw)
-- RX12 last(III)J
theorem jX12_last : Jvm.Cond.code yX12_last cX12_last 8 (some .long) ∈ qm_all := List.mem_filter.mpr ⟨by decide +kernel, rfl⟩
theorem iX12_last : Jvm.Cond.instanceMethod yX12_last ∈ qm_all ∧ Jvm.Cond.selects yX12_last.cls yX12_last yX12_last ∈ qm_all := ⟨List.mem_filter.mpr ⟨by decide +kernel, rfl⟩, List.mem_filter.mpr ⟨by decide +kernel, rfl⟩⟩
def wX12_last : qm_C := fun vs h => match vs with
  | [.inr (.inr (some (0, 12, p0))), .inl p1, .inl p2, .inl p3] => (qX12_last p0 p1 p2 p3 h).map qm_Gl
  | _ => none
def aX12_last : List (Option (Instr × Nat)) := [some (.aload_n 0, 1), some (.iconst 0, 1), some (.putfield 88, 3), none, none, some (.aload_n 0, 1), some (.iload_n 1, 1), some (.invokevirtual 301, 3), none, none, some (.ifCond .eq 22, 3), none, none, some (.iload_n 2, 1), some (.iconst 0, 1), some (.bipush 8, 2), none, some (.invokestatic 100, 3), none, none, some (.ifCond .eq 12, 3), none, none, some (.iload_n 3, 1), some (.iconst 0, 1), some (.iconst 2, 1), some (.invokestatic 100, 3), none, none, some (.ifCond .ne 7, 3), none, none, some (.ldc2_w 414, 3), none, none, some (.lreturn, 1), some (.iconst 0, 1), some (.istore 4, 2), none, some (.iconst 1, 1), some (.istore 5, 2), none, some (.iload 5, 2), none, some (.iconst 1, 1), some (.aload_n 0, 1), some (.getfield 276, 3), none, none, some (.ishl, 1), some (.if_icmp .ge 69, 3), none, none, some (.aload_n 0, 1), some (.iload 5, 2), none, some (.invokevirtual 416, 3), none, none, some (.aload_n 0, 1), some (.iload 4, 2), none, some (.invokevirtual 416, 3), none, none, some (.lsub, 1), some (.lstore 6, 2), none, some (.iload 5, 2), none, some (.invokestatic 285, 3), none, none, some (.iload_n 2, 1), some (.if_icmp .gt 35, 3), none, none, some (.lload 6, 2), none, some (.lconst 0, 1), some (.lcmp, 1), some (.ifCond .gt 23, 3), none, none, some (.lload 6, 2), none, some (.lconst 0, 1), some (.lcmp, 1), some (.ifCond .ne 21, 3), none, none, some (.iload 5, 2), none, some (.invokestatic 285, 3), none, none, some (.iload 4, 2), none, some (.invokestatic 285, 3), none, none, some (.if_icmp .ge 8, 3), none, none, some (.iload 5, 2), none, some (.goto 5, 3), none, none, some (.iload 4, 2), none, some (.istore 4, 2), none, some (.iinc 5 1, 3), none, none, some (.goto (-74), 3), none, none, some (.aload_n 0, 1), some (.getfield 276, 3), none, none, some (.invokestatic 420, 3), none, none, some (.aload_n 0, 1), some (.iload 4, 2), none, some (.invokevirtual 416, 3), none, none, some (.invokestatic 423, 3), none, none, some (.lstore 5, 2), none, some (.iload_n 3, 1), some (.iconst 2, 1), some (.if_icmp .ne 9, 3), none, none, some (.iload 4, 2), none, some (.i2l, 1), some (.goto 26, 3), none, none, some (.iload_n 3, 1), some (.ifCond .ne 12, 3), none, none, some (.aload_n 0, 1), some (.iload 4, 2), none, some (.invokevirtual 416, 3), none, none, some (.goto 10, 3), none, none, some (.aload_n 0, 1), some (.getfield 276, 3), none, none, some (.invokestatic 420, 3), none, none, some (.lload 5, 2), none, some (.ldiv, 1), some (.lreturn, 1)]
theorem aX12_last_ok : qm_tabok cX12_last aX12_last = true := by decide +kernel
def mX12_last : qm_M := ((some .long), (fun k => qm_lk k pfRX12), (fun k => qm_lk k pcRX12), (fun k => qm_lk k [(420, 2, 1, wX12_tens), (416, 0, 2, wX12_lastsBy), (423, 2, 2, wX12_common), (285, 2, 1, wX12_ones), (301, 0, 2, wX12_hand), (100, 2, 3, wX12_in)]), qm_tab aX12_last)
set_option maxRecDepth 20000 in
set_option maxHeartbeats 2000000 in
theorem rX12_last_42   : ∀ {fuel : Nat} {a0 : Nat} {x2 : Int32} {x3 : Int32} {x4 : Int32} {x5 : Int32} {xd1 : Int32} {d6 : Option qm_V} {h : qm_H} {r : Int64 × qm_H}, qX12_last_42  fuel a0 x2 x3 x4 x5 h = some r → qm_Ret mX12_last (42, [some (qm_r 0 12 a0), some (qm_i xd1), some (qm_i x2), some (qm_i x3), some (qm_i x4), some (qm_i x5), d6, none], [], h) (qm_Gl r) := by
  intro fuel
  induction fuel with
  | zero => intros; rename_i ho; cases ho
  | succ n ih =>
    intro a0 x2 x3 x4 x5 xd1 d6 h r ho
    unfold qX12_last_42 at ho
    refine qm_Ret.sts 5 (f' := (50, [some (qm_r 0 12 a0), some (qm_i xd1), some (qm_i x2), some (qm_i x3), some (qm_i x4), some (qm_i x5), d6, none], [qm_i (qm_ishl (1 : Int32) (h.1 a0 26)), qm_i x5], h)) rfl ?_
    refine qm_Ret.ge (t := 119) (e := 53) rfl (fun hc => ?_) (fun hc => ?_)
    · rw [if_pos hc] at ho
      refine qm_Ret.sts 2 (f' := (56, [some (qm_r 0 12 a0), some (qm_i xd1), some (qm_i x2), some (qm_i x3), some (qm_i x4), some (qm_i x5), d6, none], [qm_i x5, qm_r 0 12 a0], h)) rfl ?_
      obtain ⟨r12, h11, hr, ho⟩ := qm_b2e ho
      refine qm_Ret.call (X := wX12_lastsBy [qm_r 0 12 a0, qm_i x5] h) (o1 := (some (qm_l r12), h11)) (qm_mp (G := qm_Gl) hr) rfl ?_
      show qm_Ret _ (59, [some (qm_r 0 12 a0), some (qm_i xd1), some (qm_i x2), some (qm_i x3), some (qm_i x4), some (qm_i x5), d6, none], [qm_l r12], h11) _
      refine qm_Ret.sts 2 (f' := (62, [some (qm_r 0 12 a0), some (qm_i xd1), some (qm_i x2), some (qm_i x3), some (qm_i x4), some (qm_i x5), d6, none], [qm_i x4, qm_r 0 12 a0, qm_l r12], h11)) rfl ?_
      obtain ⟨r14, h13, hr, ho⟩ := qm_b2e ho
      refine qm_Ret.call (X := wX12_lastsBy [qm_r 0 12 a0, qm_i x4] h11) (o1 := (some (qm_l r14), h13)) (qm_mp (G := qm_Gl) hr) rfl ?_
      show qm_Ret _ (65, [some (qm_r 0 12 a0), some (qm_i xd1), some (qm_i x2), some (qm_i x3), some (qm_i x4), some (qm_i x5), d6, none], [qm_l r14, qm_l r12], h13) _
      refine qm_Ret.sts 3 (f' := (70, [some (qm_r 0 12 a0), some (qm_i xd1), some (qm_i x2), some (qm_i x3), some (qm_i x4), some (qm_i x5), some (qm_l (r12 - r14)), none], [qm_i x5], h13)) rfl ?_
      obtain ⟨r16, h15, hr, ho⟩ := qm_b2e ho
      refine qm_Ret.call (X := wX12_ones [qm_i x5] h13) (o1 := (some (qm_i r16), h15)) (qm_mp (G := qm_Gi) hr) rfl ?_
      show qm_Ret _ (73, [some (qm_r 0 12 a0), some (qm_i xd1), some (qm_i x2), some (qm_i x3), some (qm_i x4), some (qm_i x5), some (qm_l (r12 - r14)), none], [qm_i r16], h15) _
      refine qm_Ret.sts 1 (f' := (74, [some (qm_r 0 12 a0), some (qm_i xd1), some (qm_i x2), some (qm_i x3), some (qm_i x4), some (qm_i x5), some (qm_l (r12 - r14)), none], [qm_i x2, qm_i r16], h15)) rfl ?_
      refine qm_Ret.gt (t := 109) (e := 77) rfl (fun hc => ?_) (fun hc => ?_)
      · rw [if_pos hc] at ho
        refine qm_Ret.sts 4 (f' := (42, [some (qm_r 0 12 a0), some (qm_i xd1), some (qm_i x2), some (qm_i x3), some (qm_i x4), some (qm_i (x5 + (1 : Int32))), some (qm_l (r12 - r14)), none], [], h15)) rfl ?_
        exact ih ho
      · rw [if_neg hc] at ho
        refine qm_Ret.sts 3 (f' := (81, [some (qm_r 0 12 a0), some (qm_i xd1), some (qm_i x2), some (qm_i x3), some (qm_i x4), some (qm_i x5), some (qm_l (r12 - r14)), none], [qm_i (lg_cmp (r12 - r14) (0 : Int64))], h15)) rfl ?_
        refine qm_Ret.gt (t := 104) (e := 84) rfl (fun hc => ?_) (fun hc => ?_)
        · rw [if_pos hc] at ho
          refine qm_Ret.sts 5 (f' := (42, [some (qm_r 0 12 a0), some (qm_i xd1), some (qm_i x2), some (qm_i x3), some (qm_i x5), some (qm_i (x5 + (1 : Int32))), some (qm_l (r12 - r14)), none], [], h15)) rfl ?_
          exact ih ho
        · rw [if_neg hc] at ho
          refine qm_Ret.sts 3 (f' := (88, [some (qm_r 0 12 a0), some (qm_i xd1), some (qm_i x2), some (qm_i x3), some (qm_i x4), some (qm_i x5), some (qm_l (r12 - r14)), none], [qm_i (lg_cmp (r12 - r14) (0 : Int64))], h15)) rfl ?_
          refine qm_Ret.ne (t := 109) (e := 91) rfl (fun hc => ?_) (fun hc => ?_)
          · rw [if_pos hc] at ho
            refine qm_Ret.sts 1 (f' := (93, [some (qm_r 0 12 a0), some (qm_i xd1), some (qm_i x2), some (qm_i x3), some (qm_i x4), some (qm_i x5), some (qm_l (r12 - r14)), none], [qm_i x5], h15)) rfl ?_
            obtain ⟨r18, h17, hr, ho⟩ := qm_b2e ho
            refine qm_Ret.call (X := wX12_ones [qm_i x5] h15) (o1 := (some (qm_i r18), h17)) (qm_mp (G := qm_Gi) hr) rfl ?_
            show qm_Ret _ (96, [some (qm_r 0 12 a0), some (qm_i xd1), some (qm_i x2), some (qm_i x3), some (qm_i x4), some (qm_i x5), some (qm_l (r12 - r14)), none], [qm_i r18], h17) _
            refine qm_Ret.sts 1 (f' := (98, [some (qm_r 0 12 a0), some (qm_i xd1), some (qm_i x2), some (qm_i x3), some (qm_i x4), some (qm_i x5), some (qm_l (r12 - r14)), none], [qm_i x4, qm_i r18], h17)) rfl ?_
            obtain ⟨r20, h19, hr, ho⟩ := qm_b2e ho
            refine qm_Ret.call (X := wX12_ones [qm_i x4] h17) (o1 := (some (qm_i r20), h19)) (qm_mp (G := qm_Gi) hr) rfl ?_
            show qm_Ret _ (101, [some (qm_r 0 12 a0), some (qm_i xd1), some (qm_i x2), some (qm_i x3), some (qm_i x4), some (qm_i x5), some (qm_l (r12 - r14)), none], [qm_i r20, qm_i r18], h19) _
            refine qm_Ret.ge (t := 109) (e := 104) rfl (fun hc => ?_) (fun hc => ?_)
            · rw [if_pos hc] at ho
              refine qm_Ret.sts 5 (f' := (42, [some (qm_r 0 12 a0), some (qm_i xd1), some (qm_i x2), some (qm_i x3), some (qm_i x5), some (qm_i (x5 + (1 : Int32))), some (qm_l (r12 - r14)), none], [], h19)) rfl ?_
              exact ih ho
            · rw [if_neg hc] at ho
              refine qm_Ret.sts 4 (f' := (42, [some (qm_r 0 12 a0), some (qm_i xd1), some (qm_i x2), some (qm_i x3), some (qm_i x4), some (qm_i (x5 + (1 : Int32))), some (qm_l (r12 - r14)), none], [], h19)) rfl ?_
              exact ih ho
          · rw [if_neg hc] at ho
            refine qm_Ret.sts 4 (f' := (42, [some (qm_r 0 12 a0), some (qm_i xd1), some (qm_i x2), some (qm_i x3), some (qm_i x4), some (qm_i (x5 + (1 : Int32))), some (qm_l (r12 - r14)), none], [], h15)) rfl ?_
            exact ih ho
    · rw [if_neg hc] at ho
      refine qm_Ret.sts 2 (f' := (123, [some (qm_r 0 12 a0), some (qm_i xd1), some (qm_i x2), some (qm_i x3), some (qm_i x4), some (qm_i x5), d6, none], [qm_i (h.1 a0 26)], h)) rfl ?_
      obtain ⟨r2, h1, hr, ho⟩ := qm_b2e ho
      refine qm_Ret.call (X := wX12_tens [qm_i (h.1 a0 26)] h) (o1 := (some (qm_l r2), h1)) (qm_mp (G := qm_Gl) hr) rfl ?_
      show qm_Ret _ (126, [some (qm_r 0 12 a0), some (qm_i xd1), some (qm_i x2), some (qm_i x3), some (qm_i x4), some (qm_i x5), d6, none], [qm_l r2], h1) _
      refine qm_Ret.sts 2 (f' := (129, [some (qm_r 0 12 a0), some (qm_i xd1), some (qm_i x2), some (qm_i x3), some (qm_i x4), some (qm_i x5), d6, none], [qm_i x4, qm_r 0 12 a0, qm_l r2], h1)) rfl ?_
      obtain ⟨r4, h3, hr, ho⟩ := qm_b2e ho
      refine qm_Ret.call (X := wX12_lastsBy [qm_r 0 12 a0, qm_i x4] h1) (o1 := (some (qm_l r4), h3)) (qm_mp (G := qm_Gl) hr) rfl ?_
      show qm_Ret _ (132, [some (qm_r 0 12 a0), some (qm_i xd1), some (qm_i x2), some (qm_i x3), some (qm_i x4), some (qm_i x5), d6, none], [qm_l r4, qm_l r2], h3) _
      obtain ⟨r6, h5, hr, ho⟩ := qm_b2e ho
      refine qm_Ret.call (X := wX12_common [qm_l r2, qm_l r4] h3) (o1 := (some (qm_l r6), h5)) (qm_mp (G := qm_Gl) hr) rfl ?_
      show qm_Ret _ (135, [some (qm_r 0 12 a0), some (qm_i xd1), some (qm_i x2), some (qm_i x3), some (qm_i x4), some (qm_i x5), d6, none], [qm_l r6], h5) _
      refine qm_Ret.sts 3 (f' := (139, [some (qm_r 0 12 a0), some (qm_i xd1), some (qm_i x2), some (qm_i x3), some (qm_i x4), some (qm_l r6), none, none], [qm_i (2 : Int32), qm_i x3], h5)) rfl ?_
      refine qm_Ret.ne (t := 148) (e := 142) rfl (fun hc => ?_) (fun hc => ?_)
      · rw [if_pos hc] at ho
        cases ho
        exact qm_Ret.ret 4 rfl
      · rw [if_neg hc] at ho
        refine qm_Ret.sts 1 (f' := (149, [some (qm_r 0 12 a0), some (qm_i xd1), some (qm_i x2), some (qm_i x3), some (qm_i x4), some (qm_l r6), none, none], [qm_i x3], h5)) rfl ?_
        refine qm_Ret.ne (t := 161) (e := 152) rfl (fun hc => ?_) (fun hc => ?_)
        · rw [if_pos hc] at ho
          refine qm_Ret.sts 2 (f' := (155, [some (qm_r 0 12 a0), some (qm_i xd1), some (qm_i x2), some (qm_i x3), some (qm_i x4), some (qm_l r6), none, none], [qm_i x4, qm_r 0 12 a0], h5)) rfl ?_
          obtain ⟨r10, h9, hr, ho⟩ := qm_b2e ho
          refine qm_Ret.call (X := wX12_lastsBy [qm_r 0 12 a0, qm_i x4] h5) (o1 := (some (qm_l r10), h9)) (qm_mp (G := qm_Gl) hr) rfl ?_
          show qm_Ret _ (158, [some (qm_r 0 12 a0), some (qm_i xd1), some (qm_i x2), some (qm_i x3), some (qm_i x4), some (qm_l r6), none, none], [qm_l r10], h9) _
          refine qm_Ret.sts 2 (f' := (170, [some (qm_r 0 12 a0), some (qm_i xd1), some (qm_i x2), some (qm_i x3), some (qm_i x4), some (qm_l r6), none, none], [qm_l r6, qm_l r10], h9)) rfl ?_
          obtain ⟨hg, ho⟩ := qm_ifn ho
          refine qm_Ret.gn (f1 := (171, [some (qm_r 0 12 a0), some (qm_i xd1), some (qm_i x2), some (qm_i x3), some (qm_i x4), some (qm_l r6), none, none], [qm_l (r10 / r6)], h9)) hg rfl ?_
          cases ho
          exact qm_Ret.ret 1 rfl
        · rw [if_neg hc] at ho
          refine qm_Ret.sts 2 (f' := (165, [some (qm_r 0 12 a0), some (qm_i xd1), some (qm_i x2), some (qm_i x3), some (qm_i x4), some (qm_l r6), none, none], [qm_i (h5.1 a0 26)], h5)) rfl ?_
          obtain ⟨r8, h7, hr, ho⟩ := qm_b2e ho
          refine qm_Ret.call (X := wX12_tens [qm_i (h5.1 a0 26)] h5) (o1 := (some (qm_l r8), h7)) (qm_mp (G := qm_Gl) hr) rfl ?_
          show qm_Ret _ (168, [some (qm_r 0 12 a0), some (qm_i xd1), some (qm_i x2), some (qm_i x3), some (qm_i x4), some (qm_l r6), none, none], [qm_l r8], h7) _
          refine qm_Ret.sts 1 (f' := (170, [some (qm_r 0 12 a0), some (qm_i xd1), some (qm_i x2), some (qm_i x3), some (qm_i x4), some (qm_l r6), none, none], [qm_l r6, qm_l r8], h7)) rfl ?_
          obtain ⟨hg, ho⟩ := qm_ifn ho
          refine qm_Ret.gn (f1 := (171, [some (qm_r 0 12 a0), some (qm_i xd1), some (qm_i x2), some (qm_i x3), some (qm_i x4), some (qm_l r6), none, none], [qm_l (r8 / r6)], h7)) hg rfl ?_
          cases ho
          exact qm_Ret.ret 1 rfl
set_option maxRecDepth 20000 in
set_option maxHeartbeats 2000000 in
theorem rX12_last_0   {a0 : Nat} {x1 : Int32} {x2 : Int32} {x3 : Int32} {h : qm_H} {r : Int64 × qm_H} (ho : qX12_last  a0 x1 x2 x3 h = some r) : qm_Ret mX12_last (0, [some (qm_r 0 12 a0), some (qm_i x1), some (qm_i x2), some (qm_i x3), none, none, none, none], [], h) (qm_Gl r) := by
  unfold qX12_last at ho
  refine qm_Ret.sts 3 (f' := (5, [some (qm_r 0 12 a0), some (qm_i x1), some (qm_i x2), some (qm_i x3), none, none, none, none], [], (qm_seti h a0 0 (0 : Int32)))) rfl ?_
  refine qm_Ret.lets (F := fun h1 => (5, [some (qm_r 0 12 a0), some (qm_i x1), some (qm_i x2), some (qm_i x3), none, none, none, none], [], h1)) (G := qm_Gl) ho (fun h1 ho => ?_)
  refine qm_Ret.sts 2 (f' := (7, [some (qm_r 0 12 a0), some (qm_i x1), some (qm_i x2), some (qm_i x3), none, none, none, none], [qm_i x1, qm_r 0 12 a0], h1)) rfl ?_
  obtain ⟨r3, h2, hr, ho⟩ := qm_b2e ho
  refine qm_Ret.call (X := wX12_hand [qm_r 0 12 a0, qm_i x1] h1) (o1 := (some (qm_i r3), h2)) (qm_mp (G := qm_Gi) hr) rfl ?_
  show qm_Ret _ (10, [some (qm_r 0 12 a0), some (qm_i x1), some (qm_i x2), some (qm_i x3), none, none, none, none], [qm_i r3], h2) _
  refine qm_Ret.eq (t := 32) (e := 13) rfl (fun hc => ?_) (fun hc => ?_)
  · rw [if_pos hc] at ho
    cases ho
    exact qm_Ret.ret 2 rfl
  · rw [if_neg hc] at ho
    refine qm_Ret.sts 3 (f' := (17, [some (qm_r 0 12 a0), some (qm_i x1), some (qm_i x2), some (qm_i x3), none, none, none, none], [qm_i (8 : Int32), qm_i (0 : Int32), qm_i x2], h2)) rfl ?_
    obtain ⟨r5, h4, hr, ho⟩ := qm_b2e ho
    refine qm_Ret.call (X := wX12_in [qm_i x2, qm_i (0 : Int32), qm_i (8 : Int32)] h2) (o1 := (some (qm_i r5), h4)) (qm_mp (G := qm_Gi) hr) rfl ?_
    show qm_Ret _ (20, [some (qm_r 0 12 a0), some (qm_i x1), some (qm_i x2), some (qm_i x3), none, none, none, none], [qm_i r5], h4) _
    refine qm_Ret.eq (t := 32) (e := 23) rfl (fun hc => ?_) (fun hc => ?_)
    · rw [if_pos hc] at ho
      cases ho
      exact qm_Ret.ret 2 rfl
    · rw [if_neg hc] at ho
      refine qm_Ret.sts 3 (f' := (26, [some (qm_r 0 12 a0), some (qm_i x1), some (qm_i x2), some (qm_i x3), none, none, none, none], [qm_i (2 : Int32), qm_i (0 : Int32), qm_i x3], h4)) rfl ?_
      obtain ⟨r7, h6, hr, ho⟩ := qm_b2e ho
      refine qm_Ret.call (X := wX12_in [qm_i x3, qm_i (0 : Int32), qm_i (2 : Int32)] h4) (o1 := (some (qm_i r7), h6)) (qm_mp (G := qm_Gi) hr) rfl ?_
      show qm_Ret _ (29, [some (qm_r 0 12 a0), some (qm_i x1), some (qm_i x2), some (qm_i x3), none, none, none, none], [qm_i r7], h6) _
      refine qm_Ret.ne (t := 36) (e := 32) rfl (fun hc => ?_) (fun hc => ?_)
      · rw [if_pos hc] at ho
        cases ho
        exact qm_Ret.ret 2 rfl
      · rw [if_neg hc] at ho
        refine qm_Ret.sts 4 (f' := (42, [some (qm_r 0 12 a0), some (qm_i x1), some (qm_i x2), some (qm_i x3), some (qm_i (0 : Int32)), some (qm_i (1 : Int32)), none, none], [], h6)) rfl ?_
        exact rX12_last_42 ho
theorem cX12_last_ok : ∀ q ∈ ([(420, 2, 1, wX12_tens), (416, 0, 2, wX12_lastsBy), (423, 2, 2, wX12_common), (285, 2, 1, wX12_ones), (301, 0, 2, wX12_hand), (100, 2, 3, wX12_in)] : List (Nat × Nat × Nat × qm_C)), qm_CallOK RX12 3 66 q.2.1 q.1 q.2.2.1 q.2.2.2 := List.forall_mem_cons.mpr ⟨Or.inl ⟨yX12_tens, cX12_tens, 4, (some .long), 0, 0, _, sX12_tens, ⟨by decide, by decide⟩, ⟨jX12_tens, kRX12_420, uRX12⟩, ⟨by decide, by decide, rfl⟩, Or.inr (Or.inl ⟨rfl, rfl, iX12_tens⟩)⟩, List.forall_mem_cons.mpr ⟨Or.inl ⟨yX12_lastsBy, cX12_lastsBy, 5, (some .long), 1, 21, _, sX12_lastsBy, ⟨by decide, by decide⟩, ⟨jX12_lastsBy, kRX12_416, uRX12⟩, ⟨by decide, by decide, rfl⟩, Or.inl ⟨rfl, rfl, iX12_lastsBy, recvX12_lastsBy⟩⟩, List.forall_mem_cons.mpr ⟨Or.inl ⟨yX12_common, cX12_common, 10, (some .long), 0, 0, _, sX12_common, ⟨by decide, by decide⟩, ⟨jX12_common, kRX12_423, uRX12⟩, ⟨by decide, by decide, rfl⟩, Or.inr (Or.inl ⟨rfl, rfl, iX12_common⟩)⟩, List.forall_mem_cons.mpr ⟨Or.inl ⟨yX12_ones, cX12_ones, 3, (some .int), 1, 21, _, sX12_ones, ⟨by decide, by decide⟩, ⟨jX12_ones, kRX12_285, uRX12⟩, ⟨by decide, by decide, rfl⟩, Or.inr (Or.inl ⟨rfl, rfl, iX12_ones⟩)⟩, List.forall_mem_cons.mpr ⟨Or.inl ⟨yX12_hand, cX12_hand, 3, (some .boolean), 2, 44, _, sX12_hand, ⟨by decide, by decide⟩, ⟨jX12_hand, kRX12_301, uRX12⟩, ⟨by decide, by decide, rfl⟩, Or.inl ⟨rfl, rfl, iX12_hand, recvX12_hand⟩⟩, List.forall_mem_cons.mpr ⟨Or.inl ⟨yX12_in, cX12_in, 3, (some .boolean), 0, 0, _, sX12_in, ⟨by decide, by decide⟩, ⟨jX12_in, kRX12_100, uRX12⟩, ⟨by decide, by decide, rfl⟩, Or.inr (Or.inl ⟨rfl, rfl, iX12_in⟩)⟩, fun _ h => absurd h List.not_mem_nil⟩⟩⟩⟩⟩⟩
theorem sX12_last : qm_Snd yX12_last cX12_last 8 (some .long) 3 66 wX12_last := qm_met (fld := fun k => qm_lk k pfRX12) (con := fun k => qm_lk k pcRX12) (call := fun k => qm_lk k [(420, 2, 1, wX12_tens), (416, 0, 2, wX12_lastsBy), (423, 2, 2, wX12_common), (285, 2, 1, wX12_ones), (301, 0, 2, wX12_hand), (100, 2, 3, wX12_in)]) (tab := qm_tab aX12_last) (plainFor_of_name (by decide)) (qm_fld_ok pfRX12_ok) (qm_con_ok pcRX12_ok) (fun idx kd n f hc => cX12_last_ok (idx, kd, n, f) (qm_lk_mem hc)) (qm_tab_ok aX12_last_ok) (fun vs h o hw => by
  unfold wX12_last at hw
  split at hw
  · obtain ⟨r, hr, rfl⟩ := Option.map_eq_some_iff.mp hw
    exact ⟨Nat.le_of_ble_eq_true rfl, rX12_last_0 (hr)⟩
  · cases hw)
theorem recvX12_last : ∀ vs h o, wX12_last vs h = some o → ∃ ci a rest, vs = qm_r 0 ci a :: rest ∧ qm_R ci = yX12_last.cls := by
  intro vs h o hw
  unfold wX12_last at hw
  split at hw
  · exact ⟨_, _, _, rfl, rfl⟩
  · cases hw
-- RX12 unlike(IIZ)I
theorem jX12_unlike : Jvm.Cond.code yX12_unlike cX12_unlike 9 (some .int) ∈ qm_all := List.mem_filter.mpr ⟨by decide +kernel, rfl⟩
theorem iX12_unlike : Jvm.Cond.instanceMethod yX12_unlike ∈ qm_all ∧ Jvm.Cond.selects yX12_unlike.cls yX12_unlike yX12_unlike ∈ qm_all := ⟨List.mem_filter.mpr ⟨by decide +kernel, rfl⟩, List.mem_filter.mpr ⟨by decide +kernel, rfl⟩⟩
def wX12_unlike : qm_C := fun vs h => match vs with
  | [.inr (.inr (some (0, 12, p0))), .inl p1, .inl p2, .inl p3] => (qX12_unlike p0 p1 p2 p3 h).map qm_Gi
  | _ => none
def aX12_unlike : List (Option (Instr × Nat)) := [some (.aload_n 0, 1), some (.iconst 0, 1), some (.putfield 88, 3), none, none, some (.aload_n 0, 1), some (.iconst 0, 1), some (.iload_n 1, 1), some (.invokevirtual 257, 3), none, none, some (.ifCond .eq 11, 3), none, none, some (.aload_n 0, 1), some (.iload_n 2, 1), some (.invokevirtual 301, 3), none, none, some (.ifCond .ne 6, 3), none, none, some (.bipush (-2), 2), none, some (.ireturn, 1), some (.iconst 1, 1), some (.istore 4, 2), none, some (.iload 4, 2), none, some (.bipush 8, 2), none, some (.if_icmp .gt 69, 3), none, none, some (.aload_n 0, 1), some (.getfield 69, 3), none, none, some (.iload 4, 2), none, some (.iconst 1, 1), some (.isub, 1), some (.iconst 0, 1), some (.iastore, 1), some (.iconst 1, 1), some (.istore 5, 2), none, some (.iload 5, 2), none, some (.bipush 8, 2), none, some (.if_icmp .gt 43, 3), none, none, some (.aload_n 0, 1), some (.getfield 69, 3), none, none, some (.iload 4, 2), none, some (.iconst 1, 1), some (.isub, 1), some (.dup2, 1), some (.iaload, 1), some (.aload_n 0, 1), some (.iload 5, 2), none, some (.iload 4, 2), none, some (.invokevirtual 313, 3), none, none, some (.iconst (-1), 1), some (.if_icmp .eq 12, 3), none, none, some (.iconst 1, 1), some (.iload 5, 2), none, some (.iconst 1, 1), some (.isub, 1), some (.ishl, 1), some (.goto 4, 3), none, none, some (.iconst 0, 1), some (.ior, 1), some (.iastore, 1), some (.iinc 5 1, 3), none, none, some (.goto (-44), 3), none, none, some (.iinc 4 1, 3), none, none, some (.goto (-70), 3), none, none, some (.aload_n 0, 1), some (.iload_n 1, 1), some (.invokevirtual 301, 3), none, none, some (.pop, 1), some (.iconst 0, 1), some (.istore 4, 2), none, some (.iconst 0, 1), some (.istore 5, 2), none, some (.iconst 1, 1), some (.istore 6, 2), none, some (.iload 6, 2), none, some (.bipush 8, 2), none, some (.if_icmp .gt 112, 3), none, none, some (.iconst 1, 1), some (.istore 7, 2), none, some (.iload 7, 2), none, some (.bipush 8, 2), none, some (.if_icmp .gt 96, 3), none, none, some (.aload_n 0, 1), some (.iload 7, 2), none, some (.iload 6, 2), none, some (.invokevirtual 313, 3), none, none, some (.iconst (-1), 1), some (.if_icmp .eq 7, 3), none, none, some (.iconst 1, 1), some (.goto 4, 3), none, none, some (.iconst 0, 1), some (.istore 8, 2), none, some (.iload 4, 2), none, some (.iload 8, 2), none, some (.ifCond .eq 26, 3), none, none, some (.aload_n 0, 1), some (.getfield 69, 3), none, none, some (.iload 6, 2), none, some (.iconst 1, 1), some (.isub, 1), some (.iaload, 1), some (.iload 7, 2), none, some (.iconst 1, 1), some (.isub, 1), some (.invokestatic 92, 3), none, none, some (.ifCond .ne 7, 3), none, none, some (.iconst 1, 1), some (.goto 4, 3), none, none, some (.iconst 0, 1), some (.iadd, 1), some (.istore 4, 2), none, some (.iload 5, 2), none, some (.iload 8, 2), none, some (.ifCond .ne 26, 3), none, none, some (.aload_n 0, 1), some (.getfield 69, 3), none, none, some (.iload 6, 2), none, some (.iconst 1, 1), some (.isub, 1), some (.iaload, 1), some (.iload 7, 2), none, some (.iconst 1, 1), some (.isub, 1), some (.invokestatic 92, 3), none, none, some (.ifCond .eq 7, 3), none, none, some (.iconst 1, 1), some (.goto 4, 3), none, none, some (.iconst 0, 1), some (.iadd, 1), some (.istore 5, 2), none, some (.iinc 7 1, 3), none, none, some (.goto (-97), 3), none, none, some (.iinc 6 1, 3), none, none, some (.goto (-113), 3), none, none, some (.iload_n 3, 1), some (.ifCond .ne 9, 3), none, none, some (.iload 4, 2), none, some (.iload 5, 2), none, some (.iadd, 1), some (.ireturn, 1), some (.iload 4, 2), none, some (.ifCond .ne 16, 3), none, none, some (.iload 5, 2), none, some (.ifCond .ne 7, 3), none, none, some (.iconst 2, 1), some (.goto 17, 3), none, none, some (.iconst 0, 1), some (.goto 13, 3), none, none, some (.iload 5, 2), none, some (.ifCond .ne 7, 3), none, none, some (.iconst 1, 1), some (.goto 4, 3), none, none, some (.iconst (-1), 1), some (.ireturn, 1)]
theorem aX12_unlike_ok : qm_tabok cX12_unlike aX12_unlike = true := by decide +kernel
def mX12_unlike : qm_M := ((some .int), (fun k => qm_lk k pfRX12), (fun k => qm_lk k pcRX12), (fun k => qm_lk k [(92, 2, 2, wX12_has), (313, 0, 3, wX12_slipsBy), (301, 0, 2, wX12_hand), (257, 0, 3, wX12_is)]), qm_tab aX12_unlike)
set_option maxRecDepth 20000 in
set_option maxHeartbeats 2000000 in
theorem rX12_unlike_183 {K116 : Nat → Int32 → Int32 → Int32 → Int32 → qm_H → Option (Int32 × qm_H)} {K126 : Nat → Int32 → Int32 → Int32 → Int32 → Int32 → qm_H → Option (Int32 × qm_H)} (H116 : ∀ {a0 : Nat} {x3 : Int32} {x4 : Int32} {x5 : Int32} {x6 : Int32} {xd1 : Int32} {xd2 : Int32} {d7 : Option qm_V} {d8 : Option qm_V} {h : qm_H} {r : Int32 × qm_H}, K116 a0 x3 x4 x5 x6 h = some r → qm_Ret mX12_unlike (116, [some (qm_r 0 12 a0), some (qm_i xd1), some (qm_i xd2), some (qm_i x3), some (qm_i x4), some (qm_i x5), some (qm_i x6), d7, d8], [], h) (qm_Gi r)) (H126 : ∀ {a0 : Nat} {x3 : Int32} {x4 : Int32} {x5 : Int32} {x6 : Int32} {x7 : Int32} {xd1 : Int32} {xd2 : Int32} {d8 : Option qm_V} {h : qm_H} {r : Int32 × qm_H}, K126 a0 x3 x4 x5 x6 x7 h = some r → qm_Ret mX12_unlike (126, [some (qm_r 0 12 a0), some (qm_i xd1), some (qm_i xd2), some (qm_i x3), some (qm_i x4), some (qm_i x5), some (qm_i x6), some (qm_i x7), d8], [], h) (qm_Gi r)) {a0 : Nat} {x3 : Int32} {x5 : Int32} {x6 : Int32} {x7 : Int32} {x8 : Int32} {xs0 : Int32} {xs1 : Int32} {xd1 : Int32} {xd2 : Int32} {xd4 : Int32} {h : qm_H} {r : Int32 × qm_H} (ho : qX12_unlike_183 K116 K126 a0 x3 x5 x6 x7 x8 xs0 xs1 h = some r) : qm_Ret mX12_unlike (183, [some (qm_r 0 12 a0), some (qm_i xd1), some (qm_i xd2), some (qm_i x3), some (qm_i xd4), some (qm_i x5), some (qm_i x6), some (qm_i x7), some (qm_i x8)], [qm_i xs0, qm_i xs1], h) (qm_Gi r) := by
  unfold qX12_unlike_183 at ho
  refine qm_Ret.sts 4 (f' := (190, [some (qm_r 0 12 a0), some (qm_i xd1), some (qm_i xd2), some (qm_i x3), some (qm_i (xs1 + xs0)), some (qm_i x5), some (qm_i x6), some (qm_i x7), some (qm_i x8)], [qm_i x8, qm_i x5], h)) rfl ?_
  refine qm_Ret.ne (t := 216) (e := 193) rfl (fun hc => ?_) (fun hc => ?_)
  · rw [if_pos hc] at ho
    refine qm_Ret.sts 5 (f' := (201, [some (qm_r 0 12 a0), some (qm_i xd1), some (qm_i xd2), some (qm_i x3), some (qm_i (xs1 + xs0)), some (qm_i x5), some (qm_i x6), some (qm_i x7), some (qm_i x8)], [qm_i (x6 - (1 : Int32)), qm_r 1 8 (a0 + 20), qm_i x5], h)) rfl ?_
    obtain ⟨hg, ho⟩ := qm_ifn ho
    refine qm_Ret.gn (f1 := (202, [some (qm_r 0 12 a0), some (qm_i xd1), some (qm_i xd2), some (qm_i x3), some (qm_i (xs1 + xs0)), some (qm_i x5), some (qm_i x6), some (qm_i x7), some (qm_i x8)], [qm_i (h.1 (a0 + 20) (x6 - (1 : Int32)).toNatClampNeg), qm_i x5], h)) hg rfl ?_
    refine qm_Ret.sts 3 (f' := (206, [some (qm_r 0 12 a0), some (qm_i xd1), some (qm_i xd2), some (qm_i x3), some (qm_i (xs1 + xs0)), some (qm_i x5), some (qm_i x6), some (qm_i x7), some (qm_i x8)], [qm_i (x7 - (1 : Int32)), qm_i (h.1 (a0 + 20) (x6 - (1 : Int32)).toNatClampNeg), qm_i x5], h)) rfl ?_
    obtain ⟨r3, h2, hr, ho⟩ := qm_b2e ho
    refine qm_Ret.call (X := wX12_has [qm_i (h.1 (a0 + 20) (x6 - (1 : Int32)).toNatClampNeg), qm_i (x7 - (1 : Int32))] h) (o1 := (some (qm_i r3), h2)) (qm_mp (G := qm_Gi) hr) rfl ?_
    show qm_Ret _ (209, [some (qm_r 0 12 a0), some (qm_i xd1), some (qm_i xd2), some (qm_i x3), some (qm_i (xs1 + xs0)), some (qm_i x5), some (qm_i x6), some (qm_i x7), some (qm_i x8)], [qm_i r3, qm_i x5], h2) _
    refine qm_Ret.eq (t := 216) (e := 212) rfl (fun hc => ?_) (fun hc => ?_)
    · rw [if_pos hc] at ho
      refine qm_Ret.sts 2 (f' := (218, [some (qm_r 0 12 a0), some (qm_i xd1), some (qm_i xd2), some (qm_i x3), some (qm_i (xs1 + xs0)), some (qm_i x5), some (qm_i x6), some (qm_i x7), some (qm_i x8)], [qm_i (x5 + (0 : Int32))], h2)) rfl ?_
      refine qm_Ret.lets (F := fun v4 => (218, [some (qm_r 0 12 a0), some (qm_i xd1), some (qm_i xd2), some (qm_i x3), some (qm_i (xs1 + xs0)), some (qm_i x5), some (qm_i x6), some (qm_i x7), some (qm_i x8)], [qm_i v4], h2)) (G := qm_Gi) ho (fun v4 ho => ?_)
      refine qm_Ret.sts 3 (f' := (126, [some (qm_r 0 12 a0), some (qm_i xd1), some (qm_i xd2), some (qm_i x3), some (qm_i (xs1 + xs0)), some (qm_i v4), some (qm_i x6), some (qm_i (x7 + (1 : Int32))), some (qm_i x8)], [], h2)) rfl ?_
      exact H126 ho
    · rw [if_neg hc] at ho
      refine qm_Ret.sts 3 (f' := (218, [some (qm_r 0 12 a0), some (qm_i xd1), some (qm_i xd2), some (qm_i x3), some (qm_i (xs1 + xs0)), some (qm_i x5), some (qm_i x6), some (qm_i x7), some (qm_i x8)], [qm_i (x5 + (1 : Int32))], h2)) rfl ?_
      refine qm_Ret.lets (F := fun v5 => (218, [some (qm_r 0 12 a0), some (qm_i xd1), some (qm_i xd2), some (qm_i x3), some (qm_i (xs1 + xs0)), some (qm_i x5), some (qm_i x6), some (qm_i x7), some (qm_i x8)], [qm_i v5], h2)) (G := qm_Gi) ho (fun v5 ho => ?_)
      refine qm_Ret.sts 3 (f' := (126, [some (qm_r 0 12 a0), some (qm_i xd1), some (qm_i xd2), some (qm_i x3), some (qm_i (xs1 + xs0)), some (qm_i v5), some (qm_i x6), some (qm_i (x7 + (1 : Int32))), some (qm_i x8)], [], h2)) rfl ?_
      exact H126 ho
  · rw [if_neg hc] at ho
    refine qm_Ret.sts 2 (f' := (218, [some (qm_r 0 12 a0), some (qm_i xd1), some (qm_i xd2), some (qm_i x3), some (qm_i (xs1 + xs0)), some (qm_i x5), some (qm_i x6), some (qm_i x7), some (qm_i x8)], [qm_i (x5 + (0 : Int32))], h)) rfl ?_
    refine qm_Ret.lets (F := fun v1 => (218, [some (qm_r 0 12 a0), some (qm_i xd1), some (qm_i xd2), some (qm_i x3), some (qm_i (xs1 + xs0)), some (qm_i x5), some (qm_i x6), some (qm_i x7), some (qm_i x8)], [qm_i v1], h)) (G := qm_Gi) ho (fun v1 ho => ?_)
    refine qm_Ret.sts 3 (f' := (126, [some (qm_r 0 12 a0), some (qm_i xd1), some (qm_i xd2), some (qm_i x3), some (qm_i (xs1 + xs0)), some (qm_i v1), some (qm_i x6), some (qm_i (x7 + (1 : Int32))), some (qm_i x8)], [], h)) rfl ?_
    exact H126 ho
set_option maxRecDepth 20000 in
set_option maxHeartbeats 2000000 in
theorem rX12_unlike_150 {K116 : Nat → Int32 → Int32 → Int32 → Int32 → qm_H → Option (Int32 × qm_H)} {K126 : Nat → Int32 → Int32 → Int32 → Int32 → Int32 → qm_H → Option (Int32 × qm_H)} (H116 : ∀ {a0 : Nat} {x3 : Int32} {x4 : Int32} {x5 : Int32} {x6 : Int32} {xd1 : Int32} {xd2 : Int32} {d7 : Option qm_V} {d8 : Option qm_V} {h : qm_H} {r : Int32 × qm_H}, K116 a0 x3 x4 x5 x6 h = some r → qm_Ret mX12_unlike (116, [some (qm_r 0 12 a0), some (qm_i xd1), some (qm_i xd2), some (qm_i x3), some (qm_i x4), some (qm_i x5), some (qm_i x6), d7, d8], [], h) (qm_Gi r)) (H126 : ∀ {a0 : Nat} {x3 : Int32} {x4 : Int32} {x5 : Int32} {x6 : Int32} {x7 : Int32} {xd1 : Int32} {xd2 : Int32} {d8 : Option qm_V} {h : qm_H} {r : Int32 × qm_H}, K126 a0 x3 x4 x5 x6 x7 h = some r → qm_Ret mX12_unlike (126, [some (qm_r 0 12 a0), some (qm_i xd1), some (qm_i xd2), some (qm_i x3), some (qm_i x4), some (qm_i x5), some (qm_i x6), some (qm_i x7), d8], [], h) (qm_Gi r)) {a0 : Nat} {x3 : Int32} {x4 : Int32} {x5 : Int32} {x6 : Int32} {x7 : Int32} {xs0 : Int32} {xd1 : Int32} {xd2 : Int32} {d8 : Option qm_V} {h : qm_H} {r : Int32 × qm_H} (ho : qX12_unlike_150 K116 K126 a0 x3 x4 x5 x6 x7 xs0 h = some r) : qm_Ret mX12_unlike (150, [some (qm_r 0 12 a0), some (qm_i xd1), some (qm_i xd2), some (qm_i x3), some (qm_i x4), some (qm_i x5), some (qm_i x6), some (qm_i x7), d8], [qm_i xs0], h) (qm_Gi r) := by
  unfold qX12_unlike_150 at ho
  refine qm_Ret.sts 3 (f' := (156, [some (qm_r 0 12 a0), some (qm_i xd1), some (qm_i xd2), some (qm_i x3), some (qm_i x4), some (qm_i x5), some (qm_i x6), some (qm_i x7), some (qm_i xs0)], [qm_i xs0, qm_i x4], h)) rfl ?_
  refine qm_Ret.eq (t := 182) (e := 159) rfl (fun hc => ?_) (fun hc => ?_)
  · rw [if_pos hc] at ho
    refine qm_Ret.sts 1 (f' := (183, [some (qm_r 0 12 a0), some (qm_i xd1), some (qm_i xd2), some (qm_i x3), some (qm_i x4), some (qm_i x5), some (qm_i x6), some (qm_i x7), some (qm_i xs0)], [qm_i (0 : Int32), qm_i x4], h)) rfl ?_
    exact rX12_unlike_183 H116 H126 ho
  · rw [if_neg hc] at ho
    refine qm_Ret.sts 5 (f' := (167, [some (qm_r 0 12 a0), some (qm_i xd1), some (qm_i xd2), some (qm_i x3), some (qm_i x4), some (qm_i x5), some (qm_i x6), some (qm_i x7), some (qm_i xs0)], [qm_i (x6 - (1 : Int32)), qm_r 1 8 (a0 + 20), qm_i x4], h)) rfl ?_
    obtain ⟨hg, ho⟩ := qm_ifn ho
    refine qm_Ret.gn (f1 := (168, [some (qm_r 0 12 a0), some (qm_i xd1), some (qm_i xd2), some (qm_i x3), some (qm_i x4), some (qm_i x5), some (qm_i x6), some (qm_i x7), some (qm_i xs0)], [qm_i (h.1 (a0 + 20) (x6 - (1 : Int32)).toNatClampNeg), qm_i x4], h)) hg rfl ?_
    refine qm_Ret.sts 3 (f' := (172, [some (qm_r 0 12 a0), some (qm_i xd1), some (qm_i xd2), some (qm_i x3), some (qm_i x4), some (qm_i x5), some (qm_i x6), some (qm_i x7), some (qm_i xs0)], [qm_i (x7 - (1 : Int32)), qm_i (h.1 (a0 + 20) (x6 - (1 : Int32)).toNatClampNeg), qm_i x4], h)) rfl ?_
    obtain ⟨r2, h1, hr, ho⟩ := qm_b2e ho
    refine qm_Ret.call (X := wX12_has [qm_i (h.1 (a0 + 20) (x6 - (1 : Int32)).toNatClampNeg), qm_i (x7 - (1 : Int32))] h) (o1 := (some (qm_i r2), h1)) (qm_mp (G := qm_Gi) hr) rfl ?_
    show qm_Ret _ (175, [some (qm_r 0 12 a0), some (qm_i xd1), some (qm_i xd2), some (qm_i x3), some (qm_i x4), some (qm_i x5), some (qm_i x6), some (qm_i x7), some (qm_i xs0)], [qm_i r2, qm_i x4], h1) _
    refine qm_Ret.ne (t := 182) (e := 178) rfl (fun hc => ?_) (fun hc => ?_)
    · rw [if_pos hc] at ho
      refine qm_Ret.sts 2 (f' := (183, [some (qm_r 0 12 a0), some (qm_i xd1), some (qm_i xd2), some (qm_i x3), some (qm_i x4), some (qm_i x5), some (qm_i x6), some (qm_i x7), some (qm_i xs0)], [qm_i (1 : Int32), qm_i x4], h1)) rfl ?_
      exact rX12_unlike_183 H116 H126 ho
    · rw [if_neg hc] at ho
      refine qm_Ret.sts 1 (f' := (183, [some (qm_r 0 12 a0), some (qm_i xd1), some (qm_i xd2), some (qm_i x3), some (qm_i x4), some (qm_i x5), some (qm_i x6), some (qm_i x7), some (qm_i xs0)], [qm_i (0 : Int32), qm_i x4], h1)) rfl ?_
      exact rX12_unlike_183 H116 H126 ho
set_option maxRecDepth 20000 in
set_option maxHeartbeats 2000000 in
theorem rX12_unlike_126 {K116 : Nat → Int32 → Int32 → Int32 → Int32 → qm_H → Option (Int32 × qm_H)} (H116 : ∀ {a0 : Nat} {x3 : Int32} {x4 : Int32} {x5 : Int32} {x6 : Int32} {xd1 : Int32} {xd2 : Int32} {d7 : Option qm_V} {d8 : Option qm_V} {h : qm_H} {r : Int32 × qm_H}, K116 a0 x3 x4 x5 x6 h = some r → qm_Ret mX12_unlike (116, [some (qm_r 0 12 a0), some (qm_i xd1), some (qm_i xd2), some (qm_i x3), some (qm_i x4), some (qm_i x5), some (qm_i x6), d7, d8], [], h) (qm_Gi r)) : ∀ {fuel : Nat} {a0 : Nat} {x3 : Int32} {x4 : Int32} {x5 : Int32} {x6 : Int32} {x7 : Int32} {xd1 : Int32} {xd2 : Int32} {d8 : Option qm_V} {h : qm_H} {r : Int32 × qm_H}, qX12_unlike_126 K116 fuel a0 x3 x4 x5 x6 x7 h = some r → qm_Ret mX12_unlike (126, [some (qm_r 0 12 a0), some (qm_i xd1), some (qm_i xd2), some (qm_i x3), some (qm_i x4), some (qm_i x5), some (qm_i x6), some (qm_i x7), d8], [], h) (qm_Gi r) := by
  intro fuel
  induction fuel with
  | zero => intros; rename_i ho; cases ho
  | succ n ih =>
    intro a0 x3 x4 x5 x6 x7 xd1 xd2 d8 h r ho
    unfold qX12_unlike_126 at ho
    refine qm_Ret.sts 2 (f' := (130, [some (qm_r 0 12 a0), some (qm_i xd1), some (qm_i xd2), some (qm_i x3), some (qm_i x4), some (qm_i x5), some (qm_i x6), some (qm_i x7), d8], [qm_i (8 : Int32), qm_i x7], h)) rfl ?_
    refine qm_Ret.gt (t := 226) (e := 133) rfl (fun hc => ?_) (fun hc => ?_)
    · rw [if_pos hc] at ho
      refine qm_Ret.sts 2 (f' := (116, [some (qm_r 0 12 a0), some (qm_i xd1), some (qm_i xd2), some (qm_i x3), some (qm_i x4), some (qm_i x5), some (qm_i (x6 + (1 : Int32))), some (qm_i x7), d8], [], h)) rfl ?_
      exact H116 ho
    · rw [if_neg hc] at ho
      refine qm_Ret.sts 3 (f' := (138, [some (qm_r 0 12 a0), some (qm_i xd1), some (qm_i xd2), some (qm_i x3), some (qm_i x4), some (qm_i x5), some (qm_i x6), some (qm_i x7), d8], [qm_i x6, qm_i x7, qm_r 0 12 a0], h)) rfl ?_
      obtain ⟨r2, h1, hr, ho⟩ := qm_b2e ho
      refine qm_Ret.call (X := wX12_slipsBy [qm_r 0 12 a0, qm_i x7, qm_i x6] h) (o1 := (some (qm_i r2), h1)) (qm_mp (G := qm_Gi) hr) rfl ?_
      show qm_Ret _ (141, [some (qm_r 0 12 a0), some (qm_i xd1), some (qm_i xd2), some (qm_i x3), some (qm_i x4), some (qm_i x5), some (qm_i x6), some (qm_i x7), d8], [qm_i r2], h1) _
      refine qm_Ret.sts 1 (f' := (142, [some (qm_r 0 12 a0), some (qm_i xd1), some (qm_i xd2), some (qm_i x3), some (qm_i x4), some (qm_i x5), some (qm_i x6), some (qm_i x7), d8], [qm_i (-1 : Int32), qm_i r2], h1)) rfl ?_
      refine qm_Ret.eq (t := 149) (e := 145) rfl (fun hc => ?_) (fun hc => ?_)
      · rw [if_pos hc] at ho
        refine qm_Ret.sts 1 (f' := (150, [some (qm_r 0 12 a0), some (qm_i xd1), some (qm_i xd2), some (qm_i x3), some (qm_i x4), some (qm_i x5), some (qm_i x6), some (qm_i x7), d8], [qm_i (0 : Int32)], h1)) rfl ?_
        exact rX12_unlike_150 H116 (ih) ho
      · rw [if_neg hc] at ho
        refine qm_Ret.sts 2 (f' := (150, [some (qm_r 0 12 a0), some (qm_i xd1), some (qm_i xd2), some (qm_i x3), some (qm_i x4), some (qm_i x5), some (qm_i x6), some (qm_i x7), d8], [qm_i (1 : Int32)], h1)) rfl ?_
        exact rX12_unlike_150 H116 (ih) ho
set_option maxRecDepth 20000 in
set_option maxHeartbeats 2000000 in
theorem rX12_unlike_116   : ∀ {fuel : Nat} {a0 : Nat} {x3 : Int32} {x4 : Int32} {x5 : Int32} {x6 : Int32} {xd1 : Int32} {xd2 : Int32} {d7 : Option qm_V} {d8 : Option qm_V} {h : qm_H} {r : Int32 × qm_H}, qX12_unlike_116  fuel a0 x3 x4 x5 x6 h = some r → qm_Ret mX12_unlike (116, [some (qm_r 0 12 a0), some (qm_i xd1), some (qm_i xd2), some (qm_i x3), some (qm_i x4), some (qm_i x5), some (qm_i x6), d7, d8], [], h) (qm_Gi r) := by
  intro fuel
  induction fuel with
  | zero => intros; rename_i ho; cases ho
  | succ n ih =>
    intro a0 x3 x4 x5 x6 xd1 xd2 d7 d8 h r ho
    unfold qX12_unlike_116 at ho
    refine qm_Ret.sts 2 (f' := (120, [some (qm_r 0 12 a0), some (qm_i xd1), some (qm_i xd2), some (qm_i x3), some (qm_i x4), some (qm_i x5), some (qm_i x6), d7, d8], [qm_i (8 : Int32), qm_i x6], h)) rfl ?_
    refine qm_Ret.gt (t := 232) (e := 123) rfl (fun hc => ?_) (fun hc => ?_)
    · rw [if_pos hc] at ho
      refine qm_Ret.sts 1 (f' := (233, [some (qm_r 0 12 a0), some (qm_i xd1), some (qm_i xd2), some (qm_i x3), some (qm_i x4), some (qm_i x5), some (qm_i x6), d7, d8], [qm_i x3], h)) rfl ?_
      refine qm_Ret.ne (t := 242) (e := 236) rfl (fun hc => ?_) (fun hc => ?_)
      · rw [if_pos hc] at ho
        cases ho
        exact qm_Ret.ret 4 rfl
      · rw [if_neg hc] at ho
        refine qm_Ret.sts 1 (f' := (244, [some (qm_r 0 12 a0), some (qm_i xd1), some (qm_i xd2), some (qm_i x3), some (qm_i x4), some (qm_i x5), some (qm_i x6), d7, d8], [qm_i x4], h)) rfl ?_
        refine qm_Ret.ne (t := 260) (e := 247) rfl (fun hc => ?_) (fun hc => ?_)
        · rw [if_pos hc] at ho
          refine qm_Ret.sts 1 (f' := (249, [some (qm_r 0 12 a0), some (qm_i xd1), some (qm_i xd2), some (qm_i x3), some (qm_i x4), some (qm_i x5), some (qm_i x6), d7, d8], [qm_i x5], h)) rfl ?_
          refine qm_Ret.ne (t := 256) (e := 252) rfl (fun hc => ?_) (fun hc => ?_)
          · rw [if_pos hc] at ho
            cases ho
            exact qm_Ret.ret 3 rfl
          · rw [if_neg hc] at ho
            cases ho
            exact qm_Ret.ret 3 rfl
        · rw [if_neg hc] at ho
          refine qm_Ret.sts 1 (f' := (262, [some (qm_r 0 12 a0), some (qm_i xd1), some (qm_i xd2), some (qm_i x3), some (qm_i x4), some (qm_i x5), some (qm_i x6), d7, d8], [qm_i x5], h)) rfl ?_
          refine qm_Ret.ne (t := 269) (e := 265) rfl (fun hc => ?_) (fun hc => ?_)
          · rw [if_pos hc] at ho
            cases ho
            exact qm_Ret.ret 3 rfl
          · rw [if_neg hc] at ho
            cases ho
            exact qm_Ret.ret 2 rfl
    · rw [if_neg hc] at ho
      refine qm_Ret.sts 2 (f' := (126, [some (qm_r 0 12 a0), some (qm_i xd1), some (qm_i xd2), some (qm_i x3), some (qm_i x4), some (qm_i x5), some (qm_i x6), some (qm_i (1 : Int32)), d8], [], h)) rfl ?_
      exact rX12_unlike_126 (ih) ho
set_option maxRecDepth 20000 in
set_option maxHeartbeats 2000000 in
theorem rX12_unlike_48 {K28 : Nat → Int32 → Int32 → Int32 → qm_H → Option (Int32 × qm_H)} (H28 : ∀ {a0 : Nat} {x1 : Int32} {x3 : Int32} {x4 : Int32} {xd2 : Int32} {d5 : Option qm_V} {h : qm_H} {r : Int32 × qm_H}, K28 a0 x1 x3 x4 h = some r → qm_Ret mX12_unlike (28, [some (qm_r 0 12 a0), some (qm_i x1), some (qm_i xd2), some (qm_i x3), some (qm_i x4), d5, none, none, none], [], h) (qm_Gi r)) : ∀ {fuel : Nat} {a0 : Nat} {x1 : Int32} {x3 : Int32} {x4 : Int32} {x5 : Int32} {xd2 : Int32} {h : qm_H} {r : Int32 × qm_H}, qX12_unlike_48 K28 fuel a0 x1 x3 x4 x5 h = some r → qm_Ret mX12_unlike (48, [some (qm_r 0 12 a0), some (qm_i x1), some (qm_i xd2), some (qm_i x3), some (qm_i x4), some (qm_i x5), none, none, none], [], h) (qm_Gi r) := by
  intro fuel
  induction fuel with
  | zero => intros; rename_i ho; cases ho
  | succ n ih =>
    intro a0 x1 x3 x4 x5 xd2 h r ho
    unfold qX12_unlike_48 at ho
    refine qm_Ret.sts 2 (f' := (52, [some (qm_r 0 12 a0), some (qm_i x1), some (qm_i xd2), some (qm_i x3), some (qm_i x4), some (qm_i x5), none, none, none], [qm_i (8 : Int32), qm_i x5], h)) rfl ?_
    refine qm_Ret.gt (t := 95) (e := 55) rfl (fun hc => ?_) (fun hc => ?_)
    · rw [if_pos hc] at ho
      refine qm_Ret.sts 2 (f' := (28, [some (qm_r 0 12 a0), some (qm_i x1), some (qm_i xd2), some (qm_i x3), some (qm_i (x4 + (1 : Int32))), some (qm_i x5), none, none, none], [], h)) rfl ?_
      exact H28 ho
    · rw [if_neg hc] at ho
      refine qm_Ret.sts 6 (f' := (64, [some (qm_r 0 12 a0), some (qm_i x1), some (qm_i xd2), some (qm_i x3), some (qm_i x4), some (qm_i x5), none, none, none], [qm_i (x4 - (1 : Int32)), qm_r 1 8 (a0 + 20), qm_i (x4 - (1 : Int32)), qm_r 1 8 (a0 + 20)], h)) rfl ?_
      obtain ⟨hg, ho⟩ := qm_ifn ho
      refine qm_Ret.gn (f1 := (65, [some (qm_r 0 12 a0), some (qm_i x1), some (qm_i xd2), some (qm_i x3), some (qm_i x4), some (qm_i x5), none, none, none], [qm_i (h.1 (a0 + 20) (x4 - (1 : Int32)).toNatClampNeg), qm_i (x4 - (1 : Int32)), qm_r 1 8 (a0 + 20)], h)) hg rfl ?_
      refine qm_Ret.sts 3 (f' := (70, [some (qm_r 0 12 a0), some (qm_i x1), some (qm_i xd2), some (qm_i x3), some (qm_i x4), some (qm_i x5), none, none, none], [qm_i x4, qm_i x5, qm_r 0 12 a0, qm_i (h.1 (a0 + 20) (x4 - (1 : Int32)).toNatClampNeg), qm_i (x4 - (1 : Int32)), qm_r 1 8 (a0 + 20)], h)) rfl ?_
      obtain ⟨r2, h1, hr, ho⟩ := qm_b2e ho
      refine qm_Ret.call (X := wX12_slipsBy [qm_r 0 12 a0, qm_i x5, qm_i x4] h) (o1 := (some (qm_i r2), h1)) (qm_mp (G := qm_Gi) hr) rfl ?_
      show qm_Ret _ (73, [some (qm_r 0 12 a0), some (qm_i x1), some (qm_i xd2), some (qm_i x3), some (qm_i x4), some (qm_i x5), none, none, none], [qm_i r2, qm_i (h.1 (a0 + 20) (x4 - (1 : Int32)).toNatClampNeg), qm_i (x4 - (1 : Int32)), qm_r 1 8 (a0 + 20)], h1) _
      refine qm_Ret.sts 1 (f' := (74, [some (qm_r 0 12 a0), some (qm_i x1), some (qm_i xd2), some (qm_i x3), some (qm_i x4), some (qm_i x5), none, none, none], [qm_i (-1 : Int32), qm_i r2, qm_i (h.1 (a0 + 20) (x4 - (1 : Int32)).toNatClampNeg), qm_i (x4 - (1 : Int32)), qm_r 1 8 (a0 + 20)], h1)) rfl ?_
      refine qm_Ret.eq (t := 86) (e := 77) rfl (fun hc => ?_) (fun hc => ?_)
      · rw [if_pos hc] at ho
        refine qm_Ret.sts 2 (f' := (88, [some (qm_r 0 12 a0), some (qm_i x1), some (qm_i xd2), some (qm_i x3), some (qm_i x4), some (qm_i x5), none, none, none], [qm_i ((h.1 (a0 + 20) (x4 - (1 : Int32)).toNatClampNeg) ||| (0 : Int32)), qm_i (x4 - (1 : Int32)), qm_r 1 8 (a0 + 20)], h1)) rfl ?_
        obtain ⟨hg, ho⟩ := qm_ifn ho
        refine qm_Ret.gn (f1 := (89, [some (qm_r 0 12 a0), some (qm_i x1), some (qm_i xd2), some (qm_i x3), some (qm_i x4), some (qm_i x5), none, none, none], [], (qm_seti h1 (a0 + 20) (x4 - (1 : Int32)).toNatClampNeg ((h.1 (a0 + 20) (x4 - (1 : Int32)).toNatClampNeg) ||| (0 : Int32))))) hg rfl ?_
        refine qm_Ret.lets (F := fun h3 => (89, [some (qm_r 0 12 a0), some (qm_i x1), some (qm_i xd2), some (qm_i x3), some (qm_i x4), some (qm_i x5), none, none, none], [], h3)) (G := qm_Gi) ho (fun h3 ho => ?_)
        refine qm_Ret.sts 2 (f' := (48, [some (qm_r 0 12 a0), some (qm_i x1), some (qm_i xd2), some (qm_i x3), some (qm_i x4), some (qm_i (x5 + (1 : Int32))), none, none, none], [], h3)) rfl ?_
        exact ih ho
      · rw [if_neg hc] at ho
        refine qm_Ret.sts 7 (f' := (88, [some (qm_r 0 12 a0), some (qm_i x1), some (qm_i xd2), some (qm_i x3), some (qm_i x4), some (qm_i x5), none, none, none], [qm_i ((h.1 (a0 + 20) (x4 - (1 : Int32)).toNatClampNeg) ||| (qm_ishl (1 : Int32) (x5 - (1 : Int32)))), qm_i (x4 - (1 : Int32)), qm_r 1 8 (a0 + 20)], h1)) rfl ?_
        obtain ⟨hg, ho⟩ := qm_ifn ho
        refine qm_Ret.gn (f1 := (89, [some (qm_r 0 12 a0), some (qm_i x1), some (qm_i xd2), some (qm_i x3), some (qm_i x4), some (qm_i x5), none, none, none], [], (qm_seti h1 (a0 + 20) (x4 - (1 : Int32)).toNatClampNeg ((h.1 (a0 + 20) (x4 - (1 : Int32)).toNatClampNeg) ||| (qm_ishl (1 : Int32) (x5 - (1 : Int32))))))) hg rfl ?_
        refine qm_Ret.lets (F := fun h4 => (89, [some (qm_r 0 12 a0), some (qm_i x1), some (qm_i xd2), some (qm_i x3), some (qm_i x4), some (qm_i x5), none, none, none], [], h4)) (G := qm_Gi) ho (fun h4 ho => ?_)
        refine qm_Ret.sts 2 (f' := (48, [some (qm_r 0 12 a0), some (qm_i x1), some (qm_i xd2), some (qm_i x3), some (qm_i x4), some (qm_i (x5 + (1 : Int32))), none, none, none], [], h4)) rfl ?_
        exact ih ho
set_option maxRecDepth 20000 in
set_option maxHeartbeats 2000000 in
theorem rX12_unlike_28   : ∀ {fuel : Nat} {a0 : Nat} {x1 : Int32} {x3 : Int32} {x4 : Int32} {xd2 : Int32} {d5 : Option qm_V} {h : qm_H} {r : Int32 × qm_H}, qX12_unlike_28  fuel a0 x1 x3 x4 h = some r → qm_Ret mX12_unlike (28, [some (qm_r 0 12 a0), some (qm_i x1), some (qm_i xd2), some (qm_i x3), some (qm_i x4), d5, none, none, none], [], h) (qm_Gi r) := by
  intro fuel
  induction fuel with
  | zero => intros; rename_i ho; cases ho
  | succ n ih =>
    intro a0 x1 x3 x4 xd2 d5 h r ho
    unfold qX12_unlike_28 at ho
    refine qm_Ret.sts 2 (f' := (32, [some (qm_r 0 12 a0), some (qm_i x1), some (qm_i xd2), some (qm_i x3), some (qm_i x4), d5, none, none, none], [qm_i (8 : Int32), qm_i x4], h)) rfl ?_
    refine qm_Ret.gt (t := 101) (e := 35) rfl (fun hc => ?_) (fun hc => ?_)
    · rw [if_pos hc] at ho
      refine qm_Ret.sts 2 (f' := (103, [some (qm_r 0 12 a0), some (qm_i x1), some (qm_i xd2), some (qm_i x3), some (qm_i x4), d5, none, none, none], [qm_i x1, qm_r 0 12 a0], h)) rfl ?_
      obtain ⟨r2, h1, hr, ho⟩ := qm_b2e ho
      refine qm_Ret.call (X := wX12_hand [qm_r 0 12 a0, qm_i x1] h) (o1 := (some (qm_i r2), h1)) (qm_mp (G := qm_Gi) hr) rfl ?_
      show qm_Ret _ (106, [some (qm_r 0 12 a0), some (qm_i x1), some (qm_i xd2), some (qm_i x3), some (qm_i x4), d5, none, none, none], [qm_i r2], h1) _
      refine qm_Ret.sts 7 (f' := (116, [some (qm_r 0 12 a0), some (qm_i x1), some (qm_i xd2), some (qm_i x3), some (qm_i (0 : Int32)), some (qm_i (0 : Int32)), some (qm_i (1 : Int32)), none, none], [], h1)) rfl ?_
      exact rX12_unlike_116 ho
    · rw [if_neg hc] at ho
      refine qm_Ret.sts 6 (f' := (44, [some (qm_r 0 12 a0), some (qm_i x1), some (qm_i xd2), some (qm_i x3), some (qm_i x4), d5, none, none, none], [qm_i (0 : Int32), qm_i (x4 - (1 : Int32)), qm_r 1 8 (a0 + 20)], h)) rfl ?_
      obtain ⟨hg, ho⟩ := qm_ifn ho
      refine qm_Ret.gn (f1 := (45, [some (qm_r 0 12 a0), some (qm_i x1), some (qm_i xd2), some (qm_i x3), some (qm_i x4), d5, none, none, none], [], (qm_seti h (a0 + 20) (x4 - (1 : Int32)).toNatClampNeg (0 : Int32)))) hg rfl ?_
      refine qm_Ret.lets (F := fun h3 => (45, [some (qm_r 0 12 a0), some (qm_i x1), some (qm_i xd2), some (qm_i x3), some (qm_i x4), d5, none, none, none], [], h3)) (G := qm_Gi) ho (fun h3 ho => ?_)
      refine qm_Ret.sts 2 (f' := (48, [some (qm_r 0 12 a0), some (qm_i x1), some (qm_i xd2), some (qm_i x3), some (qm_i x4), some (qm_i (1 : Int32)), none, none, none], [], h3)) rfl ?_
      exact rX12_unlike_48 (ih) ho
set_option maxRecDepth 20000 in
set_option maxHeartbeats 2000000 in
theorem rX12_unlike_0   {a0 : Nat} {x1 : Int32} {x2 : Int32} {x3 : Int32} {h : qm_H} {r : Int32 × qm_H} (ho : qX12_unlike  a0 x1 x2 x3 h = some r) : qm_Ret mX12_unlike (0, [some (qm_r 0 12 a0), some (qm_i x1), some (qm_i x2), some (qm_i x3), none, none, none, none, none], [], h) (qm_Gi r) := by
  unfold qX12_unlike at ho
  refine qm_Ret.sts 3 (f' := (5, [some (qm_r 0 12 a0), some (qm_i x1), some (qm_i x2), some (qm_i x3), none, none, none, none, none], [], (qm_seti h a0 0 (0 : Int32)))) rfl ?_
  refine qm_Ret.lets (F := fun h1 => (5, [some (qm_r 0 12 a0), some (qm_i x1), some (qm_i x2), some (qm_i x3), none, none, none, none, none], [], h1)) (G := qm_Gi) ho (fun h1 ho => ?_)
  refine qm_Ret.sts 3 (f' := (8, [some (qm_r 0 12 a0), some (qm_i x1), some (qm_i x2), some (qm_i x3), none, none, none, none, none], [qm_i x1, qm_i (0 : Int32), qm_r 0 12 a0], h1)) rfl ?_
  obtain ⟨r3, h2, hr, ho⟩ := qm_b2e ho
  refine qm_Ret.call (X := wX12_is [qm_r 0 12 a0, qm_i (0 : Int32), qm_i x1] h1) (o1 := (some (qm_i r3), h2)) (qm_mp (G := qm_Gi) hr) rfl ?_
  show qm_Ret _ (11, [some (qm_r 0 12 a0), some (qm_i x1), some (qm_i x2), some (qm_i x3), none, none, none, none, none], [qm_i r3], h2) _
  refine qm_Ret.eq (t := 22) (e := 14) rfl (fun hc => ?_) (fun hc => ?_)
  · rw [if_pos hc] at ho
    cases ho
    exact qm_Ret.ret 2 rfl
  · rw [if_neg hc] at ho
    refine qm_Ret.sts 2 (f' := (16, [some (qm_r 0 12 a0), some (qm_i x1), some (qm_i x2), some (qm_i x3), none, none, none, none, none], [qm_i x2, qm_r 0 12 a0], h2)) rfl ?_
    obtain ⟨r5, h4, hr, ho⟩ := qm_b2e ho
    refine qm_Ret.call (X := wX12_hand [qm_r 0 12 a0, qm_i x2] h2) (o1 := (some (qm_i r5), h4)) (qm_mp (G := qm_Gi) hr) rfl ?_
    show qm_Ret _ (19, [some (qm_r 0 12 a0), some (qm_i x1), some (qm_i x2), some (qm_i x3), none, none, none, none, none], [qm_i r5], h4) _
    refine qm_Ret.ne (t := 25) (e := 22) rfl (fun hc => ?_) (fun hc => ?_)
    · rw [if_pos hc] at ho
      cases ho
      exact qm_Ret.ret 2 rfl
    · rw [if_neg hc] at ho
      refine qm_Ret.sts 2 (f' := (28, [some (qm_r 0 12 a0), some (qm_i x1), some (qm_i x2), some (qm_i x3), some (qm_i (1 : Int32)), none, none, none, none], [], h4)) rfl ?_
      exact rX12_unlike_28 ho
theorem cX12_unlike_ok : ∀ q ∈ ([(92, 2, 2, wX12_has), (313, 0, 3, wX12_slipsBy), (301, 0, 2, wX12_hand), (257, 0, 3, wX12_is)] : List (Nat × Nat × Nat × qm_C)), qm_CallOK RX12 4 95 q.2.1 q.1 q.2.2.1 q.2.2.2 := List.forall_mem_cons.mpr ⟨Or.inl ⟨yX12_has, cX12_has, 2, (some .boolean), 0, 0, _, sX12_has, ⟨by decide, by decide⟩, ⟨jX12_has, kRX12_92, uRX12⟩, ⟨by decide, by decide, rfl⟩, Or.inr (Or.inl ⟨rfl, rfl, iX12_has⟩)⟩, List.forall_mem_cons.mpr ⟨Or.inl ⟨yX12_slipsBy, cX12_slipsBy, 4, (some .int), 3, 72, _, sX12_slipsBy, ⟨by decide, by decide⟩, ⟨jX12_slipsBy, kRX12_313, uRX12⟩, ⟨by decide, by decide, rfl⟩, Or.inl ⟨rfl, rfl, iX12_slipsBy, recvX12_slipsBy⟩⟩, List.forall_mem_cons.mpr ⟨Or.inl ⟨yX12_hand, cX12_hand, 3, (some .boolean), 2, 44, _, sX12_hand, ⟨by decide, by decide⟩, ⟨jX12_hand, kRX12_301, uRX12⟩, ⟨by decide, by decide, rfl⟩, Or.inl ⟨rfl, rfl, iX12_hand, recvX12_hand⟩⟩, List.forall_mem_cons.mpr ⟨Or.inl ⟨yX12_is, cX12_is, 3, (some .boolean), 1, 22, _, sX12_is, ⟨by decide, by decide⟩, ⟨jX12_is, kRX12_257, uRX12⟩, ⟨by decide, by decide, rfl⟩, Or.inl ⟨rfl, rfl, iX12_is, recvX12_is⟩⟩, fun _ h => absurd h List.not_mem_nil⟩⟩⟩⟩
theorem sX12_unlike : qm_Snd yX12_unlike cX12_unlike 9 (some .int) 4 95 wX12_unlike := qm_met (fld := fun k => qm_lk k pfRX12) (con := fun k => qm_lk k pcRX12) (call := fun k => qm_lk k [(92, 2, 2, wX12_has), (313, 0, 3, wX12_slipsBy), (301, 0, 2, wX12_hand), (257, 0, 3, wX12_is)]) (tab := qm_tab aX12_unlike) (plainFor_of_name (by decide)) (qm_fld_ok pfRX12_ok) (qm_con_ok pcRX12_ok) (fun idx kd n f hc => cX12_unlike_ok (idx, kd, n, f) (qm_lk_mem hc)) (qm_tab_ok aX12_unlike_ok) (fun vs h o hw => by
  unfold wX12_unlike at hw
  split at hw
  · obtain ⟨r, hr, rfl⟩ := Option.map_eq_some_iff.mp hw
    exact ⟨Nat.le_of_ble_eq_true rfl, rX12_unlike_0 (hr)⟩
  · cases hw)
theorem recvX12_unlike : ∀ vs h o, wX12_unlike vs h = some o → ∃ ci a rest, vs = qm_r 0 ci a :: rest ∧ qm_R ci = yX12_unlike.cls := by
  intro vs h o hw
  unfold wX12_unlike at hw
  split at hw
  · exact ⟨_, _, _, rfl, rfl⟩
  · cases hw
-- RX12 parishOf(I)I
theorem jX12_parishOf : Jvm.Cond.code yX12_parishOf cX12_parishOf 2 (some .int) ∈ qm_all := List.mem_filter.mpr ⟨by decide +kernel, rfl⟩
theorem iX12_parishOf : Jvm.Cond.instanceMethod yX12_parishOf ∈ qm_all ∧ Jvm.Cond.selects yX12_parishOf.cls yX12_parishOf yX12_parishOf ∈ qm_all := ⟨List.mem_filter.mpr ⟨by decide +kernel, rfl⟩, List.mem_filter.mpr ⟨by decide +kernel, rfl⟩⟩
def wX12_parishOf : qm_C := fun vs h => match vs with
  | [.inr (.inr (some (0, 12, p0))), .inl p1] => (qX12_parishOf p0 p1 h).map qm_Gi
  | _ => none
def aX12_parishOf : List (Option (Instr × Nat)) := [some (.aload_n 0, 1), some (.getfield 32, 3), none, none, some (.bipush 17, 2), none, some (.aload_n 0, 1), some (.getfield 427, 3), none, none, some (.imul, 1), some (.iload_n 1, 1), some (.iadd, 1), some (.iaload, 1), some (.ireturn, 1)]
theorem aX12_parishOf_ok : qm_tabok cX12_parishOf aX12_parishOf = true := by decide +kernel
def mX12_parishOf : qm_M := ((some .int), (fun k => qm_lk k pfRX12), (fun k => qm_lk k pcRX12), (fun k => qm_lk k []), qm_tab aX12_parishOf)
set_option maxRecDepth 20000 in
set_option maxHeartbeats 2000000 in
theorem rX12_parishOf_0   {a0 : Nat} {x1 : Int32} {h : qm_H} {r : Int32 × qm_H} (ho : qX12_parishOf  a0 x1 h = some r) : qm_Ret mX12_parishOf (0, [some (qm_r 0 12 a0), some (qm_i x1)], [], h) (qm_Gi r) := by
  unfold qX12_parishOf at ho
  refine qm_Ret.sts 8 (f' := (13, [some (qm_r 0 12 a0), some (qm_i x1)], [qm_i (((17 : Int32) * (h.1 a0 40)) + x1), qm_r 1 136 (a0 + 8)], h)) rfl ?_
  obtain ⟨hg, ho⟩ := qm_ifn ho
  refine qm_Ret.gn (f1 := (14, [some (qm_r 0 12 a0), some (qm_i x1)], [qm_i (h.1 (a0 + 8) (((17 : Int32) * (h.1 a0 40)) + x1).toNatClampNeg)], h)) hg rfl ?_
  cases ho
  exact qm_Ret.ret 1 rfl
theorem cX12_parishOf_ok : ∀ q ∈ ([] : List (Nat × Nat × Nat × qm_C)), qm_CallOK RX12 0 0 q.2.1 q.1 q.2.2.1 q.2.2.2 := fun _ h => absurd h List.not_mem_nil
theorem sX12_parishOf : qm_Snd yX12_parishOf cX12_parishOf 2 (some .int) 0 0 wX12_parishOf := qm_met (fld := fun k => qm_lk k pfRX12) (con := fun k => qm_lk k pcRX12) (call := fun k => qm_lk k []) (tab := qm_tab aX12_parishOf) (plainFor_of_name (by decide)) (qm_fld_ok pfRX12_ok) (qm_con_ok pcRX12_ok) (fun idx kd n f hc => cX12_parishOf_ok (idx, kd, n, f) (qm_lk_mem hc)) (qm_tab_ok aX12_parishOf_ok) (fun vs h o hw => by
  unfold wX12_parishOf at hw
  split at hw
  · obtain ⟨r, hr, rfl⟩ := Option.map_eq_some_iff.mp hw
    exact ⟨Nat.le_of_ble_eq_true rfl, rX12_parishOf_0 (hr)⟩
  · cases hw)
theorem recvX12_parishOf : ∀ vs h o, wX12_parishOf vs h = some o → ∃ ci a rest, vs = qm_r 0 ci a :: rest ∧ qm_R ci = yX12_parishOf.cls := by
  intro vs h o hw
  unfold wX12_parishOf at hw
  split at hw
  · exact ⟨_, _, _, rfl, rfl⟩
  · cases hw
-- RX12 hasParish(I)Z
theorem jX12_hasParish : Jvm.Cond.code yX12_hasParish cX12_hasParish 2 (some .boolean) ∈ qm_all := List.mem_filter.mpr ⟨by decide +kernel, rfl⟩
theorem iX12_hasParish : Jvm.Cond.instanceMethod yX12_hasParish ∈ qm_all ∧ Jvm.Cond.selects yX12_hasParish.cls yX12_hasParish yX12_hasParish ∈ qm_all := ⟨List.mem_filter.mpr ⟨by decide +kernel, rfl⟩, List.mem_filter.mpr ⟨by decide +kernel, rfl⟩⟩
def wX12_hasParish : qm_C := fun vs h => match vs with
  | [.inr (.inr (some (0, 12, p0))), .inl p1] => (qX12_hasParish p0 p1 h).map qm_Gi
  | _ => none
def aX12_hasParish : List (Option (Instr × Nat)) := [some (.aload_n 0, 1), some (.iload_n 1, 1), some (.putfield 427, 3), none, none, some (.aload_n 0, 1), some (.iconst 2, 1), some (.iload_n 1, 1), some (.invokevirtual 257, 3), none, none, some (.ifCond .ne 5, 3), none, none, some (.iconst 0, 1), some (.ireturn, 1), some (.aload_n 0, 1), some (.aload_n 0, 1), some (.iconst 0, 1), some (.invokevirtual 430, 3), none, none, some (.putfield 433, 3), none, none, some (.aload_n 0, 1), some (.aload_n 0, 1), some (.iconst 1, 1), some (.invokevirtual 430, 3), none, none, some (.putfield 436, 3), none, none, some (.iconst 1, 1), some (.ireturn, 1)]
theorem aX12_hasParish_ok : qm_tabok cX12_hasParish aX12_hasParish = true := by decide +kernel
def mX12_hasParish : qm_M := ((some .boolean), (fun k => qm_lk k pfRX12), (fun k => qm_lk k pcRX12), (fun k => qm_lk k [(257, 0, 3, wX12_is), (430, 0, 2, wX12_parishOf)]), qm_tab aX12_hasParish)
set_option maxRecDepth 20000 in
set_option maxHeartbeats 2000000 in
theorem rX12_hasParish_0   {a0 : Nat} {x1 : Int32} {h : qm_H} {r : Int32 × qm_H} (ho : qX12_hasParish  a0 x1 h = some r) : qm_Ret mX12_hasParish (0, [some (qm_r 0 12 a0), some (qm_i x1)], [], h) (qm_Gi r) := by
  unfold qX12_hasParish at ho
  refine qm_Ret.sts 6 (f' := (8, [some (qm_r 0 12 a0), some (qm_i x1)], [qm_i x1, qm_i (2 : Int32), qm_r 0 12 a0], (qm_seti h a0 40 x1))) rfl ?_
  obtain ⟨r2, h1, hr, ho⟩ := qm_b2e ho
  refine qm_Ret.call (X := wX12_is [qm_r 0 12 a0, qm_i (2 : Int32), qm_i x1] (qm_seti h a0 40 x1)) (o1 := (some (qm_i r2), h1)) (qm_mp (G := qm_Gi) hr) rfl ?_
  show qm_Ret _ (11, [some (qm_r 0 12 a0), some (qm_i x1)], [qm_i r2], h1) _
  refine qm_Ret.ne (t := 16) (e := 14) rfl (fun hc => ?_) (fun hc => ?_)
  · rw [if_pos hc] at ho
    cases ho
    exact qm_Ret.ret 2 rfl
  · rw [if_neg hc] at ho
    refine qm_Ret.sts 3 (f' := (19, [some (qm_r 0 12 a0), some (qm_i x1)], [qm_i (0 : Int32), qm_r 0 12 a0, qm_r 0 12 a0], h1)) rfl ?_
    obtain ⟨r4, h3, hr, ho⟩ := qm_b2e ho
    refine qm_Ret.call (X := wX12_parishOf [qm_r 0 12 a0, qm_i (0 : Int32)] h1) (o1 := (some (qm_i r4), h3)) (qm_mp (G := qm_Gi) hr) rfl ?_
    show qm_Ret _ (22, [some (qm_r 0 12 a0), some (qm_i x1)], [qm_i r4, qm_r 0 12 a0], h3) _
    refine qm_Ret.sts 4 (f' := (28, [some (qm_r 0 12 a0), some (qm_i x1)], [qm_i (1 : Int32), qm_r 0 12 a0, qm_r 0 12 a0], (qm_seti h3 a0 41 r4))) rfl ?_
    obtain ⟨r6, h5, hr, ho⟩ := qm_b2e ho
    refine qm_Ret.call (X := wX12_parishOf [qm_r 0 12 a0, qm_i (1 : Int32)] (qm_seti h3 a0 41 r4)) (o1 := (some (qm_i r6), h5)) (qm_mp (G := qm_Gi) hr) rfl ?_
    show qm_Ret _ (31, [some (qm_r 0 12 a0), some (qm_i x1)], [qm_i r6, qm_r 0 12 a0], h5) _
    cases ho
    exact qm_Ret.ret 3 rfl
theorem cX12_hasParish_ok : ∀ q ∈ ([(257, 0, 3, wX12_is), (430, 0, 2, wX12_parishOf)] : List (Nat × Nat × Nat × qm_C)), qm_CallOK RX12 2 44 q.2.1 q.1 q.2.2.1 q.2.2.2 := List.forall_mem_cons.mpr ⟨Or.inl ⟨yX12_is, cX12_is, 3, (some .boolean), 1, 22, _, sX12_is, ⟨by decide, by decide⟩, ⟨jX12_is, kRX12_257, uRX12⟩, ⟨by decide, by decide, rfl⟩, Or.inl ⟨rfl, rfl, iX12_is, recvX12_is⟩⟩, List.forall_mem_cons.mpr ⟨Or.inl ⟨yX12_parishOf, cX12_parishOf, 2, (some .int), 0, 0, _, sX12_parishOf, ⟨by decide, by decide⟩, ⟨jX12_parishOf, kRX12_430, uRX12⟩, ⟨by decide, by decide, rfl⟩, Or.inl ⟨rfl, rfl, iX12_parishOf, recvX12_parishOf⟩⟩, fun _ h => absurd h List.not_mem_nil⟩⟩
theorem sX12_hasParish : qm_Snd yX12_hasParish cX12_hasParish 2 (some .boolean) 2 44 wX12_hasParish := qm_met (fld := fun k => qm_lk k pfRX12) (con := fun k => qm_lk k pcRX12) (call := fun k => qm_lk k [(257, 0, 3, wX12_is), (430, 0, 2, wX12_parishOf)]) (tab := qm_tab aX12_hasParish) (plainFor_of_name (by decide)) (qm_fld_ok pfRX12_ok) (qm_con_ok pcRX12_ok) (fun idx kd n f hc => cX12_hasParish_ok (idx, kd, n, f) (qm_lk_mem hc)) (qm_tab_ok aX12_hasParish_ok) (fun vs h o hw => by
  unfold wX12_hasParish at hw
  split at hw
  · obtain ⟨r, hr, rfl⟩ := Option.map_eq_some_iff.mp hw
    exact ⟨Nat.le_of_ble_eq_true rfl, rX12_hasParish_0 (hr)⟩
  · cases hw)
theorem recvX12_hasParish : ∀ vs h o, wX12_hasParish vs h = some o → ∃ ci a rest, vs = qm_r 0 ci a :: rest ∧ qm_R ci = yX12_hasParish.cls := by
  intro vs h o hw
  unfold wX12_hasParish at hw
  split at hw
  · exact ⟨_, _, _, rfl, rfl⟩
  · cases hw
-- RX12 rod(I)I
theorem jX12_rod : Jvm.Cond.code yX12_rod cX12_rod 2 (some .int) ∈ qm_all := List.mem_filter.mpr ⟨by decide +kernel, rfl⟩
theorem iX12_rod : Jvm.Cond.instanceMethod yX12_rod ∈ qm_all ∧ Jvm.Cond.selects yX12_rod.cls yX12_rod yX12_rod ∈ qm_all := ⟨List.mem_filter.mpr ⟨by decide +kernel, rfl⟩, List.mem_filter.mpr ⟨by decide +kernel, rfl⟩⟩
def wX12_rod : qm_C := fun vs h => match vs with
  | [.inr (.inr (some (0, 12, p0))), .inl p1] => (qX12_rod p0 p1 h).map qm_Gi
  | _ => none
def aX12_rod : List (Option (Instr × Nat)) := [some (.aload_n 0, 1), some (.iconst 3, 1), some (.iload_n 1, 1), some (.iadd, 1), some (.invokevirtual 430, 3), none, none, some (.ireturn, 1)]
theorem aX12_rod_ok : qm_tabok cX12_rod aX12_rod = true := by decide +kernel
def mX12_rod : qm_M := ((some .int), (fun k => qm_lk k pfRX12), (fun k => qm_lk k pcRX12), (fun k => qm_lk k [(430, 0, 2, wX12_parishOf)]), qm_tab aX12_rod)
set_option maxRecDepth 20000 in
set_option maxHeartbeats 2000000 in
theorem rX12_rod_0   {a0 : Nat} {x1 : Int32} {h : qm_H} {r : Int32 × qm_H} (ho : qX12_rod  a0 x1 h = some r) : qm_Ret mX12_rod (0, [some (qm_r 0 12 a0), some (qm_i x1)], [], h) (qm_Gi r) := by
  unfold qX12_rod at ho
  refine qm_Ret.sts 4 (f' := (4, [some (qm_r 0 12 a0), some (qm_i x1)], [qm_i ((3 : Int32) + x1), qm_r 0 12 a0], h)) rfl ?_
  obtain ⟨r2, h1, hr, ho⟩ := qm_b2e ho
  refine qm_Ret.call (X := wX12_parishOf [qm_r 0 12 a0, qm_i ((3 : Int32) + x1)] h) (o1 := (some (qm_i r2), h1)) (qm_mp (G := qm_Gi) hr) rfl ?_
  show qm_Ret _ (7, [some (qm_r 0 12 a0), some (qm_i x1)], [qm_i r2], h1) _
  cases ho
  exact qm_Ret.ret 1 rfl
theorem cX12_rod_ok : ∀ q ∈ ([(430, 0, 2, wX12_parishOf)] : List (Nat × Nat × Nat × qm_C)), qm_CallOK RX12 1 21 q.2.1 q.1 q.2.2.1 q.2.2.2 := List.forall_mem_cons.mpr ⟨Or.inl ⟨yX12_parishOf, cX12_parishOf, 2, (some .int), 0, 0, _, sX12_parishOf, ⟨by decide, by decide⟩, ⟨jX12_parishOf, kRX12_430, uRX12⟩, ⟨by decide, by decide, rfl⟩, Or.inl ⟨rfl, rfl, iX12_parishOf, recvX12_parishOf⟩⟩, fun _ h => absurd h List.not_mem_nil⟩
theorem sX12_rod : qm_Snd yX12_rod cX12_rod 2 (some .int) 1 21 wX12_rod := qm_met (fld := fun k => qm_lk k pfRX12) (con := fun k => qm_lk k pcRX12) (call := fun k => qm_lk k [(430, 0, 2, wX12_parishOf)]) (tab := qm_tab aX12_rod) (plainFor_of_name (by decide)) (qm_fld_ok pfRX12_ok) (qm_con_ok pcRX12_ok) (fun idx kd n f hc => cX12_rod_ok (idx, kd, n, f) (qm_lk_mem hc)) (qm_tab_ok aX12_rod_ok) (fun vs h o hw => by
  unfold wX12_rod at hw
  split at hw
  · obtain ⟨r, hr, rfl⟩ := Option.map_eq_some_iff.mp hw
    exact ⟨Nat.le_of_ble_eq_true rfl, rX12_rod_0 (hr)⟩
  · cases hw)
theorem recvX12_rod : ∀ vs h o, wX12_rod vs h = some o → ∃ ci a rest, vs = qm_r 0 ci a :: rest ∧ qm_R ci = yX12_rod.cls := by
  intro vs h o hw
  unfold wX12_rod at hw
  split at hw
  · exact ⟨_, _, _, rfl, rfl⟩
  · cases hw
-- RX12 parish(II)I
theorem jX12_parish : Jvm.Cond.code yX12_parish cX12_parish 3 (some .int) ∈ qm_all := List.mem_filter.mpr ⟨by decide +kernel, rfl⟩
theorem iX12_parish : Jvm.Cond.instanceMethod yX12_parish ∈ qm_all ∧ Jvm.Cond.selects yX12_parish.cls yX12_parish yX12_parish ∈ qm_all := ⟨List.mem_filter.mpr ⟨by decide +kernel, rfl⟩, List.mem_filter.mpr ⟨by decide +kernel, rfl⟩⟩
def wX12_parish : qm_C := fun vs h => match vs with
  | [.inr (.inr (some (0, 12, p0))), .inl p1, .inl p2] => (qX12_parish p0 p1 p2 h).map qm_Gi
  | _ => none
def aX12_parish : List (Option (Instr × Nat)) := [some (.aload_n 0, 1), some (.iconst 0, 1), some (.putfield 88, 3), none, none, some (.aload_n 0, 1), some (.iload_n 1, 1), some (.invokevirtual 439, 3), none, none, some (.ifCond .ne 5, 3), none, none, some (.iconst (-1), 1), some (.ireturn, 1), some (.iload_n 2, 1), some (.bipush 10, 2), none, some (.bipush 19, 2), none, some (.invokestatic 100, 3), none, none, some (.ifCond .eq 27, 3), none, none, some (.iload_n 2, 1), some (.bipush 10, 2), none, some (.isub, 1), some (.aload_n 0, 1), some (.getfield 433, 3), none, none, some (.if_icmp .ge 14, 3), none, none, some (.aload_n 0, 1), some (.iload_n 2, 1), some (.bipush 10, 2), none, some (.isub, 1), some (.invokevirtual 442, 3), none, none, some (.goto 4, 3), none, none, some (.iconst (-1), 1), some (.ireturn, 1), some (.iload_n 2, 1), some (.bipush 20, 2), none, some (.bipush 29, 2), none, some (.invokestatic 100, 3), none, none, some (.ifCond .eq 30, 3), none, none, some (.iload_n 2, 1), some (.bipush 20, 2), none, some (.isub, 1), some (.aload_n 0, 1), some (.getfield 436, 3), none, none, some (.if_icmp .ge 17, 3), none, none, some (.aload_n 0, 1), some (.bipush 9, 2), none, some (.iload_n 2, 1), some (.iadd, 1), some (.bipush 20, 2), none, some (.isub, 1), some (.invokevirtual 430, 3), none, none, some (.goto 4, 3), none, none, some (.iconst (-1), 1), some (.ireturn, 1), some (.iload_n 2, 1), some (.iconst 0, 1), some (.iconst 2, 1), some (.invokestatic 100, 3), none, none, some (.ifCond .eq 11, 3), none, none, some (.aload_n 0, 1), some (.iload_n 2, 1), some (.invokevirtual 430, 3), none, none, some (.goto 4, 3), none, none, some (.iconst (-1), 1), some (.ireturn, 1)]
theorem aX12_parish_ok : qm_tabok cX12_parish aX12_parish = true := by decide +kernel
def mX12_parish : qm_M := ((some .int), (fun k => qm_lk k pfRX12), (fun k => qm_lk k pcRX12), (fun k => qm_lk k [(439, 0, 2, wX12_hasParish), (100, 2, 3, wX12_in), (430, 0, 2, wX12_parishOf), (442, 0, 2, wX12_rod)]), qm_tab aX12_parish)
set_option maxRecDepth 20000 in
set_option maxHeartbeats 2000000 in
theorem rX12_parish_0   {a0 : Nat} {x1 : Int32} {x2 : Int32} {h : qm_H} {r : Int32 × qm_H} (ho : qX12_parish  a0 x1 x2 h = some r) : qm_Ret mX12_parish (0, [some (qm_r 0 12 a0), some (qm_i x1), some (qm_i x2)], [], h) (qm_Gi r) := by
  unfold qX12_parish at ho
  refine qm_Ret.sts 3 (f' := (5, [some (qm_r 0 12 a0), some (qm_i x1), some (qm_i x2)], [], (qm_seti h a0 0 (0 : Int32)))) rfl ?_
  refine qm_Ret.lets (F := fun h1 => (5, [some (qm_r 0 12 a0), some (qm_i x1), some (qm_i x2)], [], h1)) (G := qm_Gi) ho (fun h1 ho => ?_)
  refine qm_Ret.sts 2 (f' := (7, [some (qm_r 0 12 a0), some (qm_i x1), some (qm_i x2)], [qm_i x1, qm_r 0 12 a0], h1)) rfl ?_
  obtain ⟨r3, h2, hr, ho⟩ := qm_b2e ho
  refine qm_Ret.call (X := wX12_hasParish [qm_r 0 12 a0, qm_i x1] h1) (o1 := (some (qm_i r3), h2)) (qm_mp (G := qm_Gi) hr) rfl ?_
  show qm_Ret _ (10, [some (qm_r 0 12 a0), some (qm_i x1), some (qm_i x2)], [qm_i r3], h2) _
  refine qm_Ret.ne (t := 15) (e := 13) rfl (fun hc => ?_) (fun hc => ?_)
  · rw [if_pos hc] at ho
    cases ho
    exact qm_Ret.ret 2 rfl
  · rw [if_neg hc] at ho
    refine qm_Ret.sts 3 (f' := (20, [some (qm_r 0 12 a0), some (qm_i x1), some (qm_i x2)], [qm_i (19 : Int32), qm_i (10 : Int32), qm_i x2], h2)) rfl ?_
    obtain ⟨r5, h4, hr, ho⟩ := qm_b2e ho
    refine qm_Ret.call (X := wX12_in [qm_i x2, qm_i (10 : Int32), qm_i (19 : Int32)] h2) (o1 := (some (qm_i r5), h4)) (qm_mp (G := qm_Gi) hr) rfl ?_
    show qm_Ret _ (23, [some (qm_r 0 12 a0), some (qm_i x1), some (qm_i x2)], [qm_i r5], h4) _
    refine qm_Ret.eq (t := 50) (e := 26) rfl (fun hc => ?_) (fun hc => ?_)
    · rw [if_pos hc] at ho
      refine qm_Ret.sts 3 (f' := (55, [some (qm_r 0 12 a0), some (qm_i x1), some (qm_i x2)], [qm_i (29 : Int32), qm_i (20 : Int32), qm_i x2], h4)) rfl ?_
      obtain ⟨r7, h6, hr, ho⟩ := qm_b2e ho
      refine qm_Ret.call (X := wX12_in [qm_i x2, qm_i (20 : Int32), qm_i (29 : Int32)] h4) (o1 := (some (qm_i r7), h6)) (qm_mp (G := qm_Gi) hr) rfl ?_
      show qm_Ret _ (58, [some (qm_r 0 12 a0), some (qm_i x1), some (qm_i x2)], [qm_i r7], h6) _
      refine qm_Ret.eq (t := 88) (e := 61) rfl (fun hc => ?_) (fun hc => ?_)
      · rw [if_pos hc] at ho
        refine qm_Ret.sts 3 (f' := (91, [some (qm_r 0 12 a0), some (qm_i x1), some (qm_i x2)], [qm_i (2 : Int32), qm_i (0 : Int32), qm_i x2], h6)) rfl ?_
        obtain ⟨r9, h8, hr, ho⟩ := qm_b2e ho
        refine qm_Ret.call (X := wX12_in [qm_i x2, qm_i (0 : Int32), qm_i (2 : Int32)] h6) (o1 := (some (qm_i r9), h8)) (qm_mp (G := qm_Gi) hr) rfl ?_
        show qm_Ret _ (94, [some (qm_r 0 12 a0), some (qm_i x1), some (qm_i x2)], [qm_i r9], h8) _
        refine qm_Ret.eq (t := 105) (e := 97) rfl (fun hc => ?_) (fun hc => ?_)
        · rw [if_pos hc] at ho
          cases ho
          exact qm_Ret.ret 2 rfl
        · rw [if_neg hc] at ho
          refine qm_Ret.sts 2 (f' := (99, [some (qm_r 0 12 a0), some (qm_i x1), some (qm_i x2)], [qm_i x2, qm_r 0 12 a0], h8)) rfl ?_
          obtain ⟨r11, h10, hr, ho⟩ := qm_b2e ho
          refine qm_Ret.call (X := wX12_parishOf [qm_r 0 12 a0, qm_i x2] h8) (o1 := (some (qm_i r11), h10)) (qm_mp (G := qm_Gi) hr) rfl ?_
          show qm_Ret _ (102, [some (qm_r 0 12 a0), some (qm_i x1), some (qm_i x2)], [qm_i r11], h10) _
          cases ho
          exact qm_Ret.ret 2 rfl
      · rw [if_neg hc] at ho
        refine qm_Ret.sts 5 (f' := (69, [some (qm_r 0 12 a0), some (qm_i x1), some (qm_i x2)], [qm_i (h6.1 a0 42), qm_i (x2 - (20 : Int32))], h6)) rfl ?_
        refine qm_Ret.ge (t := 86) (e := 72) rfl (fun hc => ?_) (fun hc => ?_)
        · rw [if_pos hc] at ho
          refine qm_Ret.sts 6 (f' := (80, [some (qm_r 0 12 a0), some (qm_i x1), some (qm_i x2)], [qm_i (((9 : Int32) + x2) - (20 : Int32)), qm_r 0 12 a0], h6)) rfl ?_
          obtain ⟨r13, h12, hr, ho⟩ := qm_b2e ho
          refine qm_Ret.call (X := wX12_parishOf [qm_r 0 12 a0, qm_i (((9 : Int32) + x2) - (20 : Int32))] h6) (o1 := (some (qm_i r13), h12)) (qm_mp (G := qm_Gi) hr) rfl ?_
          show qm_Ret _ (83, [some (qm_r 0 12 a0), some (qm_i x1), some (qm_i x2)], [qm_i r13], h12) _
          cases ho
          exact qm_Ret.ret 2 rfl
        · rw [if_neg hc] at ho
          cases ho
          exact qm_Ret.ret 2 rfl
    · rw [if_neg hc] at ho
      refine qm_Ret.sts 5 (f' := (34, [some (qm_r 0 12 a0), some (qm_i x1), some (qm_i x2)], [qm_i (h4.1 a0 41), qm_i (x2 - (10 : Int32))], h4)) rfl ?_
      refine qm_Ret.ge (t := 48) (e := 37) rfl (fun hc => ?_) (fun hc => ?_)
      · rw [if_pos hc] at ho
        refine qm_Ret.sts 4 (f' := (42, [some (qm_r 0 12 a0), some (qm_i x1), some (qm_i x2)], [qm_i (x2 - (10 : Int32)), qm_r 0 12 a0], h4)) rfl ?_
        obtain ⟨r15, h14, hr, ho⟩ := qm_b2e ho
        refine qm_Ret.call (X := wX12_rod [qm_r 0 12 a0, qm_i (x2 - (10 : Int32))] h4) (o1 := (some (qm_i r15), h14)) (qm_mp (G := qm_Gi) hr) rfl ?_
        show qm_Ret _ (45, [some (qm_r 0 12 a0), some (qm_i x1), some (qm_i x2)], [qm_i r15], h14) _
        cases ho
        exact qm_Ret.ret 2 rfl
      · rw [if_neg hc] at ho
        cases ho
        exact qm_Ret.ret 2 rfl
theorem cX12_parish_ok : ∀ q ∈ ([(439, 0, 2, wX12_hasParish), (100, 2, 3, wX12_in), (430, 0, 2, wX12_parishOf), (442, 0, 2, wX12_rod)] : List (Nat × Nat × Nat × qm_C)), qm_CallOK RX12 3 65 q.2.1 q.1 q.2.2.1 q.2.2.2 := List.forall_mem_cons.mpr ⟨Or.inl ⟨yX12_hasParish, cX12_hasParish, 2, (some .boolean), 2, 44, _, sX12_hasParish, ⟨by decide, by decide⟩, ⟨jX12_hasParish, kRX12_439, uRX12⟩, ⟨by decide, by decide, rfl⟩, Or.inl ⟨rfl, rfl, iX12_hasParish, recvX12_hasParish⟩⟩, List.forall_mem_cons.mpr ⟨Or.inl ⟨yX12_in, cX12_in, 3, (some .boolean), 0, 0, _, sX12_in, ⟨by decide, by decide⟩, ⟨jX12_in, kRX12_100, uRX12⟩, ⟨by decide, by decide, rfl⟩, Or.inr (Or.inl ⟨rfl, rfl, iX12_in⟩)⟩, List.forall_mem_cons.mpr ⟨Or.inl ⟨yX12_parishOf, cX12_parishOf, 2, (some .int), 0, 0, _, sX12_parishOf, ⟨by decide, by decide⟩, ⟨jX12_parishOf, kRX12_430, uRX12⟩, ⟨by decide, by decide, rfl⟩, Or.inl ⟨rfl, rfl, iX12_parishOf, recvX12_parishOf⟩⟩, List.forall_mem_cons.mpr ⟨Or.inl ⟨yX12_rod, cX12_rod, 2, (some .int), 1, 21, _, sX12_rod, ⟨by decide, by decide⟩, ⟨jX12_rod, kRX12_442, uRX12⟩, ⟨by decide, by decide, rfl⟩, Or.inl ⟨rfl, rfl, iX12_rod, recvX12_rod⟩⟩, fun _ h => absurd h List.not_mem_nil⟩⟩⟩⟩
theorem sX12_parish : qm_Snd yX12_parish cX12_parish 3 (some .int) 3 65 wX12_parish := qm_met (fld := fun k => qm_lk k pfRX12) (con := fun k => qm_lk k pcRX12) (call := fun k => qm_lk k [(439, 0, 2, wX12_hasParish), (100, 2, 3, wX12_in), (430, 0, 2, wX12_parishOf), (442, 0, 2, wX12_rod)]) (tab := qm_tab aX12_parish) (plainFor_of_name (by decide)) (qm_fld_ok pfRX12_ok) (qm_con_ok pcRX12_ok) (fun idx kd n f hc => cX12_parish_ok (idx, kd, n, f) (qm_lk_mem hc)) (qm_tab_ok aX12_parish_ok) (fun vs h o hw => by
  unfold wX12_parish at hw
  split at hw
  · obtain ⟨r, hr, rfl⟩ := Option.map_eq_some_iff.mp hw
    exact ⟨Nat.le_of_ble_eq_true rfl, rX12_parish_0 (hr)⟩
  · cases hw)
theorem recvX12_parish : ∀ vs h o, wX12_parish vs h = some o → ∃ ci a rest, vs = qm_r 0 ci a :: rest ∧ qm_R ci = yX12_parish.cls := by
  intro vs h o hw
  unfold wX12_parish at hw
  split at hw
  · exact ⟨_, _, _, rfl, rfl⟩
  · cases hw
-- RX12 sumOf(I)I
theorem jX12_sumOf : Jvm.Cond.code yX12_sumOf cX12_sumOf 4 (some .int) ∈ qm_all := List.mem_filter.mpr ⟨by decide +kernel, rfl⟩
theorem iX12_sumOf : Jvm.Cond.instanceMethod yX12_sumOf ∈ qm_all ∧ Jvm.Cond.selects yX12_sumOf.cls yX12_sumOf yX12_sumOf ∈ qm_all := ⟨List.mem_filter.mpr ⟨by decide +kernel, rfl⟩, List.mem_filter.mpr ⟨by decide +kernel, rfl⟩⟩
def wX12_sumOf : qm_C := fun vs h => match vs with
  | [.inr (.inr (some (0, 12, p0))), .inl p1] => (qX12_sumOf p0 p1 h).map qm_Gi
  | _ => none
def aX12_sumOf : List (Option (Instr × Nat)) := [some (.iconst 0, 1), some (.istore_n 2, 1), some (.iconst 0, 1), some (.istore_n 3, 1), some (.iload_n 3, 1), some (.aload_n 0, 1), some (.getfield 436, 3), none, none, some (.if_icmp .ge 32, 3), none, none, some (.iload_n 2, 1), some (.iload_n 1, 1), some (.iload_n 3, 1), some (.invokestatic 92, 3), none, none, some (.ifCond .eq 14, 3), none, none, some (.aload_n 0, 1), some (.bipush 9, 2), none, some (.iload_n 3, 1), some (.iadd, 1), some (.invokevirtual 430, 3), none, none, some (.goto 4, 3), none, none, some (.iconst 0, 1), some (.iadd, 1), some (.istore_n 2, 1), some (.iinc 3 1, 3), none, none, some (.goto (-34), 3), none, none, some (.iload_n 2, 1), some (.ireturn, 1)]
theorem aX12_sumOf_ok : qm_tabok cX12_sumOf aX12_sumOf = true := by decide +kernel
def mX12_sumOf : qm_M := ((some .int), (fun k => qm_lk k pfRX12), (fun k => qm_lk k pcRX12), (fun k => qm_lk k [(92, 2, 2, wX12_has), (430, 0, 2, wX12_parishOf)]), qm_tab aX12_sumOf)
set_option maxRecDepth 20000 in
set_option maxHeartbeats 2000000 in
theorem rX12_sumOf_4   : ∀ {fuel : Nat} {a0 : Nat} {x1 : Int32} {x2 : Int32} {x3 : Int32} {h : qm_H} {r : Int32 × qm_H}, qX12_sumOf_4  fuel a0 x1 x2 x3 h = some r → qm_Ret mX12_sumOf (4, [some (qm_r 0 12 a0), some (qm_i x1), some (qm_i x2), some (qm_i x3)], [], h) (qm_Gi r) := by
  intro fuel
  induction fuel with
  | zero => intros; rename_i ho; cases ho
  | succ n ih =>
    intro a0 x1 x2 x3 h r ho
    unfold qX12_sumOf_4 at ho
    refine qm_Ret.sts 3 (f' := (9, [some (qm_r 0 12 a0), some (qm_i x1), some (qm_i x2), some (qm_i x3)], [qm_i (h.1 a0 42), qm_i x3], h)) rfl ?_
    refine qm_Ret.ge (t := 41) (e := 12) rfl (fun hc => ?_) (fun hc => ?_)
    · rw [if_pos hc] at ho
      refine qm_Ret.sts 3 (f' := (15, [some (qm_r 0 12 a0), some (qm_i x1), some (qm_i x2), some (qm_i x3)], [qm_i x3, qm_i x1, qm_i x2], h)) rfl ?_
      obtain ⟨r2, h1, hr, ho⟩ := qm_b2e ho
      refine qm_Ret.call (X := wX12_has [qm_i x1, qm_i x3] h) (o1 := (some (qm_i r2), h1)) (qm_mp (G := qm_Gi) hr) rfl ?_
      show qm_Ret _ (18, [some (qm_r 0 12 a0), some (qm_i x1), some (qm_i x2), some (qm_i x3)], [qm_i r2, qm_i x2], h1) _
      refine qm_Ret.eq (t := 32) (e := 21) rfl (fun hc => ?_) (fun hc => ?_)
      · rw [if_pos hc] at ho
        refine qm_Ret.sts 2 (f' := (34, [some (qm_r 0 12 a0), some (qm_i x1), some (qm_i x2), some (qm_i x3)], [qm_i (x2 + (0 : Int32))], h1)) rfl ?_
        refine qm_Ret.lets (F := fun v3 => (34, [some (qm_r 0 12 a0), some (qm_i x1), some (qm_i x2), some (qm_i x3)], [qm_i v3], h1)) (G := qm_Gi) ho (fun v3 ho => ?_)
        refine qm_Ret.sts 3 (f' := (4, [some (qm_r 0 12 a0), some (qm_i x1), some (qm_i v3), some (qm_i (x3 + (1 : Int32)))], [], h1)) rfl ?_
        exact ih ho
      · rw [if_neg hc] at ho
        refine qm_Ret.sts 4 (f' := (26, [some (qm_r 0 12 a0), some (qm_i x1), some (qm_i x2), some (qm_i x3)], [qm_i ((9 : Int32) + x3), qm_r 0 12 a0, qm_i x2], h1)) rfl ?_
        obtain ⟨r5, h4, hr, ho⟩ := qm_b2e ho
        refine qm_Ret.call (X := wX12_parishOf [qm_r 0 12 a0, qm_i ((9 : Int32) + x3)] h1) (o1 := (some (qm_i r5), h4)) (qm_mp (G := qm_Gi) hr) rfl ?_
        show qm_Ret _ (29, [some (qm_r 0 12 a0), some (qm_i x1), some (qm_i x2), some (qm_i x3)], [qm_i r5, qm_i x2], h4) _
        refine qm_Ret.sts 5 (f' := (4, [some (qm_r 0 12 a0), some (qm_i x1), some (qm_i (x2 + r5)), some (qm_i (x3 + (1 : Int32)))], [], h4)) rfl ?_
        exact ih ho
    · rw [if_neg hc] at ho
      cases ho
      exact qm_Ret.ret 2 rfl
set_option maxRecDepth 20000 in
set_option maxHeartbeats 2000000 in
theorem rX12_sumOf_0   {a0 : Nat} {x1 : Int32} {h : qm_H} {r : Int32 × qm_H} (ho : qX12_sumOf  a0 x1 h = some r) : qm_Ret mX12_sumOf (0, [some (qm_r 0 12 a0), some (qm_i x1), none, none], [], h) (qm_Gi r) := by
  unfold qX12_sumOf at ho
  refine qm_Ret.sts 4 (f' := (4, [some (qm_r 0 12 a0), some (qm_i x1), some (qm_i (0 : Int32)), some (qm_i (0 : Int32))], [], h)) rfl ?_
  exact rX12_sumOf_4 ho
theorem cX12_sumOf_ok : ∀ q ∈ ([(92, 2, 2, wX12_has), (430, 0, 2, wX12_parishOf)] : List (Nat × Nat × Nat × qm_C)), qm_CallOK RX12 1 21 q.2.1 q.1 q.2.2.1 q.2.2.2 := List.forall_mem_cons.mpr ⟨Or.inl ⟨yX12_has, cX12_has, 2, (some .boolean), 0, 0, _, sX12_has, ⟨by decide, by decide⟩, ⟨jX12_has, kRX12_92, uRX12⟩, ⟨by decide, by decide, rfl⟩, Or.inr (Or.inl ⟨rfl, rfl, iX12_has⟩)⟩, List.forall_mem_cons.mpr ⟨Or.inl ⟨yX12_parishOf, cX12_parishOf, 2, (some .int), 0, 0, _, sX12_parishOf, ⟨by decide, by decide⟩, ⟨jX12_parishOf, kRX12_430, uRX12⟩, ⟨by decide, by decide, rfl⟩, Or.inl ⟨rfl, rfl, iX12_parishOf, recvX12_parishOf⟩⟩, fun _ h => absurd h List.not_mem_nil⟩⟩
theorem sX12_sumOf : qm_Snd yX12_sumOf cX12_sumOf 4 (some .int) 1 21 wX12_sumOf := qm_met (fld := fun k => qm_lk k pfRX12) (con := fun k => qm_lk k pcRX12) (call := fun k => qm_lk k [(92, 2, 2, wX12_has), (430, 0, 2, wX12_parishOf)]) (tab := qm_tab aX12_sumOf) (plainFor_of_name (by decide)) (qm_fld_ok pfRX12_ok) (qm_con_ok pcRX12_ok) (fun idx kd n f hc => cX12_sumOf_ok (idx, kd, n, f) (qm_lk_mem hc)) (qm_tab_ok aX12_sumOf_ok) (fun vs h o hw => by
  unfold wX12_sumOf at hw
  split at hw
  · obtain ⟨r, hr, rfl⟩ := Option.map_eq_some_iff.mp hw
    exact ⟨Nat.le_of_ble_eq_true rfl, rX12_sumOf_0 (hr)⟩
  · cases hw)
theorem recvX12_sumOf : ∀ vs h o, wX12_sumOf vs h = some o → ∃ ci a rest, vs = qm_r 0 ci a :: rest ∧ qm_R ci = yX12_sumOf.cls := by
  intro vs h o hw
  unfold wX12_sumOf at hw
  split at hw
  · exact ⟨_, _, _, rfl, rfl⟩
  · cases hw
