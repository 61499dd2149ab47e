-- RX2 wins(IIZ)Z
theorem jX2_wins : Jvm.Cond.code yX2_wins cX2_wins 9 (some .boolean) ∈ qm_all := List.mem_filter.mpr ⟨by decide +kernel, rfl⟩
theorem iX2_wins : Jvm.Cond.instanceMethod yX2_wins ∈ qm_all ∧ Jvm.Cond.selects yX2_wins.cls yX2_wins yX2_wins ∈ qm_all := ⟨List.mem_filter.mpr ⟨by decide +kernel, rfl⟩, List.mem_filter.mpr ⟨by decide +kernel, rfl⟩⟩
def wX2_wins : qm_C := fun vs h => match vs with
  | [.inr (.inr (some (0, 2, p0))), .inl p1, .inl p2, .inl p3] => (qX2_wins p0 p1 p2 p3 h).map qm_Gi
  | _ => none
def aX2_wins : List (Option (Instr × Nat)) := [some (.iconst 0, 1), some (.istore 4, 2), none, some (.iconst 0, 1), some (.istore 5, 2), none, some (.iconst 0, 1), some (.istore 6, 2), none, some (.iload 6, 2), none, some (.aload_n 0, 1), some (.getfield 22, 3), none, none, some (.if_icmp .ge 88, 3), none, none, some (.iload 6, 2), none, some (.bipush 6, 2), none, some (.if_icmp .ge 81, 3), none, none, some (.iload 6, 2), none, some (.iload_n 1, 1), some (.if_icmp .ne 15, 3), none, none, some (.aload_n 0, 1), some (.getfield 11, 3), none, none, some (.iload 6, 2), none, some (.iaload, 1), some (.iload_n 2, 1), some (.isub, 1), some (.goto 10, 3), none, none, some (.aload_n 0, 1), some (.getfield 11, 3), none, none, some (.iload 6, 2), none, some (.iaload, 1), some (.istore 7, 2), none, some (.aload_n 0, 1), some (.getfield 18, 3), none, none, some (.ifCond .le 15, 3), none, none, some (.iload 7, 2), none, some (.aload_n 0, 1), some (.getfield 18, 3), none, none, some (.iconst 1, 1), some (.iadd, 1), some (.irem, 1), some (.goto 4, 3), none, none, some (.iconst 0, 1), some (.istore 8, 2), none, some (.iload 4, 2), none, some (.iload 8, 2), none, some (.ixor, 1), some (.istore 4, 2), none, some (.iload 5, 2), none, some (.iload 8, 2), none, some (.iconst 1, 1), some (.if_icmp .le 7, 3), none, none, some (.iconst 1, 1), some (.goto 4, 3), none, none, some (.iconst 0, 1), some (.ior, 1), some (.istore 5, 2), none, some (.iinc 6 1, 3), none, none, some (.goto (-91), 3), none, none, some (.iload_n 3, 1), some (.ifCond .eq 21, 3), none, none, some (.iload 5, 2), none, some (.ifCond .ne 16, 3), none, none, some (.iload 4, 2), none, some (.ifCond .ne 7, 3), none, none, some (.iconst 1, 1), some (.goto 17, 3), none, none, some (.iconst 0, 1), some (.goto 13, 3), none, none, some (.iload 4, 2), none, some (.ifCond .eq 7, 3), none, none, some (.iconst 1, 1), some (.goto 4, 3), none, none, some (.iconst 0, 1), some (.ireturn, 1)]
theorem aX2_wins_ok : qm_tabok cX2_wins aX2_wins = true := by decide +kernel
def mX2_wins : qm_M := ((some .boolean), (fun k => qm_lk k pfRX2), (fun k => qm_lk k pcRX2), (fun k => qm_lk k []), qm_tab aX2_wins)
set_option maxRecDepth 20000 in
set_option maxHeartbeats 2000000 in
theorem rX2_wins_103   {x3 : Int32} {x4 : Int32} {x5 : Int32} {ad0 : Nat} {xd1 : Int32} {xd2 : Int32} {xd6 : Int32} {d7 : Option qm_V} {d8 : Option qm_V} {h : qm_H} {r : Int32 × qm_H} (ho : qX2_wins_103  x3 x4 x5 h = some r) : qm_Ret mX2_wins (103, [some (qm_r 0 2 ad0), some (qm_i xd1), some (qm_i xd2), some (qm_i x3), some (qm_i x4), some (qm_i x5), some (qm_i xd6), d7, d8], [], h) (qm_Gi r) := by
  unfold qX2_wins_103 at ho
  refine qm_Ret.sts 1 (f' := (104, [some (qm_r 0 2 ad0), some (qm_i xd1), some (qm_i xd2), some (qm_i x3), some (qm_i x4), some (qm_i x5), some (qm_i xd6), d7, d8], [qm_i x3], h)) rfl ?_
  refine qm_Ret.eq (t := 125) (e := 107) rfl (fun hc => ?_) (fun hc => ?_)
  · rw [if_pos hc] at ho
    refine qm_Ret.sts 1 (f' := (127, [some (qm_r 0 2 ad0), some (qm_i xd1), some (qm_i xd2), some (qm_i x3), some (qm_i x4), some (qm_i x5), some (qm_i xd6), d7, d8], [qm_i x4], h)) rfl ?_
    refine qm_Ret.eq (t := 134) (e := 130) rfl (fun hc => ?_) (fun hc => ?_)
    · rw [if_pos hc] at ho
      cases ho
      exact qm_Ret.ret 2 rfl
    · rw [if_neg hc] at ho
      cases ho
      exact qm_Ret.ret 3 rfl
  · rw [if_neg hc] at ho
    refine qm_Ret.sts 1 (f' := (109, [some (qm_r 0 2 ad0), some (qm_i xd1), some (qm_i xd2), some (qm_i x3), some (qm_i x4), some (qm_i x5), some (qm_i xd6), d7, d8], [qm_i x5], h)) rfl ?_
    refine qm_Ret.ne (t := 125) (e := 112) rfl (fun hc => ?_) (fun hc => ?_)
    · rw [if_pos hc] at ho
      refine qm_Ret.sts 1 (f' := (114, [some (qm_r 0 2 ad0), some (qm_i xd1), some (qm_i xd2), some (qm_i x3), some (qm_i x4), some (qm_i x5), some (qm_i xd6), d7, d8], [qm_i x4], h)) rfl ?_
      refine qm_Ret.ne (t := 121) (e := 117) rfl (fun hc => ?_) (fun hc => ?_)
      · rw [if_pos hc] at ho
        cases ho
        exact qm_Ret.ret 3 rfl
      · rw [if_neg hc] at ho
        cases ho
        exact qm_Ret.ret 3 rfl
    · rw [if_neg hc] at ho
      refine qm_Ret.sts 1 (f' := (127, [some (qm_r 0 2 ad0), some (qm_i xd1), some (qm_i xd2), some (qm_i x3), some (qm_i x4), some (qm_i x5), some (qm_i xd6), d7, d8], [qm_i x4], h)) rfl ?_
      refine qm_Ret.eq (t := 134) (e := 130) rfl (fun hc => ?_) (fun hc => ?_)
      · rw [if_pos hc] at ho
        cases ho
        exact qm_Ret.ret 2 rfl
      · rw [if_neg hc] at ho
        cases ho
        exact qm_Ret.ret 3 rfl
set_option maxRecDepth 20000 in
set_option maxHeartbeats 2000000 in
theorem rX2_wins_72 {K9 : Nat → Int32 → Int32 → Int32 → Int32 → Int32 → Int32 → qm_H → Option (Int32 × qm_H)} (H9 : ∀ {a0 : Nat} {x1 : Int32} {x2 : Int32} {x3 : Int32} {x4 : Int32} {x5 : Int32} {x6 : Int32} {d7 : Option qm_V} {d8 : Option qm_V} {h : qm_H} {r : Int32 × qm_H}, K9 a0 x1 x2 x3 x4 x5 x6 h = some r → qm_Ret mX2_wins (9, [some (qm_r 0 2 a0), some (qm_i x1), some (qm_i x2), some (qm_i x3), some (qm_i x4), some (qm_i x5), some (qm_i x6), d7, d8], [], h) (qm_Gi r)) {a0 : Nat} {x1 : Int32} {x2 : Int32} {x3 : Int32} {x4 : Int32} {x5 : Int32} {x6 : Int32} {xs0 : Int32} {xd7 : Int32} {d8 : Option qm_V} {h : qm_H} {r : Int32 × qm_H} (ho : qX2_wins_72 K9 a0 x1 x2 x3 x4 x5 x6 xs0 h = some r) : qm_Ret mX2_wins (72, [some (qm_r 0 2 a0), some (qm_i x1), some (qm_i x2), some (qm_i x3), some (qm_i x4), some (qm_i x5), some (qm_i x6), some (qm_i xd7), d8], [qm_i xs0], h) (qm_Gi r) := by
  unfold qX2_wins_72 at ho
  refine qm_Ret.sts 8 (f' := (86, [some (qm_r 0 2 a0), some (qm_i x1), some (qm_i x2), some (qm_i x3), some (qm_i (x4 ^^^ xs0)), some (qm_i x5), some (qm_i x6), some (qm_i xd7), some (qm_i xs0)], [qm_i (1 : Int32), qm_i xs0, qm_i x5], h)) rfl ?_
  refine qm_Ret.le (t := 93) (e := 89) rfl (fun hc => ?_) (fun hc => ?_)
  · rw [if_pos hc] at ho
    refine qm_Ret.sts 3 (f' := (95, [some (qm_r 0 2 a0), some (qm_i x1), some (qm_i x2), some (qm_i x3), some (qm_i (x4 ^^^ xs0)), some (qm_i x5), some (qm_i x6), some (qm_i xd7), some (qm_i xs0)], [qm_i (x5 ||| (1 : Int32))], h)) rfl ?_
    refine qm_Ret.lets (F := fun v2 => (95, [some (qm_r 0 2 a0), some (qm_i x1), some (qm_i x2), some (qm_i x3), some (qm_i (x4 ^^^ xs0)), some (qm_i x5), some (qm_i x6), some (qm_i xd7), some (qm_i xs0)], [qm_i v2], h)) (G := qm_Gi) ho (fun v2 ho => ?_)
    refine qm_Ret.sts 3 (f' := (9, [some (qm_r 0 2 a0), some (qm_i x1), some (qm_i x2), some (qm_i x3), some (qm_i (x4 ^^^ xs0)), some (qm_i v2), some (qm_i (x6 + (1 : Int32))), some (qm_i xd7), some (qm_i xs0)], [], h)) rfl ?_
    exact H9 ho
  · rw [if_neg hc] at ho
    refine qm_Ret.sts 2 (f' := (95, [some (qm_r 0 2 a0), some (qm_i x1), some (qm_i x2), some (qm_i x3), some (qm_i (x4 ^^^ xs0)), some (qm_i x5), some (qm_i x6), some (qm_i xd7), some (qm_i xs0)], [qm_i (x5 ||| (0 : Int32))], h)) rfl ?_
    refine qm_Ret.lets (F := fun v1 => (95, [some (qm_r 0 2 a0), some (qm_i x1), some (qm_i x2), some (qm_i x3), some (qm_i (x4 ^^^ xs0)), some (qm_i x5), some (qm_i x6), some (qm_i xd7), some (qm_i xs0)], [qm_i v1], h)) (G := qm_Gi) ho (fun v1 ho => ?_)
    refine qm_Ret.sts 3 (f' := (9, [some (qm_r 0 2 a0), some (qm_i x1), some (qm_i x2), some (qm_i x3), some (qm_i (x4 ^^^ xs0)), some (qm_i v1), some (qm_i (x6 + (1 : Int32))), some (qm_i xd7), some (qm_i xs0)], [], h)) rfl ?_
    exact H9 ho
set_option maxRecDepth 20000 in
set_option maxHeartbeats 2000000 in
theorem rX2_wins_9   : ∀ {fuel : Nat} {a0 : Nat} {x1 : Int32} {x2 : Int32} {x3 : Int32} {x4 : Int32} {x5 : Int32} {x6 : Int32} {d7 : Option qm_V} {d8 : Option qm_V} {h : qm_H} {r : Int32 × qm_H}, qX2_wins_9  fuel a0 x1 x2 x3 x4 x5 x6 h = some r → qm_Ret mX2_wins (9, [some (qm_r 0 2 a0), some (qm_i x1), some (qm_i x2), some (qm_i x3), some (qm_i x4), some (qm_i x5), some (qm_i x6), d7, d8], [], h) (qm_Gi r) := by
  intro fuel
  induction fuel with
  | zero => intros; rename_i ho; cases ho
  | succ n ih =>
    intro a0 x1 x2 x3 x4 x5 x6 d7 d8 h r ho
    unfold qX2_wins_9 at ho
    refine qm_Ret.sts 3 (f' := (15, [some (qm_r 0 2 a0), some (qm_i x1), some (qm_i x2), some (qm_i x3), some (qm_i x4), some (qm_i x5), some (qm_i x6), d7, d8], [qm_i (h.1 a0 2), qm_i x6], h)) rfl ?_
    refine qm_Ret.ge (t := 103) (e := 18) rfl (fun hc => ?_) (fun hc => ?_)
    · rw [if_pos hc] at ho
      refine qm_Ret.sts 2 (f' := (22, [some (qm_r 0 2 a0), some (qm_i x1), some (qm_i x2), some (qm_i x3), some (qm_i x4), some (qm_i x5), some (qm_i x6), d7, d8], [qm_i (6 : Int32), qm_i x6], h)) rfl ?_
      refine qm_Ret.ge (t := 103) (e := 25) rfl (fun hc => ?_) (fun hc => ?_)
      · rw [if_pos hc] at ho
        refine qm_Ret.sts 2 (f' := (28, [some (qm_r 0 2 a0), some (qm_i x1), some (qm_i x2), some (qm_i x3), some (qm_i x4), some (qm_i x5), some (qm_i x6), d7, d8], [qm_i x1, qm_i x6], h)) rfl ?_
        refine qm_Ret.ne (t := 43) (e := 31) rfl (fun hc => ?_) (fun hc => ?_)
        · rw [if_pos hc] at ho
          refine qm_Ret.sts 3 (f' := (37, [some (qm_r 0 2 a0), some (qm_i x1), some (qm_i x2), some (qm_i x3), some (qm_i x4), some (qm_i x5), some (qm_i x6), d7, d8], [qm_i x6, qm_r 1 6 (a0 + 1)], h)) rfl ?_
          obtain ⟨hg, ho⟩ := qm_ifn ho
          refine qm_Ret.gn (f1 := (38, [some (qm_r 0 2 a0), some (qm_i x1), some (qm_i x2), some (qm_i x3), some (qm_i x4), some (qm_i x5), some (qm_i x6), d7, d8], [qm_i (h.1 (a0 + 1) (x6).toNatClampNeg)], h)) hg rfl ?_
          refine qm_Ret.sts 3 (f' := (50, [some (qm_r 0 2 a0), some (qm_i x1), some (qm_i x2), some (qm_i x3), some (qm_i x4), some (qm_i x5), some (qm_i x6), d7, d8], [qm_i ((h.1 (a0 + 1) (x6).toNatClampNeg) - x2)], h)) rfl ?_
          refine qm_Ret.lets (F := fun v2 => (50, [some (qm_r 0 2 a0), some (qm_i x1), some (qm_i x2), some (qm_i x3), some (qm_i x4), some (qm_i x5), some (qm_i x6), d7, d8], [qm_i v2], h)) (G := qm_Gi) ho (fun v2 ho => ?_)
          refine qm_Ret.sts 3 (f' := (56, [some (qm_r 0 2 a0), some (qm_i x1), some (qm_i x2), some (qm_i x3), some (qm_i x4), some (qm_i x5), some (qm_i x6), some (qm_i v2), d8], [qm_i (h.1 a0 4)], h)) rfl ?_
          refine qm_Ret.le (t := 71) (e := 59) rfl (fun hc => ?_) (fun hc => ?_)
          · rw [if_pos hc] at ho
            refine qm_Ret.sts 5 (f' := (67, [some (qm_r 0 2 a0), some (qm_i x1), some (qm_i x2), some (qm_i x3), some (qm_i x4), some (qm_i x5), some (qm_i x6), some (qm_i v2), d8], [qm_i ((h.1 a0 4) + (1 : Int32)), qm_i v2], h)) rfl ?_
            obtain ⟨hg, ho⟩ := qm_ifn ho
            refine qm_Ret.gn (f1 := (68, [some (qm_r 0 2 a0), some (qm_i x1), some (qm_i x2), some (qm_i x3), some (qm_i x4), some (qm_i x5), some (qm_i x6), some (qm_i v2), d8], [qm_i (qm_irem v2 ((h.1 a0 4) + (1 : Int32)))], h)) hg rfl ?_
            refine qm_Ret.sts 1 (f' := (72, [some (qm_r 0 2 a0), some (qm_i x1), some (qm_i x2), some (qm_i x3), some (qm_i x4), some (qm_i x5), some (qm_i x6), some (qm_i v2), d8], [qm_i (qm_irem v2 ((h.1 a0 4) + (1 : Int32)))], h)) rfl ?_
            exact rX2_wins_72 (ih) ho
          · rw [if_neg hc] at ho
            refine qm_Ret.sts 1 (f' := (72, [some (qm_r 0 2 a0), some (qm_i x1), some (qm_i x2), some (qm_i x3), some (qm_i x4), some (qm_i x5), some (qm_i x6), some (qm_i v2), d8], [qm_i (0 : Int32)], h)) rfl ?_
            exact rX2_wins_72 (ih) ho
        · rw [if_neg hc] at ho
          refine qm_Ret.sts 3 (f' := (49, [some (qm_r 0 2 a0), some (qm_i x1), some (qm_i x2), some (qm_i x3), some (qm_i x4), some (qm_i x5), some (qm_i x6), d7, d8], [qm_i x6, qm_r 1 6 (a0 + 1)], h)) rfl ?_
          obtain ⟨hg, ho⟩ := qm_ifn ho
          refine qm_Ret.gn (f1 := (50, [some (qm_r 0 2 a0), some (qm_i x1), some (qm_i x2), some (qm_i x3), some (qm_i x4), some (qm_i x5), some (qm_i x6), d7, d8], [qm_i (h.1 (a0 + 1) (x6).toNatClampNeg)], h)) hg rfl ?_
          refine qm_Ret.lets (F := fun v1 => (50, [some (qm_r 0 2 a0), some (qm_i x1), some (qm_i x2), some (qm_i x3), some (qm_i x4), some (qm_i x5), some (qm_i x6), d7, d8], [qm_i v1], h)) (G := qm_Gi) ho (fun v1 ho => ?_)
          refine qm_Ret.sts 3 (f' := (56, [some (qm_r 0 2 a0), some (qm_i x1), some (qm_i x2), some (qm_i x3), some (qm_i x4), some (qm_i x5), some (qm_i x6), some (qm_i v1), d8], [qm_i (h.1 a0 4)], h)) rfl ?_
          refine qm_Ret.le (t := 71) (e := 59) rfl (fun hc => ?_) (fun hc => ?_)
          · rw [if_pos hc] at ho
            refine qm_Ret.sts 5 (f' := (67, [some (qm_r 0 2 a0), some (qm_i x1), some (qm_i x2), some (qm_i x3), some (qm_i x4), some (qm_i x5), some (qm_i x6), some (qm_i v1), d8], [qm_i ((h.1 a0 4) + (1 : Int32)), qm_i v1], h)) rfl ?_
            obtain ⟨hg, ho⟩ := qm_ifn ho
            refine qm_Ret.gn (f1 := (68, [some (qm_r 0 2 a0), some (qm_i x1), some (qm_i x2), some (qm_i x3), some (qm_i x4), some (qm_i x5), some (qm_i x6), some (qm_i v1), d8], [qm_i (qm_irem v1 ((h.1 a0 4) + (1 : Int32)))], h)) hg rfl ?_
            refine qm_Ret.sts 1 (f' := (72, [some (qm_r 0 2 a0), some (qm_i x1), some (qm_i x2), some (qm_i x3), some (qm_i x4), some (qm_i x5), some (qm_i x6), some (qm_i v1), d8], [qm_i (qm_irem v1 ((h.1 a0 4) + (1 : Int32)))], h)) rfl ?_
            exact rX2_wins_72 (ih) ho
          · rw [if_neg hc] at ho
            refine qm_Ret.sts 1 (f' := (72, [some (qm_r 0 2 a0), some (qm_i x1), some (qm_i x2), some (qm_i x3), some (qm_i x4), some (qm_i x5), some (qm_i x6), some (qm_i v1), d8], [qm_i (0 : Int32)], h)) rfl ?_
            exact rX2_wins_72 (ih) ho
      · rw [if_neg hc] at ho
        exact rX2_wins_103 ho
    · rw [if_neg hc] at ho
      exact rX2_wins_103 ho
set_option maxRecDepth 20000 in
set_option maxHeartbeats 2000000 in
theorem rX2_wins_0   {a0 : Nat} {x1 : Int32} {x2 : Int32} {x3 : Int32} {h : qm_H} {r : Int32 × qm_H} (ho : qX2_wins  a0 x1 x2 x3 h = some r) : qm_Ret mX2_wins (0, [some (qm_r 0 2 a0), some (qm_i x1), some (qm_i x2), some (qm_i x3), none, none, none, none, none], [], h) (qm_Gi r) := by
  unfold qX2_wins at ho
  refine qm_Ret.sts 6 (f' := (9, [some (qm_r 0 2 a0), some (qm_i x1), some (qm_i x2), some (qm_i x3), some (qm_i (0 : Int32)), some (qm_i (0 : Int32)), some (qm_i (0 : Int32)), none, none], [], h)) rfl ?_
  exact rX2_wins_9 ho
theorem cX2_wins_ok : ∀ q ∈ ([] : List (Nat × Nat × Nat × qm_C)), qm_CallOK RX2 0 0 q.2.1 q.1 q.2.2.1 q.2.2.2 := fun _ h => absurd h List.not_mem_nil
theorem sX2_wins : qm_Snd yX2_wins cX2_wins 9 (some .boolean) 0 0 wX2_wins := qm_met (fld := fun k => qm_lk k pfRX2) (con := fun k => qm_lk k pcRX2) (call := fun k => qm_lk k []) (tab := qm_tab aX2_wins) (plainFor_of_name (by decide)) (qm_fld_ok pfRX2_ok) (qm_con_ok pcRX2_ok) (fun idx kd n f hc => cX2_wins_ok (idx, kd, n, f) (qm_lk_mem hc)) (qm_tab_ok aX2_wins_ok) (fun vs h o hw => by
  unfold wX2_wins at hw
  split at hw
  · obtain ⟨r, hr, rfl⟩ := Option.map_eq_some_iff.mp hw
    exact ⟨Nat.le_of_ble_eq_true rfl, rX2_wins_0 (hr)⟩
  · cases hw)
theorem recvX2_wins : ∀ vs h o, wX2_wins vs h = some o → ∃ ci a rest, vs = qm_r 0 ci a :: rest ∧ qm_R ci = yX2_wins.cls := by
  intro vs h o hw
  unfold wX2_wins at hw
  split at hw
  · exact ⟨_, _, _, rfl, rfl⟩
  · cases hw
-- RX2 winningCut(Z)I
theorem jX2_winningCut : Jvm.Cond.code yX2_winningCut cX2_winningCut 4 (some .int) ∈ qm_all := List.mem_filter.mpr ⟨by decide +kernel, rfl⟩
theorem iX2_winningCut : Jvm.Cond.instanceMethod yX2_winningCut ∈ qm_all ∧ Jvm.Cond.selects yX2_winningCut.cls yX2_winningCut yX2_winningCut ∈ qm_all := ⟨List.mem_filter.mpr ⟨by decide +kernel, rfl⟩, List.mem_filter.mpr ⟨by decide +kernel, rfl⟩⟩
def wX2_winningCut : qm_C := fun vs h => match vs with
  | [.inr (.inr (some (0, 2, p0))), .inl p1] => (qX2_winningCut p0 p1 h).map qm_Gi
  | _ => none
def aX2_winningCut : List (Option (Instr × Nat)) := [some (.iconst 0, 1), some (.istore_n 2, 1), some (.iload_n 2, 1), some (.aload_n 0, 1), some (.getfield 22, 3), none, none, some (.if_icmp .ge 58, 3), none, none, some (.iload_n 2, 1), some (.bipush 6, 2), none, some (.if_icmp .ge 52, 3), none, none, some (.iconst 1, 1), some (.istore_n 3, 1), some (.iload_n 3, 1), some (.aload_n 0, 1), some (.getfield 18, 3), none, none, some (.if_icmp .gt 36, 3), none, none, some (.iload_n 3, 1), some (.aload_n 0, 1), some (.getfield 11, 3), none, none, some (.iload_n 2, 1), some (.iaload, 1), some (.if_icmp .gt 26, 3), none, none, some (.aload_n 0, 1), some (.iload_n 2, 1), some (.iload_n 3, 1), some (.iload_n 1, 1), some (.invokevirtual 34, 3), none, none, some (.ifCond .ne 10, 3), none, none, some (.bipush 10, 2), none, some (.iload_n 2, 1), some (.imul, 1), some (.iload_n 3, 1), some (.iadd, 1), some (.ireturn, 1), some (.iinc 3 1, 3), none, none, some (.goto (-38), 3), none, none, some (.iinc 2 1, 3), none, none, some (.goto (-60), 3), none, none, some (.iconst (-1), 1), some (.ireturn, 1)]
theorem aX2_winningCut_ok : qm_tabok cX2_winningCut aX2_winningCut = true := by decide +kernel
def mX2_winningCut : qm_M := ((some .int), (fun k => qm_lk k pfRX2), (fun k => qm_lk k pcRX2), (fun k => qm_lk k [(34, 0, 4, wX2_wins)]), qm_tab aX2_winningCut)
set_option maxRecDepth 20000 in
set_option maxHeartbeats 2000000 in
theorem rX2_winningCut_18 {K2 : Nat → Int32 → Int32 → qm_H → Option (Int32 × qm_H)} (H2 : ∀ {a0 : Nat} {x1 : Int32} {x2 : Int32} {d3 : Option qm_V} {h : qm_H} {r : Int32 × qm_H}, K2 a0 x1 x2 h = some r → qm_Ret mX2_winningCut (2, [some (qm_r 0 2 a0), some (qm_i x1), some (qm_i x2), d3], [], h) (qm_Gi r)) : ∀ {fuel : Nat} {a0 : Nat} {x1 : Int32} {x2 : Int32} {x3 : Int32} {h : qm_H} {r : Int32 × qm_H}, qX2_winningCut_18 K2 fuel a0 x1 x2 x3 h = some r → qm_Ret mX2_winningCut (18, [some (qm_r 0 2 a0), some (qm_i x1), some (qm_i x2), some (qm_i x3)], [], h) (qm_Gi r) := by
  intro fuel
  induction fuel with
  | zero => intros; rename_i ho; cases ho
  | succ n ih =>
    intro a0 x1 x2 x3 h r ho
    unfold qX2_winningCut_18 at ho
    refine qm_Ret.sts 3 (f' := (23, [some (qm_r 0 2 a0), some (qm_i x1), some (qm_i x2), some (qm_i x3)], [qm_i (h.1 a0 4), qm_i x3], h)) rfl ?_
    refine qm_Ret.gt (t := 59) (e := 26) rfl (fun hc => ?_) (fun hc => ?_)
    · rw [if_pos hc] at ho
      refine qm_Ret.sts 2 (f' := (2, [some (qm_r 0 2 a0), some (qm_i x1), some (qm_i (x2 + (1 : Int32))), some (qm_i x3)], [], h)) rfl ?_
      exact H2 ho
    · rw [if_neg hc] at ho
      refine qm_Ret.sts 4 (f' := (32, [some (qm_r 0 2 a0), some (qm_i x1), some (qm_i x2), some (qm_i x3)], [qm_i x2, qm_r 1 6 (a0 + 1), qm_i x3], h)) rfl ?_
      obtain ⟨hg, ho⟩ := qm_ifn ho
      refine qm_Ret.gn (f1 := (33, [some (qm_r 0 2 a0), some (qm_i x1), some (qm_i x2), some (qm_i x3)], [qm_i (h.1 (a0 + 1) (x2).toNatClampNeg), qm_i x3], h)) hg rfl ?_
      refine qm_Ret.gt (t := 59) (e := 36) rfl (fun hc => ?_) (fun hc => ?_)
      · rw [if_pos hc] at ho
        refine qm_Ret.sts 2 (f' := (2, [some (qm_r 0 2 a0), some (qm_i x1), some (qm_i (x2 + (1 : Int32))), some (qm_i x3)], [], h)) rfl ?_
        exact H2 ho
      · rw [if_neg hc] at ho
        refine qm_Ret.sts 4 (f' := (40, [some (qm_r 0 2 a0), some (qm_i x1), some (qm_i x2), some (qm_i x3)], [qm_i x1, qm_i x3, qm_i x2, qm_r 0 2 a0], h)) rfl ?_
        obtain ⟨r2, h1, hr, ho⟩ := qm_b2e ho
        refine qm_Ret.call (X := wX2_wins [qm_r 0 2 a0, qm_i x2, qm_i x3, qm_i x1] h) (o1 := (some (qm_i r2), h1)) (qm_mp (G := qm_Gi) hr) rfl ?_
        show qm_Ret _ (43, [some (qm_r 0 2 a0), some (qm_i x1), some (qm_i x2), some (qm_i x3)], [qm_i r2], h1) _
        refine qm_Ret.ne (t := 53) (e := 46) rfl (fun hc => ?_) (fun hc => ?_)
        · rw [if_pos hc] at ho
          cases ho
          exact qm_Ret.ret 6 rfl
        · rw [if_neg hc] at ho
          refine qm_Ret.sts 2 (f' := (18, [some (qm_r 0 2 a0), some (qm_i x1), some (qm_i x2), some (qm_i (x3 + (1 : Int32)))], [], h1)) rfl ?_
          exact ih ho
set_option maxRecDepth 20000 in
set_option maxHeartbeats 2000000 in
theorem rX2_winningCut_2   : ∀ {fuel : Nat} {a0 : Nat} {x1 : Int32} {x2 : Int32} {d3 : Option qm_V} {h : qm_H} {r : Int32 × qm_H}, qX2_winningCut_2  fuel a0 x1 x2 h = some r → qm_Ret mX2_winningCut (2, [some (qm_r 0 2 a0), some (qm_i x1), some (qm_i x2), d3], [], h) (qm_Gi r) := by
  intro fuel
  induction fuel with
  | zero => intros; rename_i ho; cases ho
  | succ n ih =>
    intro a0 x1 x2 d3 h r ho
    unfold qX2_winningCut_2 at ho
    refine qm_Ret.sts 3 (f' := (7, [some (qm_r 0 2 a0), some (qm_i x1), some (qm_i x2), d3], [qm_i (h.1 a0 2), qm_i x2], h)) rfl ?_
    refine qm_Ret.ge (t := 65) (e := 10) rfl (fun hc => ?_) (fun hc => ?_)
    · rw [if_pos hc] at ho
      refine qm_Ret.sts 2 (f' := (13, [some (qm_r 0 2 a0), some (qm_i x1), some (qm_i x2), d3], [qm_i (6 : Int32), qm_i x2], h)) rfl ?_
      refine qm_Ret.ge (t := 65) (e := 16) rfl (fun hc => ?_) (fun hc => ?_)
      · rw [if_pos hc] at ho
        refine qm_Ret.sts 2 (f' := (18, [some (qm_r 0 2 a0), some (qm_i x1), some (qm_i x2), some (qm_i (1 : Int32))], [], h)) rfl ?_
        exact rX2_winningCut_18 (ih) ho
      · rw [if_neg hc] at ho
        cases ho
        exact qm_Ret.ret 2 rfl
    · rw [if_neg hc] at ho
      cases ho
      exact qm_Ret.ret 2 rfl
set_option maxRecDepth 20000 in
set_option maxHeartbeats 2000000 in
theorem rX2_winningCut_0   {a0 : Nat} {x1 : Int32} {h : qm_H} {r : Int32 × qm_H} (ho : qX2_winningCut  a0 x1 h = some r) : qm_Ret mX2_winningCut (0, [some (qm_r 0 2 a0), some (qm_i x1), none, none], [], h) (qm_Gi r) := by
  unfold qX2_winningCut at ho
  refine qm_Ret.sts 2 (f' := (2, [some (qm_r 0 2 a0), some (qm_i x1), some (qm_i (0 : Int32)), none], [], h)) rfl ?_
  exact rX2_winningCut_2 ho
theorem cX2_winningCut_ok : ∀ q ∈ ([(34, 0, 4, wX2_wins)] : List (Nat × Nat × Nat × qm_C)), qm_CallOK RX2 1 28 q.2.1 q.1 q.2.2.1 q.2.2.2 := List.forall_mem_cons.mpr ⟨Or.inl ⟨yX2_wins, cX2_wins, 9, (some .boolean), 0, 0, _, sX2_wins, ⟨by decide, by decide⟩, ⟨jX2_wins, kRX2_34, uRX2⟩, ⟨by decide, by decide, rfl⟩, Or.inl ⟨rfl, rfl, iX2_wins, recvX2_wins⟩⟩, fun _ h => absurd h List.not_mem_nil⟩
theorem sX2_winningCut : qm_Snd yX2_winningCut cX2_winningCut 4 (some .int) 1 28 wX2_winningCut := qm_met (fld := fun k => qm_lk k pfRX2) (con := fun k => qm_lk k pcRX2) (call := fun k => qm_lk k [(34, 0, 4, wX2_wins)]) (tab := qm_tab aX2_winningCut) (plainFor_of_name (by decide)) (qm_fld_ok pfRX2_ok) (qm_con_ok pcRX2_ok) (fun idx kd n f hc => cX2_winningCut_ok (idx, kd, n, f) (qm_lk_mem hc)) (qm_tab_ok aX2_winningCut_ok) (fun vs h o hw => by
  unfold wX2_winningCut at hw
  split at hw
  · obtain ⟨r, hr, rfl⟩ := Option.map_eq_some_iff.mp hw
    exact ⟨Nat.le_of_ble_eq_true rfl, rX2_winningCut_0 (hr)⟩
  · cases hw)
theorem recvX2_winningCut : ∀ vs h o, wX2_winningCut vs h = some o → ∃ ci a rest, vs = qm_r 0 ci a :: rest ∧ qm_R ci = yX2_winningCut.cls := by
  intro vs h o hw
  unfold wX2_winningCut at hw
  split at hw
  · exact ⟨_, _, _, rfl, rfl⟩
  · cases hw
-- RJ9 min(II)I
theorem jJ9_min_7cf53 : Jvm.Cond.code yJ9_min_7cf53 cJ9_min_7cf53 2 (some .int) ∈ qm_all := List.mem_filter.mpr ⟨by decide +kernel, rfl⟩
theorem iJ9_min_7cf53 : Jvm.Cond.static yJ9_min_7cf53 ∈ qm_all := List.mem_filter.mpr ⟨by decide +kernel, rfl⟩
def wJ9_min_7cf53 : qm_C := fun vs h => match vs with
  | [.inl p0, .inl p1] => (qJ9_min_7cf53 p0 p1 h).map qm_Gi
  | _ => none
def aJ9_min_7cf53 : List (Option (Instr × Nat)) := [some (.iload_n 0, 1), some (.iload_n 1, 1), some (.if_icmp .gt 7, 3), none, none, some (.iload_n 0, 1), some (.goto 4, 3), none, none, some (.iload_n 1, 1), some (.ireturn, 1)]
theorem aJ9_min_7cf53_ok : qm_tabok cJ9_min_7cf53 aJ9_min_7cf53 = true := by decide +kernel
def mJ9_min_7cf53 : qm_M := ((some .int), (fun k => qm_lk k pfRJ9), (fun k => qm_lk k pcRJ9), (fun k => qm_lk k []), qm_tab aJ9_min_7cf53)
set_option maxRecDepth 20000 in
set_option maxHeartbeats 2000000 in
theorem rJ9_min_7cf53_0   {x0 : Int32} {x1 : Int32} {h : qm_H} {r : Int32 × qm_H} (ho : qJ9_min_7cf53  x0 x1 h = some r) : qm_Ret mJ9_min_7cf53 (0, [some (qm_i x0), some (qm_i x1)], [], h) (qm_Gi r) := by
  unfold qJ9_min_7cf53 at ho
  refine qm_Ret.sts 2 (f' := (2, [some (qm_i x0), some (qm_i x1)], [qm_i x1, qm_i x0], h)) rfl ?_
  refine qm_Ret.gt (t := 9) (e := 5) rfl (fun hc => ?_) (fun hc => ?_)
  · rw [if_pos hc] at ho
    cases ho
    exact qm_Ret.ret 2 rfl
  · rw [if_neg hc] at ho
    cases ho
    exact qm_Ret.ret 3 rfl
theorem cJ9_min_7cf53_ok : ∀ q ∈ ([] : List (Nat × Nat × Nat × qm_C)), qm_CallOK RJ9 0 0 q.2.1 q.1 q.2.2.1 q.2.2.2 := fun _ h => absurd h List.not_mem_nil
theorem sJ9_min_7cf53 : qm_Snd yJ9_min_7cf53 cJ9_min_7cf53 2 (some .int) 0 0 wJ9_min_7cf53 := qm_met (fld := fun k => qm_lk k pfRJ9) (con := fun k => qm_lk k pcRJ9) (call := fun k => qm_lk k []) (tab := qm_tab aJ9_min_7cf53) (by decide +kernel) (qm_fld_ok pfRJ9_ok) (qm_con_ok pcRJ9_ok) (fun idx kd n f hc => cJ9_min_7cf53_ok (idx, kd, n, f) (qm_lk_mem hc)) (qm_tab_ok aJ9_min_7cf53_ok) (fun vs h o hw => by
  unfold wJ9_min_7cf53 at hw
  split at hw
  · obtain ⟨r, hr, rfl⟩ := Option.map_eq_some_iff.mp hw
    exact ⟨Nat.le_of_ble_eq_true rfl, rJ9_min_7cf53_0 (hr)⟩
  · cases hw)
-- RX8 kindAt(I)I
theorem jX8_kindAt : Jvm.Cond.code yX8_kindAt cX8_kindAt 3 (some .int) ∈ qm_all := List.mem_filter.mpr ⟨by decide +kernel, rfl⟩
theorem iX8_kindAt : Jvm.Cond.instanceMethod yX8_kindAt ∈ qm_all ∧ Jvm.Cond.selects yX8_kindAt.cls yX8_kindAt yX8_kindAt ∈ qm_all := ⟨List.mem_filter.mpr ⟨by decide +kernel, rfl⟩, List.mem_filter.mpr ⟨by decide +kernel, rfl⟩⟩
def wX8_kindAt : qm_C := fun vs h => match vs with
  | [.inr (.inr (some (0, 8, p0))), .inl p1] => (qX8_kindAt p0 p1 h).map qm_Gi
  | _ => none
def aX8_kindAt : List (Option (Instr × Nat)) := [some (.iload_n 1, 1), some (.ifCond .lt 11, 3), none, none, some (.iload_n 1, 1), some (.aload_n 0, 1), some (.getfield 19, 3), none, none, some (.if_icmp .lt 5, 3), none, none, some (.iconst 0, 1), some (.ireturn, 1), some (.aload_n 0, 1), some (.getfield 7, 3), none, none, some (.iload_n 1, 1), some (.baload, 1), some (.istore_n 2, 1), some (.iload_n 2, 1), some (.bipush 97, 2), none, some (.if_icmp .lt 11, 3), none, none, some (.iload_n 2, 1), some (.bipush 122, 2), none, some (.if_icmp .gt 5, 3), none, none, some (.iconst 1, 1), some (.ireturn, 1), some (.iload_n 2, 1), some (.bipush 48, 2), none, some (.if_icmp .lt 11, 3), none, none, some (.iload_n 2, 1), some (.bipush 57, 2), none, some (.if_icmp .gt 5, 3), none, none, some (.iconst 2, 1), some (.ireturn, 1), some (.iload_n 2, 1), some (.bipush 59, 2), none, some (.if_icmp .ne 5, 3), none, none, some (.iconst 3, 1), some (.ireturn, 1), some (.iload_n 2, 1), some (.bipush 10, 2), none, some (.if_icmp .eq 9, 3), none, none, some (.iload_n 2, 1), some (.bipush 32, 2), none, some (.if_icmp .ne 7, 3), none, none, some (.iconst 4, 1), some (.goto 4, 3), none, none, some (.iconst 5, 1), some (.ireturn, 1)]
theorem aX8_kindAt_ok : qm_tabok cX8_kindAt aX8_kindAt = true := by decide +kernel
def mX8_kindAt : qm_M := ((some .int), (fun k => qm_lk k pfRX8), (fun k => qm_lk k pcRX8), (fun k => qm_lk k []), qm_tab aX8_kindAt)
set_option maxRecDepth 20000 in
set_option maxHeartbeats 2000000 in
theorem rX8_kindAt_49   {x2 : Int32} {ad0 : Nat} {xd1 : Int32} {h : qm_H} {r : Int32 × qm_H} (ho : qX8_kindAt_49  x2 h = some r) : qm_Ret mX8_kindAt (49, [some (qm_r 0 8 ad0), some (qm_i xd1), some (qm_i x2)], [], h) (qm_Gi r) := by
  unfold qX8_kindAt_49 at ho
  refine qm_Ret.sts 2 (f' := (52, [some (qm_r 0 8 ad0), some (qm_i xd1), some (qm_i x2)], [qm_i (59 : Int32), qm_i x2], h)) rfl ?_
  refine qm_Ret.ne (t := 57) (e := 55) rfl (fun hc => ?_) (fun hc => ?_)
  · rw [if_pos hc] at ho
    cases ho
    exact qm_Ret.ret 2 rfl
  · rw [if_neg hc] at ho
    refine qm_Ret.sts 2 (f' := (60, [some (qm_r 0 8 ad0), some (qm_i xd1), some (qm_i x2)], [qm_i (10 : Int32), qm_i x2], h)) rfl ?_
    refine qm_Ret.eq (t := 69) (e := 63) rfl (fun hc => ?_) (fun hc => ?_)
    · rw [if_pos hc] at ho
      cases ho
      exact qm_Ret.ret 3 rfl
    · rw [if_neg hc] at ho
      refine qm_Ret.sts 2 (f' := (66, [some (qm_r 0 8 ad0), some (qm_i xd1), some (qm_i x2)], [qm_i (32 : Int32), qm_i x2], h)) rfl ?_
      refine qm_Ret.ne (t := 73) (e := 69) rfl (fun hc => ?_) (fun hc => ?_)
      · rw [if_pos hc] at ho
        cases ho
        exact qm_Ret.ret 3 rfl
      · rw [if_neg hc] at ho
        cases ho
        exact qm_Ret.ret 2 rfl
set_option maxRecDepth 20000 in
set_option maxHeartbeats 2000000 in
theorem rX8_kindAt_0   {a0 : Nat} {x1 : Int32} {h : qm_H} {r : Int32 × qm_H} (ho : qX8_kindAt  a0 x1 h = some r) : qm_Ret mX8_kindAt (0, [some (qm_r 0 8 a0), some (qm_i x1), none], [], h) (qm_Gi r) := by
  unfold qX8_kindAt at ho
  refine qm_Ret.sts 1 (f' := (1, [some (qm_r 0 8 a0), some (qm_i x1), none], [qm_i x1], h)) rfl ?_
  refine qm_Ret.lt (t := 12) (e := 4) rfl (fun hc => ?_) (fun hc => ?_)
  · rw [if_pos hc] at ho
    cases ho
    exact qm_Ret.ret 2 rfl
  · rw [if_neg hc] at ho
    refine qm_Ret.sts 3 (f' := (9, [some (qm_r 0 8 a0), some (qm_i x1), none], [qm_i (h.1 a0 1), qm_i x1], h)) rfl ?_
    refine qm_Ret.lt (t := 14) (e := 12) rfl (fun hc => ?_) (fun hc => ?_)
    · rw [if_pos hc] at ho
      refine qm_Ret.sts 3 (f' := (19, [some (qm_r 0 8 a0), some (qm_i x1), none], [qm_i x1, qm_r 2 600 (a0 - 41)], h)) rfl ?_
      obtain ⟨hg, ho⟩ := qm_ifn ho
      refine qm_Ret.gn (f1 := (20, [some (qm_r 0 8 a0), some (qm_i x1), none], [qm_i (h.1 (a0 - 41) (x1).toNatClampNeg)], h)) hg rfl ?_
      refine qm_Ret.lets (F := fun v1 => (20, [some (qm_r 0 8 a0), some (qm_i x1), none], [qm_i v1], h)) (G := qm_Gi) ho (fun v1 ho => ?_)
      refine qm_Ret.sts 3 (f' := (24, [some (qm_r 0 8 a0), some (qm_i x1), some (qm_i v1)], [qm_i (97 : Int32), qm_i v1], h)) rfl ?_
      refine qm_Ret.lt (t := 35) (e := 27) rfl (fun hc => ?_) (fun hc => ?_)
      · rw [if_pos hc] at ho
        refine qm_Ret.sts 2 (f' := (38, [some (qm_r 0 8 a0), some (qm_i x1), some (qm_i v1)], [qm_i (48 : Int32), qm_i v1], h)) rfl ?_
        refine qm_Ret.lt (t := 49) (e := 41) rfl (fun hc => ?_) (fun hc => ?_)
        · rw [if_pos hc] at ho
          exact rX8_kindAt_49 ho
        · rw [if_neg hc] at ho
          refine qm_Ret.sts 2 (f' := (44, [some (qm_r 0 8 a0), some (qm_i x1), some (qm_i v1)], [qm_i (57 : Int32), qm_i v1], h)) rfl ?_
          refine qm_Ret.gt (t := 49) (e := 47) rfl (fun hc => ?_) (fun hc => ?_)
          · rw [if_pos hc] at ho
            exact rX8_kindAt_49 ho
          · rw [if_neg hc] at ho
            cases ho
            exact qm_Ret.ret 2 rfl
      · rw [if_neg hc] at ho
        refine qm_Ret.sts 2 (f' := (30, [some (qm_r 0 8 a0), some (qm_i x1), some (qm_i v1)], [qm_i (122 : Int32), qm_i v1], h)) rfl ?_
        refine qm_Ret.gt (t := 35) (e := 33) rfl (fun hc => ?_) (fun hc => ?_)
        · rw [if_pos hc] at ho
          refine qm_Ret.sts 2 (f' := (38, [some (qm_r 0 8 a0), some (qm_i x1), some (qm_i v1)], [qm_i (48 : Int32), qm_i v1], h)) rfl ?_
          refine qm_Ret.lt (t := 49) (e := 41) rfl (fun hc => ?_) (fun hc => ?_)
          · rw [if_pos hc] at ho
            exact rX8_kindAt_49 ho
          · rw [if_neg hc] at ho
            refine qm_Ret.sts 2 (f' := (44, [some (qm_r 0 8 a0), some (qm_i x1), some (qm_i v1)], [qm_i (57 : Int32), qm_i v1], h)) rfl ?_
            refine qm_Ret.gt (t := 49) (e := 47) rfl (fun hc => ?_) (fun hc => ?_)
            · rw [if_pos hc] at ho
              exact rX8_kindAt_49 ho
            · rw [if_neg hc] at ho
              cases ho
              exact qm_Ret.ret 2 rfl
        · rw [if_neg hc] at ho
          cases ho
          exact qm_Ret.ret 2 rfl
    · rw [if_neg hc] at ho
      cases ho
      exact qm_Ret.ret 2 rfl
theorem cX8_kindAt_ok : ∀ q ∈ ([] : List (Nat × Nat × Nat × qm_C)), qm_CallOK RX8 0 0 q.2.1 q.1 q.2.2.1 q.2.2.2 := fun _ h => absurd h List.not_mem_nil
theorem sX8_kindAt : qm_Snd yX8_kindAt cX8_kindAt 3 (some .int) 0 0 wX8_kindAt := qm_met (fld := fun k => qm_lk k pfRX8) (con := fun k => qm_lk k pcRX8) (call := fun k => qm_lk k []) (tab := qm_tab aX8_kindAt) (plainFor_of_name (by decide)) (qm_fld_ok pfRX8_ok) (qm_con_ok pcRX8_ok) (fun idx kd n f hc => cX8_kindAt_ok (idx, kd, n, f) (qm_lk_mem hc)) (qm_tab_ok aX8_kindAt_ok) (fun vs h o hw => by
  unfold wX8_kindAt at hw
  split at hw
  · obtain ⟨r, hr, rfl⟩ := Option.map_eq_some_iff.mp hw
    exact ⟨Nat.le_of_ble_eq_true rfl, rX8_kindAt_0 (hr)⟩
  · cases hw)
theorem recvX8_kindAt : ∀ vs h o, wX8_kindAt vs h = some o → ∃ ci a rest, vs = qm_r 0 ci a :: rest ∧ qm_R ci = yX8_kindAt.cls := by
  intro vs h o hw
  unfold wX8_kindAt at hw
  split at hw
  · exact ⟨_, _, _, rfl, rfl⟩
  · cases hw
-- RX8 takeNumber()V
theorem jX8_takeNumber : Jvm.Cond.code yX8_takeNumber cX8_takeNumber 2 none ∈ qm_all := List.mem_filter.mpr ⟨by decide +kernel, rfl⟩
theorem iX8_takeNumber : Jvm.Cond.instanceMethod yX8_takeNumber ∈ qm_all ∧ Jvm.Cond.selects yX8_takeNumber.cls yX8_takeNumber yX8_takeNumber ∈ qm_all := ⟨List.mem_filter.mpr ⟨by decide +kernel, rfl⟩, List.mem_filter.mpr ⟨by decide +kernel, rfl⟩⟩
def wX8_takeNumber : qm_C := fun vs h => match vs with
  | [.inr (.inr (some (0, 8, p0)))] => (qX8_takeNumber p0 h).map qm_Gv
  | _ => none
def aX8_takeNumber : List (Option (Instr × Nat)) := [some (.aload_n 0, 1), some (.getfield 23, 3), none, none, some (.aload_n 0, 1), some (.getfield 33, 3), none, none, some (.isub, 1), some (.iconst 2, 1), some (.if_icmp .le 9, 3), none, none, some (.aload_n 0, 1), some (.iconst 5, 1), some (.putfield 36, 3), none, none, some (.return_, 1), some (.aload_n 0, 1), some (.iconst 0, 1), some (.putfield 42, 3), none, none, some (.aload_n 0, 1), some (.getfield 33, 3), none, none, some (.istore_n 1, 1), some (.iload_n 1, 1), some (.aload_n 0, 1), some (.getfield 23, 3), none, none, some (.if_icmp .ge 38, 3), none, none, some (.iload_n 1, 1), some (.aload_n 0, 1), some (.getfield 19, 3), none, none, some (.if_icmp .ge 30, 3), none, none, some (.aload_n 0, 1), some (.bipush 10, 2), none, some (.aload_n 0, 1), some (.getfield 42, 3), none, none, some (.imul, 1), some (.aload_n 0, 1), some (.getfield 7, 3), none, none, some (.iload_n 1, 1), some (.baload, 1), some (.bipush 48, 2), none, some (.isub, 1), some (.iadd, 1), some (.putfield 42, 3), none, none, some (.iinc 1 1, 3), none, none, some (.goto (-40), 3), none, none, some (.return_, 1)]
theorem aX8_takeNumber_ok : qm_tabok cX8_takeNumber aX8_takeNumber = true := by decide +kernel
def mX8_takeNumber : qm_M := (none, (fun k => qm_lk k pfRX8), (fun k => qm_lk k pcRX8), (fun k => qm_lk k []), qm_tab aX8_takeNumber)
set_option maxRecDepth 20000 in
set_option maxHeartbeats 2000000 in
theorem rX8_takeNumber_29   : ∀ {fuel : Nat} {a0 : Nat} {x1 : Int32} {h : qm_H} {r : qm_H}, qX8_takeNumber_29  fuel a0 x1 h = some r → qm_Ret mX8_takeNumber (29, [some (qm_r 0 8 a0), some (qm_i x1)], [], h) (qm_Gv r) := by
  intro fuel
  induction fuel with
  | zero => intros; rename_i ho; cases ho
  | succ n ih =>
    intro a0 x1 h r ho
    unfold qX8_takeNumber_29 at ho
    refine qm_Ret.sts 3 (f' := (34, [some (qm_r 0 8 a0), some (qm_i x1)], [qm_i (h.1 a0 4), qm_i x1], h)) rfl ?_
    refine qm_Ret.ge (t := 72) (e := 37) rfl (fun hc => ?_) (fun hc => ?_)
    · rw [if_pos hc] at ho
      refine qm_Ret.sts 3 (f' := (42, [some (qm_r 0 8 a0), some (qm_i x1)], [qm_i (h.1 a0 1), qm_i x1], h)) rfl ?_
      refine qm_Ret.ge (t := 72) (e := 45) rfl (fun hc => ?_) (fun hc => ?_)
      · rw [if_pos hc] at ho
        refine qm_Ret.sts 8 (f' := (58, [some (qm_r 0 8 a0), some (qm_i x1)], [qm_i x1, qm_r 2 600 (a0 - 41), qm_i ((10 : Int32) * (h.1 a0 5)), qm_r 0 8 a0], h)) rfl ?_
        obtain ⟨hg, ho⟩ := qm_ifn ho
        refine qm_Ret.gn (f1 := (59, [some (qm_r 0 8 a0), some (qm_i x1)], [qm_i (h.1 (a0 - 41) (x1).toNatClampNeg), qm_i ((10 : Int32) * (h.1 a0 5)), qm_r 0 8 a0], h)) hg rfl ?_
        refine qm_Ret.sts 4 (f' := (66, [some (qm_r 0 8 a0), some (qm_i x1)], [], (qm_seti h a0 5 (((10 : Int32) * (h.1 a0 5)) + ((h.1 (a0 - 41) (x1).toNatClampNeg) - (48 : Int32)))))) rfl ?_
        refine qm_Ret.lets (F := fun h1 => (66, [some (qm_r 0 8 a0), some (qm_i x1)], [], h1)) (G := qm_Gv) ho (fun h1 ho => ?_)
        refine qm_Ret.sts 2 (f' := (29, [some (qm_r 0 8 a0), some (qm_i (x1 + (1 : Int32)))], [], h1)) rfl ?_
        exact ih ho
      · rw [if_neg hc] at ho
        cases ho
        exact qm_Ret.ret 1 rfl
    · rw [if_neg hc] at ho
      cases ho
      exact qm_Ret.ret 1 rfl
set_option maxRecDepth 20000 in
set_option maxHeartbeats 2000000 in
theorem rX8_takeNumber_0   {a0 : Nat} {h : qm_H} {r : qm_H} (ho : qX8_takeNumber  a0 h = some r) : qm_Ret mX8_takeNumber (0, [some (qm_r 0 8 a0), none], [], h) (qm_Gv r) := by
  unfold qX8_takeNumber at ho
  refine qm_Ret.sts 6 (f' := (10, [some (qm_r 0 8 a0), none], [qm_i (2 : Int32), qm_i ((h.1 a0 4) - (h.1 a0 3))], h)) rfl ?_
  refine qm_Ret.le (t := 19) (e := 13) rfl (fun hc => ?_) (fun hc => ?_)
  · rw [if_pos hc] at ho
    refine qm_Ret.sts 3 (f' := (18, [some (qm_r 0 8 a0), none], [], (qm_seti h a0 2 (5 : Int32)))) rfl ?_
    refine qm_Ret.lets (F := fun h2 => (18, [some (qm_r 0 8 a0), none], [], h2)) (G := qm_Gv) ho (fun h2 ho => ?_)
    cases ho
    exact qm_Ret.ret 1 rfl
  · rw [if_neg hc] at ho
    refine qm_Ret.sts 3 (f' := (24, [some (qm_r 0 8 a0), none], [], (qm_seti h a0 5 (0 : Int32)))) rfl ?_
    refine qm_Ret.lets (F := fun h1 => (24, [some (qm_r 0 8 a0), none], [], h1)) (G := qm_Gv) ho (fun h1 ho => ?_)
    refine qm_Ret.sts 3 (f' := (29, [some (qm_r 0 8 a0), some (qm_i (h1.1 a0 3))], [], h1)) rfl ?_
    exact rX8_takeNumber_29 ho
theorem cX8_takeNumber_ok : ∀ q ∈ ([] : List (Nat × Nat × Nat × qm_C)), qm_CallOK RX8 0 0 q.2.1 q.1 q.2.2.1 q.2.2.2 := fun _ h => absurd h List.not_mem_nil
theorem sX8_takeNumber : qm_Snd yX8_takeNumber cX8_takeNumber 2 none 0 0 wX8_takeNumber := qm_met (fld := fun k => qm_lk k pfRX8) (con := fun k => qm_lk k pcRX8) (call := fun k => qm_lk k []) (tab := qm_tab aX8_takeNumber) (plainFor_of_name (by decide)) (qm_fld_ok pfRX8_ok) (qm_con_ok pcRX8_ok) (fun idx kd n f hc => cX8_takeNumber_ok (idx, kd, n, f) (qm_lk_mem hc)) (qm_tab_ok aX8_takeNumber_ok) (fun vs h o hw => by
  unfold wX8_takeNumber at hw
  split at hw
  · obtain ⟨r, hr, rfl⟩ := Option.map_eq_some_iff.mp hw
    exact ⟨Nat.le_of_ble_eq_true rfl, rX8_takeNumber_0 (hr)⟩
  · cases hw)
theorem recvX8_takeNumber : ∀ vs h o, wX8_takeNumber vs h = some o → ∃ ci a rest, vs = qm_r 0 ci a :: rest ∧ qm_R ci = yX8_takeNumber.cls := by
  intro vs h o hw
  unfold wX8_takeNumber at hw
  split at hw
  · exact ⟨_, _, _, rfl, rfl⟩
  · cases hw
-- RX8 advance()V
theorem jX8_advance : Jvm.Cond.code yX8_advance cX8_advance 2 none ∈ qm_all := List.mem_filter.mpr ⟨by decide +kernel, rfl⟩
theorem iX8_advance : Jvm.Cond.instanceMethod yX8_advance ∈ qm_all ∧ Jvm.Cond.selects yX8_advance.cls yX8_advance yX8_advance ∈ qm_all := ⟨List.mem_filter.mpr ⟨by decide +kernel, rfl⟩, List.mem_filter.mpr ⟨by decide +kernel, rfl⟩⟩
def wX8_advance : qm_C := fun vs h => match vs with
  | [.inr (.inr (some (0, 8, p0)))] => (qX8_advance p0 h).map qm_Gv
  | _ => none
def aX8_advance : List (Option (Instr × Nat)) := [some (.aload_n 0, 1), some (.getfield 23, 3), none, none, some (.aload_n 0, 1), some (.getfield 19, 3), none, none, some (.if_icmp .ge 28, 3), none, none, some (.aload_n 0, 1), some (.aload_n 0, 1), some (.getfield 23, 3), none, none, some (.invokevirtual 29, 3), none, none, some (.iconst 4, 1), some (.if_icmp .ne 16, 3), none, none, some (.aload_n 0, 1), some (.dup, 1), some (.getfield 23, 3), none, none, some (.iconst 1, 1), some (.iadd, 1), some (.putfield 23, 3), none, none, some (.goto (-33), 3), none, none, some (.aload_n 0, 1), some (.aload_n 0, 1), some (.getfield 23, 3), none, none, some (.putfield 33, 3), none, none, some (.aload_n 0, 1), some (.aload_n 0, 1), some (.aload_n 0, 1), some (.getfield 33, 3), none, none, some (.invokevirtual 29, 3), none, none, some (.putfield 36, 3), none, none, some (.aload_n 0, 1), some (.getfield 36, 3), none, none, some (.ifCond .eq 13, 3), none, none, some (.aload_n 0, 1), some (.dup, 1), some (.getfield 23, 3), none, none, some (.iconst 1, 1), some (.iadd, 1), some (.putfield 23, 3), none, none, some (.aload_n 0, 1), some (.getfield 36, 3), none, none, some (.iconst 1, 1), some (.if_icmp .eq 11, 3), none, none, some (.aload_n 0, 1), some (.getfield 36, 3), none, none, some (.iconst 2, 1), some (.if_icmp .ne 7, 3), none, none, some (.iconst 1, 1), some (.goto 4, 3), none, none, some (.iconst 0, 1), some (.istore_n 1, 1), some (.iload_n 1, 1), some (.ifCond .eq 42, 3), none, none, some (.aload_n 0, 1), some (.getfield 23, 3), none, none, some (.aload_n 0, 1), some (.getfield 19, 3), none, none, some (.if_icmp .ge 31, 3), none, none, some (.aload_n 0, 1), some (.aload_n 0, 1), some (.getfield 23, 3), none, none, some (.invokevirtual 29, 3), none, none, some (.aload_n 0, 1), some (.getfield 36, 3), none, none, some (.if_icmp .ne 16, 3), none, none, some (.aload_n 0, 1), some (.dup, 1), some (.getfield 23, 3), none, none, some (.iconst 1, 1), some (.iadd, 1), some (.putfield 23, 3), none, none, some (.goto (-40), 3), none, none, some (.aload_n 0, 1), some (.getfield 36, 3), none, none, some (.iconst 2, 1), some (.if_icmp .ne 7, 3), none, none, some (.aload_n 0, 1), some (.invokevirtual 39, 3), none, none, some (.return_, 1)]
theorem aX8_advance_ok : qm_tabok cX8_advance aX8_advance = true := by decide +kernel
def mX8_advance : qm_M := (none, (fun k => qm_lk k pfRX8), (fun k => qm_lk k pcRX8), (fun k => qm_lk k [(39, 0, 1, wX8_takeNumber), (29, 0, 2, wX8_kindAt)]), qm_tab aX8_advance)
set_option maxRecDepth 20000 in
set_option maxHeartbeats 2000000 in
theorem rX8_advance_138   {a0 : Nat} {xd1 : Int32} {h : qm_H} {r : qm_H} (ho : qX8_advance_138  a0 h = some r) : qm_Ret mX8_advance (138, [some (qm_r 0 8 a0), some (qm_i xd1)], [], h) (qm_Gv r) := by
  unfold qX8_advance_138 at ho
  refine qm_Ret.sts 3 (f' := (143, [some (qm_r 0 8 a0), some (qm_i xd1)], [qm_i (2 : Int32), qm_i (h.1 a0 2)], h)) rfl ?_
  refine qm_Ret.ne (t := 150) (e := 146) rfl (fun hc => ?_) (fun hc => ?_)
  · rw [if_pos hc] at ho
    refine qm_Ret.sts 1 (f' := (147, [some (qm_r 0 8 a0), some (qm_i xd1)], [qm_r 0 8 a0], h)) rfl ?_
    obtain ⟨h1, hr, ho⟩ := qm_bd ho
    refine qm_Ret.call (X := wX8_takeNumber [qm_r 0 8 a0] h) (o1 := (none, h1)) (qm_mp (G := qm_Gv) hr) rfl ?_
    show qm_Ret _ (150, [some (qm_r 0 8 a0), some (qm_i xd1)], [], h1) _
    cases ho
    exact qm_Ret.ret 1 rfl
  · rw [if_neg hc] at ho
    cases ho
    exact qm_Ret.ret 1 rfl
set_option maxRecDepth 20000 in
set_option maxHeartbeats 2000000 in
theorem rX8_advance_95   : ∀ {fuel : Nat} {a0 : Nat} {x1 : Int32} {h : qm_H} {r : qm_H}, qX8_advance_95  fuel a0 x1 h = some r → qm_Ret mX8_advance (95, [some (qm_r 0 8 a0), some (qm_i x1)], [], h) (qm_Gv r) := by
  intro fuel
  induction fuel with
  | zero => intros; rename_i ho; cases ho
  | succ n ih =>
    intro a0 x1 h r ho
    unfold qX8_advance_95 at ho
    refine qm_Ret.sts 1 (f' := (96, [some (qm_r 0 8 a0), some (qm_i x1)], [qm_i x1], h)) rfl ?_
    refine qm_Ret.eq (t := 138) (e := 99) rfl (fun hc => ?_) (fun hc => ?_)
    · rw [if_pos hc] at ho
      exact rX8_advance_138 ho
    · rw [if_neg hc] at ho
      refine qm_Ret.sts 4 (f' := (107, [some (qm_r 0 8 a0), some (qm_i x1)], [qm_i (h.1 a0 1), qm_i (h.1 a0 4)], h)) rfl ?_
      refine qm_Ret.ge (t := 138) (e := 110) rfl (fun hc => ?_) (fun hc => ?_)
      · rw [if_pos hc] at ho
        refine qm_Ret.sts 3 (f' := (115, [some (qm_r 0 8 a0), some (qm_i x1)], [qm_i (h.1 a0 4), qm_r 0 8 a0], h)) rfl ?_
        obtain ⟨r2, h1, hr, ho⟩ := qm_b2e ho
        refine qm_Ret.call (X := wX8_kindAt [qm_r 0 8 a0, qm_i (h.1 a0 4)] h) (o1 := (some (qm_i r2), h1)) (qm_mp (G := qm_Gi) hr) rfl ?_
        show qm_Ret _ (118, [some (qm_r 0 8 a0), some (qm_i x1)], [qm_i r2], h1) _
        refine qm_Ret.sts 2 (f' := (122, [some (qm_r 0 8 a0), some (qm_i x1)], [qm_i (h1.1 a0 2), qm_i r2], h1)) rfl ?_
        refine qm_Ret.ne (t := 138) (e := 125) rfl (fun hc => ?_) (fun hc => ?_)
        · rw [if_pos hc] at ho
          refine qm_Ret.sts 6 (f' := (135, [some (qm_r 0 8 a0), some (qm_i x1)], [], (qm_seti h1 a0 4 ((h1.1 a0 4) + (1 : Int32))))) rfl ?_
          refine qm_Ret.lets (F := fun h3 => (135, [some (qm_r 0 8 a0), some (qm_i x1)], [], h3)) (G := qm_Gv) ho (fun h3 ho => ?_)
          refine qm_Ret.sts 1 (f' := (95, [some (qm_r 0 8 a0), some (qm_i x1)], [], h3)) rfl ?_
          exact ih ho
        · rw [if_neg hc] at ho
          exact rX8_advance_138 ho
      · rw [if_neg hc] at ho
        exact rX8_advance_138 ho
set_option maxRecDepth 20000 in
set_option maxHeartbeats 2000000 in
theorem rX8_advance_73   {a0 : Nat} {h : qm_H} {r : qm_H} (ho : qX8_advance_73  a0 h = some r) : qm_Ret mX8_advance (73, [some (qm_r 0 8 a0), none], [], h) (qm_Gv r) := by
  unfold qX8_advance_73 at ho
  refine qm_Ret.sts 3 (f' := (78, [some (qm_r 0 8 a0), none], [qm_i (1 : Int32), qm_i (h.1 a0 2)], h)) rfl ?_
  refine qm_Ret.eq (t := 89) (e := 81) rfl (fun hc => ?_) (fun hc => ?_)
  · rw [if_pos hc] at ho
    refine qm_Ret.sts 3 (f' := (95, [some (qm_r 0 8 a0), some (qm_i (1 : Int32))], [], h)) rfl ?_
    exact rX8_advance_95 ho
  · rw [if_neg hc] at ho
    refine qm_Ret.sts 3 (f' := (86, [some (qm_r 0 8 a0), none], [qm_i (2 : Int32), qm_i (h.1 a0 2)], h)) rfl ?_
    refine qm_Ret.ne (t := 93) (e := 89) rfl (fun hc => ?_) (fun hc => ?_)
    · rw [if_pos hc] at ho
      refine qm_Ret.sts 3 (f' := (95, [some (qm_r 0 8 a0), some (qm_i (1 : Int32))], [], h)) rfl ?_
      exact rX8_advance_95 ho
    · rw [if_neg hc] at ho
      refine qm_Ret.sts 2 (f' := (95, [some (qm_r 0 8 a0), some (qm_i (0 : Int32))], [], h)) rfl ?_
      exact rX8_advance_95 ho
set_option maxRecDepth 20000 in
set_option maxHeartbeats 2000000 in
theorem rX8_advance_36   {a0 : Nat} {h : qm_H} {r : qm_H} (ho : qX8_advance_36  a0 h = some r) : qm_Ret mX8_advance (36, [some (qm_r 0 8 a0), none], [], h) (qm_Gv r) := by
  unfold qX8_advance_36 at ho
  refine qm_Ret.sts 4 (f' := (44, [some (qm_r 0 8 a0), none], [], (qm_seti h a0 3 (h.1 a0 4)))) rfl ?_
  refine qm_Ret.lets (F := fun h1 => (44, [some (qm_r 0 8 a0), none], [], h1)) (G := qm_Gv) ho (fun h1 ho => ?_)
  refine qm_Ret.sts 4 (f' := (50, [some (qm_r 0 8 a0), none], [qm_i (h1.1 a0 3), qm_r 0 8 a0, qm_r 0 8 a0], h1)) rfl ?_
  obtain ⟨r3, h2, hr, ho⟩ := qm_b2e ho
  refine qm_Ret.call (X := wX8_kindAt [qm_r 0 8 a0, qm_i (h1.1 a0 3)] h1) (o1 := (some (qm_i r3), h2)) (qm_mp (G := qm_Gi) hr) rfl ?_
  show qm_Ret _ (53, [some (qm_r 0 8 a0), none], [qm_i r3, qm_r 0 8 a0], h2) _
  refine qm_Ret.sts 3 (f' := (60, [some (qm_r 0 8 a0), none], [qm_i ((qm_seti h2 a0 2 r3).1 a0 2)], (qm_seti h2 a0 2 r3))) rfl ?_
  refine qm_Ret.eq (t := 73) (e := 63) rfl (fun hc => ?_) (fun hc => ?_)
  · rw [if_pos hc] at ho
    exact rX8_advance_73 ho
  · rw [if_neg hc] at ho
    refine qm_Ret.sts 6 (f' := (73, [some (qm_r 0 8 a0), none], [], (qm_seti (qm_seti h2 a0 2 r3) a0 4 (((qm_seti h2 a0 2 r3).1 a0 4) + (1 : Int32))))) rfl ?_
    exact rX8_advance_73 ho
set_option maxRecDepth 20000 in
set_option maxHeartbeats 2000000 in
theorem rX8_advance_0   : ∀ {fuel : Nat} {a0 : Nat} {h : qm_H} {r : qm_H}, qX8_advance_0  fuel a0 h = some r → qm_Ret mX8_advance (0, [some (qm_r 0 8 a0), none], [], h) (qm_Gv r) := by
  intro fuel
  induction fuel with
  | zero => intros; rename_i ho; cases ho
  | succ n ih =>
    intro a0 h r ho
    unfold qX8_advance_0 at ho
    refine qm_Ret.sts 4 (f' := (8, [some (qm_r 0 8 a0), none], [qm_i (h.1 a0 1), qm_i (h.1 a0 4)], h)) rfl ?_
    refine qm_Ret.ge (t := 36) (e := 11) rfl (fun hc => ?_) (fun hc => ?_)
    · rw [if_pos hc] at ho
      refine qm_Ret.sts 3 (f' := (16, [some (qm_r 0 8 a0), none], [qm_i (h.1 a0 4), qm_r 0 8 a0], h)) rfl ?_
      obtain ⟨r2, h1, hr, ho⟩ := qm_b2e ho
      refine qm_Ret.call (X := wX8_kindAt [qm_r 0 8 a0, qm_i (h.1 a0 4)] h) (o1 := (some (qm_i r2), h1)) (qm_mp (G := qm_Gi) hr) rfl ?_
      show qm_Ret _ (19, [some (qm_r 0 8 a0), none], [qm_i r2], h1) _
      refine qm_Ret.sts 1 (f' := (20, [some (qm_r 0 8 a0), none], [qm_i (4 : Int32), qm_i r2], h1)) rfl ?_
      refine qm_Ret.ne (t := 36) (e := 23) rfl (fun hc => ?_) (fun hc => ?_)
      · rw [if_pos hc] at ho
        refine qm_Ret.sts 6 (f' := (33, [some (qm_r 0 8 a0), none], [], (qm_seti h1 a0 4 ((h1.1 a0 4) + (1 : Int32))))) rfl ?_
        refine qm_Ret.lets (F := fun h3 => (33, [some (qm_r 0 8 a0), none], [], h3)) (G := qm_Gv) ho (fun h3 ho => ?_)
        refine qm_Ret.sts 1 (f' := (0, [some (qm_r 0 8 a0), none], [], h3)) rfl ?_
        exact ih ho
      · rw [if_neg hc] at ho
        exact rX8_advance_36 ho
    · rw [if_neg hc] at ho
      exact rX8_advance_36 ho
theorem cX8_advance_ok : ∀ q ∈ ([(39, 0, 1, wX8_takeNumber), (29, 0, 2, wX8_kindAt)] : List (Nat × Nat × Nat × qm_C)), qm_CallOK RX8 1 22 q.2.1 q.1 q.2.2.1 q.2.2.2 := List.forall_mem_cons.mpr ⟨Or.inl ⟨yX8_takeNumber, cX8_takeNumber, 2, none, 0, 0, _, sX8_takeNumber, ⟨by decide, by decide⟩, ⟨jX8_takeNumber, kRX8_39, uRX8⟩, ⟨by decide, by decide, rfl⟩, Or.inl ⟨rfl, rfl, iX8_takeNumber, recvX8_takeNumber⟩⟩, List.forall_mem_cons.mpr ⟨Or.inl ⟨yX8_kindAt, cX8_kindAt, 3, (some .int), 0, 0, _, sX8_kindAt, ⟨by decide, by decide⟩, ⟨jX8_kindAt, kRX8_29, uRX8⟩, ⟨by decide, by decide, rfl⟩, Or.inl ⟨rfl, rfl, iX8_kindAt, recvX8_kindAt⟩⟩, fun _ h => absurd h List.not_mem_nil⟩⟩
theorem sX8_advance : qm_Snd yX8_advance cX8_advance 2 none 1 22 wX8_advance := qm_met (fld := fun k => qm_lk k pfRX8) (con := fun k => qm_lk k pcRX8) (call := fun k => qm_lk k [(39, 0, 1, wX8_takeNumber), (29, 0, 2, wX8_kindAt)]) (tab := qm_tab aX8_advance) (plainFor_of_name (by decide)) (qm_fld_ok pfRX8_ok) (qm_con_ok pcRX8_ok) (fun idx kd n f hc => cX8_advance_ok (idx, kd, n, f) (qm_lk_mem hc)) (qm_tab_ok aX8_advance_ok) (fun vs h o hw => by
  unfold wX8_advance at hw
  split at hw
  · obtain ⟨r, hr, rfl⟩ := Option.map_eq_some_iff.mp hw
    exact ⟨Nat.le_of_ble_eq_true rfl, rX8_advance_0 (hr)⟩
  · cases hw)
theorem recvX8_advance : ∀ vs h o, wX8_advance vs h = some o → ∃ ci a rest, vs = qm_r 0 ci a :: rest ∧ qm_R ci = yX8_advance.cls := by
  intro vs h o hw
  unfold wX8_advance at hw
  split at hw
  · exact ⟨_, _, _, rfl, rfl⟩
  · cases hw
-- RX8 begin(I)V
theorem jX8_begin : Jvm.Cond.code yX8_begin cX8_begin 2 none ∈ qm_all := List.mem_filter.mpr ⟨by decide +kernel, rfl⟩
theorem iX8_begin : Jvm.Cond.instanceMethod yX8_begin ∈ qm_all ∧ Jvm.Cond.selects yX8_begin.cls yX8_begin yX8_begin ∈ qm_all := ⟨List.mem_filter.mpr ⟨by decide +kernel, rfl⟩, List.mem_filter.mpr ⟨by decide +kernel, rfl⟩⟩
def wX8_begin : qm_C := fun vs h => match vs with
  | [.inr (.inr (some (0, 8, p0))), .inl p1] => (qX8_begin p0 p1 h).map qm_Gv
  | _ => none
def aX8_begin : List (Option (Instr × Nat)) := [some (.aload_n 0, 1), some (.iload_n 1, 1), some (.aload_n 0, 1), some (.getfield 7, 3), none, none, some (.arraylength, 1), some (.invokestatic 13, 3), none, none, some (.putfield 19, 3), none, none, some (.aload_n 0, 1), some (.iconst 0, 1), some (.putfield 23, 3), none, none, some (.aload_n 0, 1), some (.invokevirtual 26, 3), none, none, some (.return_, 1)]
theorem aX8_begin_ok : qm_tabok cX8_begin aX8_begin = true := by decide +kernel
def mX8_begin : qm_M := (none, (fun k => qm_lk k pfRX8), (fun k => qm_lk k pcRX8), (fun k => qm_lk k [(13, 2, 2, wJ9_min_7cf53), (26, 0, 1, wX8_advance)]), qm_tab aX8_begin)
set_option maxRecDepth 20000 in
set_option maxHeartbeats 2000000 in
theorem rX8_begin_0   {a0 : Nat} {x1 : Int32} {h : qm_H} {r : qm_H} (ho : qX8_begin  a0 x1 h = some r) : qm_Ret mX8_begin (0, [some (qm_r 0 8 a0), some (qm_i x1)], [], h) (qm_Gv r) := by
  unfold qX8_begin at ho
  refine qm_Ret.sts 5 (f' := (7, [some (qm_r 0 8 a0), some (qm_i x1)], [qm_i (Int32.ofNat 600), qm_i x1, qm_r 0 8 a0], h)) rfl ?_
  obtain ⟨r2, h1, hr, ho⟩ := qm_b2e ho
  refine qm_Ret.call (X := wJ9_min_7cf53 [qm_i x1, qm_i (Int32.ofNat 600)] h) (o1 := (some (qm_i r2), h1)) (qm_mp (G := qm_Gi) hr) rfl ?_
  show qm_Ret _ (10, [some (qm_r 0 8 a0), some (qm_i x1)], [qm_i r2, qm_r 0 8 a0], h1) _
  refine qm_Ret.sts 4 (f' := (18, [some (qm_r 0 8 a0), some (qm_i x1)], [], (qm_seti (qm_seti h1 a0 1 r2) a0 4 (0 : Int32)))) rfl ?_
  refine qm_Ret.lets (F := fun h3 => (18, [some (qm_r 0 8 a0), some (qm_i x1)], [], h3)) (G := qm_Gv) ho (fun h3 ho => ?_)
  refine qm_Ret.sts 1 (f' := (19, [some (qm_r 0 8 a0), some (qm_i x1)], [qm_r 0 8 a0], h3)) rfl ?_
  obtain ⟨h4, hr, ho⟩ := qm_bd ho
  refine qm_Ret.call (X := wX8_advance [qm_r 0 8 a0] h3) (o1 := (none, h4)) (qm_mp (G := qm_Gv) hr) rfl ?_
  show qm_Ret _ (22, [some (qm_r 0 8 a0), some (qm_i x1)], [], h4) _
  cases ho
  exact qm_Ret.ret 1 rfl
theorem cX8_begin_ok : ∀ q ∈ ([(13, 2, 2, wJ9_min_7cf53), (26, 0, 1, wX8_advance)] : List (Nat × Nat × Nat × qm_C)), qm_CallOK RX8 2 43 q.2.1 q.1 q.2.2.1 q.2.2.2 := List.forall_mem_cons.mpr ⟨Or.inl ⟨yJ9_min_7cf53, cJ9_min_7cf53, 2, (some .int), 0, 0, _, sJ9_min_7cf53, ⟨by decide, by decide⟩, ⟨jJ9_min_7cf53, kRX8_13, uRJ9⟩, ⟨by decide, by decide, rfl⟩, Or.inr (Or.inl ⟨rfl, rfl, iJ9_min_7cf53⟩)⟩, List.forall_mem_cons.mpr ⟨Or.inl ⟨yX8_advance, cX8_advance, 2, none, 1, 22, _, sX8_advance, ⟨by decide, by decide⟩, ⟨jX8_advance, kRX8_26, uRX8⟩, ⟨by decide, by decide, rfl⟩, Or.inl ⟨rfl, rfl, iX8_advance, recvX8_advance⟩⟩, fun _ h => absurd h List.not_mem_nil⟩⟩
theorem sX8_begin : qm_Snd yX8_begin cX8_begin 2 none 2 43 wX8_begin := qm_met (fld := fun k => qm_lk k pfRX8) (con := fun k => qm_lk k pcRX8) (call := fun k => qm_lk k [(13, 2, 2, wJ9_min_7cf53), (26, 0, 1, wX8_advance)]) (tab := qm_tab aX8_begin) (plainFor_of_name (by decide)) (qm_fld_ok pfRX8_ok) (qm_con_ok pcRX8_ok) (fun idx kd n f hc => cX8_begin_ok (idx, kd, n, f) (qm_lk_mem hc)) (qm_tab_ok aX8_begin_ok) (fun vs h o hw => by
  unfold wX8_begin at hw
  split at hw
  · obtain ⟨r, hr, rfl⟩ := Option.map_eq_some_iff.mp hw
    exact ⟨Nat.le_of_ble_eq_true rfl, rX8_begin_0 (hr)⟩
  · cases hw)
theorem recvX8_begin : ∀ vs h o, wX8_begin vs h = some o → ∃ ci a rest, vs = qm_r 0 ci a :: rest ∧ qm_R ci = yX8_begin.cls := by
  intro vs h o hw
  unfold wX8_begin at hw
  split at hw
  · exact ⟨_, _, _, rfl, rfl⟩
  · cases hw
-- RX3 goesOn()Z
theorem jX3_goesOn : Jvm.Cond.code yX3_goesOn cX3_goesOn 1 (some .boolean) ∈ qm_all := List.mem_filter.mpr ⟨by decide +kernel, rfl⟩
theorem iX3_goesOn : Jvm.Cond.instanceMethod yX3_goesOn ∈ qm_all ∧ Jvm.Cond.selects yX3_goesOn.cls yX3_goesOn yX3_goesOn ∈ qm_all := ⟨List.mem_filter.mpr ⟨by decide +kernel, rfl⟩, List.mem_filter.mpr ⟨by decide +kernel, rfl⟩⟩
def wX3_goesOn : qm_C := fun vs h => match vs with
  | [.inr (.inr (some (0, 3, p0)))] => (qX3_goesOn p0 h).map qm_Gi
  | _ => none
def aX3_goesOn : List (Option (Instr × Nat)) := [some (.aload_n 0, 1), some (.getfield 48, 3), none, none, some (.iconst 1, 1), some (.if_icmp .eq 7, 3), none, none, some (.iconst 1, 1), some (.goto 4, 3), none, none, some (.iconst 0, 1), some (.ireturn, 1)]
theorem aX3_goesOn_ok : qm_tabok cX3_goesOn aX3_goesOn = true := by decide +kernel
def mX3_goesOn : qm_M := ((some .boolean), (fun k => qm_lk k pfRX3), (fun k => qm_lk k pcRX3), (fun k => qm_lk k []), qm_tab aX3_goesOn)
set_option maxRecDepth 20000 in
set_option maxHeartbeats 2000000 in
theorem rX3_goesOn_0   {a0 : Nat} {h : qm_H} {r : Int32 × qm_H} (ho : qX3_goesOn  a0 h = some r) : qm_Ret mX3_goesOn (0, [some (qm_r 0 3 a0)], [], h) (qm_Gi r) := by
  unfold qX3_goesOn at ho
  refine qm_Ret.sts 3 (f' := (5, [some (qm_r 0 3 a0)], [qm_i (1 : Int32), qm_i (h.1 a0 5)], h)) rfl ?_
  refine qm_Ret.eq (t := 12) (e := 8) rfl (fun hc => ?_) (fun hc => ?_)
  · rw [if_pos hc] at ho
    cases ho
    exact qm_Ret.ret 2 rfl
  · rw [if_neg hc] at ho
    cases ho
    exact qm_Ret.ret 3 rfl
theorem cX3_goesOn_ok : ∀ q ∈ ([] : List (Nat × Nat × Nat × qm_C)), qm_CallOK RX3 0 0 q.2.1 q.1 q.2.2.1 q.2.2.2 := fun _ h => absurd h List.not_mem_nil
theorem sX3_goesOn : qm_Snd yX3_goesOn cX3_goesOn 1 (some .boolean) 0 0 wX3_goesOn := qm_met (fld := fun k => qm_lk k pfRX3) (con := fun k => qm_lk k pcRX3) (call := fun k => qm_lk k []) (tab := qm_tab aX3_goesOn) (plainFor_of_name (by decide)) (qm_fld_ok pfRX3_ok) (qm_con_ok pcRX3_ok) (fun idx kd n f hc => cX3_goesOn_ok (idx, kd, n, f) (qm_lk_mem hc)) (qm_tab_ok aX3_goesOn_ok) (fun vs h o hw => by
  unfold wX3_goesOn at hw
  split at hw
  · obtain ⟨r, hr, rfl⟩ := Option.map_eq_some_iff.mp hw
    exact ⟨Nat.le_of_ble_eq_true rfl, rX3_goesOn_0 (hr)⟩
  · cases hw)
theorem recvX3_goesOn : ∀ vs h o, wX3_goesOn vs h = some o → ∃ ci a rest, vs = qm_r 0 ci a :: rest ∧ qm_R ci = yX3_goesOn.cls := by
  intro vs h o hw
  unfold wX3_goesOn at hw
  split at hw
  · exact ⟨_, _, _, rfl, rfl⟩
  · cases hw
-- RX3 refuse()V
theorem jX3_refuse : Jvm.Cond.code yX3_refuse cX3_refuse 1 none ∈ qm_all := List.mem_filter.mpr ⟨by decide +kernel, rfl⟩
theorem iX3_refuse : Jvm.Cond.instanceMethod yX3_refuse ∈ qm_all ∧ Jvm.Cond.selects yX3_refuse.cls yX3_refuse yX3_refuse ∈ qm_all := ⟨List.mem_filter.mpr ⟨by decide +kernel, rfl⟩, List.mem_filter.mpr ⟨by decide +kernel, rfl⟩⟩
def wX3_refuse : qm_C := fun vs h => match vs with
  | [.inr (.inr (some (0, 3, p0)))] => (qX3_refuse p0 h).map qm_Gv
  | _ => none
def aX3_refuse : List (Option (Instr × Nat)) := [some (.aload_n 0, 1), some (.getfield 48, 3), none, none, some (.iconst 1, 1), some (.if_icmp .eq 19, 3), none, none, some (.aload_n 0, 1), some (.iconst 1, 1), some (.putfield 48, 3), none, none, some (.aload_n 0, 1), some (.aload_n 0, 1), some (.getfield 44, 3), none, none, some (.getfield 151, 3), none, none, some (.putfield 52, 3), none, none, some (.return_, 1)]
theorem aX3_refuse_ok : qm_tabok cX3_refuse aX3_refuse = true := by decide +kernel
def mX3_refuse : qm_M := (none, (fun k => qm_lk k pfRX3), (fun k => qm_lk k pcRX3), (fun k => qm_lk k []), qm_tab aX3_refuse)
set_option maxRecDepth 20000 in
set_option maxHeartbeats 2000000 in
theorem rX3_refuse_0   {a0 : Nat} {h : qm_H} {r : qm_H} (ho : qX3_refuse  a0 h = some r) : qm_Ret mX3_refuse (0, [some (qm_r 0 3 a0)], [], h) (qm_Gv r) := by
  unfold qX3_refuse at ho
  refine qm_Ret.sts 3 (f' := (5, [some (qm_r 0 3 a0)], [qm_i (1 : Int32), qm_i (h.1 a0 5)], h)) rfl ?_
  refine qm_Ret.eq (t := 24) (e := 8) rfl (fun hc => ?_) (fun hc => ?_)
  · rw [if_pos hc] at ho
    cases ho
    exact qm_Ret.ret 1 rfl
  · rw [if_neg hc] at ho
    refine qm_Ret.sts 3 (f' := (13, [some (qm_r 0 3 a0)], [], (qm_seti h a0 5 (1 : Int32)))) rfl ?_
    refine qm_Ret.lets (F := fun h1 => (13, [some (qm_r 0 3 a0)], [], h1)) (G := qm_Gv) ho (fun h1 ho => ?_)
    refine qm_Ret.sts 5 (f' := (24, [some (qm_r 0 3 a0)], [], (qm_seti h1 a0 6 (h1.1 (a0 + 12) 3)))) rfl ?_
    refine qm_Ret.lets (F := fun h2 => (24, [some (qm_r 0 3 a0)], [], h2)) (G := qm_Gv) ho (fun h2 ho => ?_)
    cases ho
    exact qm_Ret.ret 1 rfl
theorem cX3_refuse_ok : ∀ q ∈ ([] : List (Nat × Nat × Nat × qm_C)), qm_CallOK RX3 0 0 q.2.1 q.1 q.2.2.1 q.2.2.2 := fun _ h => absurd h List.not_mem_nil
theorem sX3_refuse : qm_Snd yX3_refuse cX3_refuse 1 none 0 0 wX3_refuse := qm_met (fld := fun k => qm_lk k pfRX3) (con := fun k => qm_lk k pcRX3) (call := fun k => qm_lk k []) (tab := qm_tab aX3_refuse) (plainFor_of_name (by decide)) (qm_fld_ok pfRX3_ok) (qm_con_ok pcRX3_ok) (fun idx kd n f hc => cX3_refuse_ok (idx, kd, n, f) (qm_lk_mem hc)) (qm_tab_ok aX3_refuse_ok) (fun vs h o hw => by
  unfold wX3_refuse at hw
  split at hw
  · obtain ⟨r, hr, rfl⟩ := Option.map_eq_some_iff.mp hw
    exact ⟨Nat.le_of_ble_eq_true rfl, rX3_refuse_0 (hr)⟩
  · cases hw)
theorem recvX3_refuse : ∀ vs h o, wX3_refuse vs h = some o → ∃ ci a rest, vs = qm_r 0 ci a :: rest ∧ qm_R ci = yX3_refuse.cls := by
  intro vs h o hw
  unfold wX3_refuse at hw
  split at hw
  · exact ⟨_, _, _, rfl, rfl⟩
  · cases hw
-- RX3 note(II)V
theorem jX3_note : Jvm.Cond.code yX3_note cX3_note 3 none ∈ qm_all := List.mem_filter.mpr ⟨by decide +kernel, rfl⟩
theorem iX3_note : Jvm.Cond.instanceMethod yX3_note ∈ qm_all ∧ Jvm.Cond.selects yX3_note.cls yX3_note yX3_note ∈ qm_all := ⟨List.mem_filter.mpr ⟨by decide +kernel, rfl⟩, List.mem_filter.mpr ⟨by decide +kernel, rfl⟩⟩
def wX3_note : qm_C := fun vs h => match vs with
  | [.inr (.inr (some (0, 3, p0))), .inl p1, .inl p2] => (qX3_note p0 p1 p2 h).map qm_Gv
  | _ => none
def aX3_note : List (Option (Instr × Nat)) := [some (.aload_n 0, 1), some (.getfield 48, 3), none, none, some (.ifCond .ne 13, 3), none, none, some (.aload_n 0, 1), some (.iload_n 1, 1), some (.putfield 48, 3), none, none, some (.aload_n 0, 1), some (.iload_n 2, 1), some (.putfield 52, 3), none, none, some (.return_, 1)]
theorem aX3_note_ok : qm_tabok cX3_note aX3_note = true := by decide +kernel
def mX3_note : qm_M := (none, (fun k => qm_lk k pfRX3), (fun k => qm_lk k pcRX3), (fun k => qm_lk k []), qm_tab aX3_note)
set_option maxRecDepth 20000 in
set_option maxHeartbeats 2000000 in
theorem rX3_note_0   {a0 : Nat} {x1 : Int32} {x2 : Int32} {h : qm_H} {r : qm_H} (ho : qX3_note  a0 x1 x2 h = some r) : qm_Ret mX3_note (0, [some (qm_r 0 3 a0), some (qm_i x1), some (qm_i x2)], [], h) (qm_Gv r) := by
  unfold qX3_note at ho
  refine qm_Ret.sts 2 (f' := (4, [some (qm_r 0 3 a0), some (qm_i x1), some (qm_i x2)], [qm_i (h.1 a0 5)], h)) rfl ?_
  refine qm_Ret.ne (t := 17) (e := 7) rfl (fun hc => ?_) (fun hc => ?_)
  · rw [if_pos hc] at ho
    refine qm_Ret.sts 6 (f' := (17, [some (qm_r 0 3 a0), some (qm_i x1), some (qm_i x2)], [], (qm_seti (qm_seti h a0 5 x1) a0 6 x2))) rfl ?_
    refine qm_Ret.lets (F := fun h1 => (17, [some (qm_r 0 3 a0), some (qm_i x1), some (qm_i x2)], [], h1)) (G := qm_Gv) ho (fun h1 ho => ?_)
    cases ho
    exact qm_Ret.ret 1 rfl
  · rw [if_neg hc] at ho
    cases ho
    exact qm_Ret.ret 1 rfl
theorem cX3_note_ok : ∀ q ∈ ([] : List (Nat × Nat × Nat × qm_C)), qm_CallOK RX3 0 0 q.2.1 q.1 q.2.2.1 q.2.2.2 := fun _ h => absurd h List.not_mem_nil
theorem sX3_note : qm_Snd yX3_note cX3_note 3 none 0 0 wX3_note := qm_met (fld := fun k => qm_lk k pfRX3) (con := fun k => qm_lk k pcRX3) (call := fun k => qm_lk k []) (tab := qm_tab aX3_note) (plainFor_of_name (by decide)) (qm_fld_ok pfRX3_ok) (qm_con_ok pcRX3_ok) (fun idx kd n f hc => cX3_note_ok (idx, kd, n, f) (qm_lk_mem hc)) (qm_tab_ok aX3_note_ok) (fun vs h o hw => by
  unfold wX3_note at hw
  split at hw
  · obtain ⟨r, hr, rfl⟩ := Option.map_eq_some_iff.mp hw
    exact ⟨Nat.le_of_ble_eq_true rfl, rX3_note_0 (hr)⟩
  · cases hw)
theorem recvX3_note : ∀ vs h o, wX3_note vs h = some o → ∃ ci a rest, vs = qm_r 0 ci a :: rest ∧ qm_R ci = yX3_note.cls := by
  intro vs h o hw
  unfold wX3_note at hw
  split at hw
  · exact ⟨_, _, _, rfl, rfl⟩
  · cases hw
-- RX3 readNumber(II)I
theorem jX3_readNumber : Jvm.Cond.code yX3_readNumber cX3_readNumber 4 (some .int) ∈ qm_all := List.mem_filter.mpr ⟨by decide +kernel, rfl⟩
theorem iX3_readNumber : Jvm.Cond.instanceMethod yX3_readNumber ∈ qm_all ∧ Jvm.Cond.selects yX3_readNumber.cls yX3_readNumber yX3_readNumber ∈ qm_all := ⟨List.mem_filter.mpr ⟨by decide +kernel, rfl⟩, List.mem_filter.mpr ⟨by decide +kernel, rfl⟩⟩
def wX3_readNumber : qm_C := fun vs h => match vs with
  | [.inr (.inr (some (0, 3, p0))), .inl p1, .inl p2] => (qX3_readNumber p0 p1 p2 h).map qm_Gi
  | _ => none
def aX3_readNumber : List (Option (Instr × Nat)) := [some (.aload_n 0, 1), some (.invokevirtual 72, 3), none, none, some (.ifCond .eq 14, 3), none, none, some (.aload_n 0, 1), some (.getfield 44, 3), none, none, some (.getfield 76, 3), none, none, some (.iconst 2, 1), some (.if_icmp .eq 9, 3), none, none, some (.aload_n 0, 1), some (.invokevirtual 144, 3), none, none, some (.iload_n 1, 1), some (.ireturn, 1), some (.aload_n 0, 1), some (.getfield 44, 3), none, none, some (.getfield 217, 3), none, none, some (.istore_n 3, 1), some (.iload_n 3, 1), some (.iload_n 1, 1), some (.if_icmp .lt 8, 3), none, none, some (.iload_n 3, 1), some (.iload_n 2, 1), some (.if_icmp .le 17, 3), none, none, some (.aload_n 0, 1), some (.iconst 2, 1), some (.aload_n 0, 1), some (.getfield 44, 3), none, none, some (.getfield 151, 3), none, none, some (.invokevirtual 154, 3), none, none, some (.iload_n 1, 1), some (.istore_n 3, 1), some (.aload_n 0, 1), some (.getfield 44, 3), none, none, some (.invokevirtual 214, 3), none, none, some (.iload_n 3, 1), some (.ireturn, 1)]
theorem aX3_readNumber_ok : qm_tabok cX3_readNumber aX3_readNumber = true := by decide +kernel
def mX3_readNumber : qm_M := ((some .int), (fun k => qm_lk k pfRX3), (fun k => qm_lk k pcRX3), (fun k => qm_lk k [(144, 0, 1, wX3_refuse), (214, 0, 1, wX8_advance), (154, 0, 3, wX3_note), (72, 0, 1, wX3_goesOn)]), qm_tab aX3_readNumber)
set_option maxRecDepth 20000 in
set_option maxHeartbeats 2000000 in
theorem rX3_readNumber_18   {a0 : Nat} {x1 : Int32} {xd2 : Int32} {h : qm_H} {r : Int32 × qm_H} (ho : qX3_readNumber_18  a0 x1 h = some r) : qm_Ret mX3_readNumber (18, [some (qm_r 0 3 a0), some (qm_i x1), some (qm_i xd2), none], [], h) (qm_Gi r) := by
  unfold qX3_readNumber_18 at ho
  refine qm_Ret.sts 1 (f' := (19, [some (qm_r 0 3 a0), some (qm_i x1), some (qm_i xd2), none], [qm_r 0 3 a0], h)) rfl ?_
  obtain ⟨h1, hr, ho⟩ := qm_bd ho
  refine qm_Ret.call (X := wX3_refuse [qm_r 0 3 a0] h) (o1 := (none, h1)) (qm_mp (G := qm_Gv) hr) rfl ?_
  show qm_Ret _ (22, [some (qm_r 0 3 a0), some (qm_i x1), some (qm_i xd2), none], [], h1) _
  cases ho
  exact qm_Ret.ret 2 rfl
set_option maxRecDepth 20000 in
set_option maxHeartbeats 2000000 in
theorem rX3_readNumber_56   {a0 : Nat} {x3 : Int32} {xd1 : Int32} {xd2 : Int32} {h : qm_H} {r : Int32 × qm_H} (ho : qX3_readNumber_56  a0 x3 h = some r) : qm_Ret mX3_readNumber (56, [some (qm_r 0 3 a0), some (qm_i xd1), some (qm_i xd2), some (qm_i x3)], [], h) (qm_Gi r) := by
  unfold qX3_readNumber_56 at ho
  refine qm_Ret.sts 2 (f' := (60, [some (qm_r 0 3 a0), some (qm_i xd1), some (qm_i xd2), some (qm_i x3)], [qm_r 0 8 (a0 + 12)], h)) rfl ?_
  obtain ⟨h1, hr, ho⟩ := qm_bd ho
  refine qm_Ret.call (X := wX8_advance [qm_r 0 8 (a0 + 12)] h) (o1 := (none, h1)) (qm_mp (G := qm_Gv) hr) rfl ?_
  show qm_Ret _ (63, [some (qm_r 0 3 a0), some (qm_i xd1), some (qm_i xd2), some (qm_i x3)], [], h1) _
  cases ho
  exact qm_Ret.ret 2 rfl
set_option maxRecDepth 20000 in
set_option maxHeartbeats 2000000 in
theorem rX3_readNumber_42   {a0 : Nat} {x1 : Int32} {xd2 : Int32} {xd3 : Int32} {h : qm_H} {r : Int32 × qm_H} (ho : qX3_readNumber_42  a0 x1 h = some r) : qm_Ret mX3_readNumber (42, [some (qm_r 0 3 a0), some (qm_i x1), some (qm_i xd2), some (qm_i xd3)], [], h) (qm_Gi r) := by
  unfold qX3_readNumber_42 at ho
  refine qm_Ret.sts 5 (f' := (51, [some (qm_r 0 3 a0), some (qm_i x1), some (qm_i xd2), some (qm_i xd3)], [qm_i (h.1 (a0 + 12) 3), qm_i (2 : Int32), qm_r 0 3 a0], h)) rfl ?_
  obtain ⟨h1, hr, ho⟩ := qm_bd ho
  refine qm_Ret.call (X := wX3_note [qm_r 0 3 a0, qm_i (2 : Int32), qm_i (h.1 (a0 + 12) 3)] h) (o1 := (none, h1)) (qm_mp (G := qm_Gv) hr) rfl ?_
  show qm_Ret _ (54, [some (qm_r 0 3 a0), some (qm_i x1), some (qm_i xd2), some (qm_i xd3)], [], h1) _
  refine qm_Ret.sts 2 (f' := (56, [some (qm_r 0 3 a0), some (qm_i x1), some (qm_i xd2), some (qm_i x1)], [], h1)) rfl ?_
  exact rX3_readNumber_56 ho
set_option maxRecDepth 20000 in
set_option maxHeartbeats 2000000 in
theorem rX3_readNumber_0   {a0 : Nat} {x1 : Int32} {x2 : Int32} {h : qm_H} {r : Int32 × qm_H} (ho : qX3_readNumber  a0 x1 x2 h = some r) : qm_Ret mX3_readNumber (0, [some (qm_r 0 3 a0), some (qm_i x1), some (qm_i x2), none], [], h) (qm_Gi r) := by
  unfold qX3_readNumber at ho
  refine qm_Ret.sts 1 (f' := (1, [some (qm_r 0 3 a0), some (qm_i x1), some (qm_i x2), none], [qm_r 0 3 a0], h)) rfl ?_
  obtain ⟨r2, h1, hr, ho⟩ := qm_b2e ho
  refine qm_Ret.call (X := wX3_goesOn [qm_r 0 3 a0] h) (o1 := (some (qm_i r2), h1)) (qm_mp (G := qm_Gi) hr) rfl ?_
  show qm_Ret _ (4, [some (qm_r 0 3 a0), some (qm_i x1), some (qm_i x2), none], [qm_i r2], h1) _
  refine qm_Ret.eq (t := 18) (e := 7) rfl (fun hc => ?_) (fun hc => ?_)
  · rw [if_pos hc] at ho
    exact rX3_readNumber_18 ho
  · rw [if_neg hc] at ho
    refine qm_Ret.sts 4 (f' := (15, [some (qm_r 0 3 a0), some (qm_i x1), some (qm_i x2), none], [qm_i (2 : Int32), qm_i (h1.1 (a0 + 12) 2)], h1)) rfl ?_
    refine qm_Ret.eq (t := 24) (e := 18) rfl (fun hc => ?_) (fun hc => ?_)
    · rw [if_pos hc] at ho
      refine qm_Ret.sts 3 (f' := (31, [some (qm_r 0 3 a0), some (qm_i x1), some (qm_i x2), none], [qm_i (h1.1 (a0 + 12) 5)], h1)) rfl ?_
      refine qm_Ret.lets (F := fun v3 => (31, [some (qm_r 0 3 a0), some (qm_i x1), some (qm_i x2), none], [qm_i v3], h1)) (G := qm_Gi) ho (fun v3 ho => ?_)
      refine qm_Ret.sts 3 (f' := (34, [some (qm_r 0 3 a0), some (qm_i x1), some (qm_i x2), some (qm_i v3)], [qm_i x1, qm_i v3], h1)) rfl ?_
      refine qm_Ret.lt (t := 42) (e := 37) rfl (fun hc => ?_) (fun hc => ?_)
      · rw [if_pos hc] at ho
        exact rX3_readNumber_42 ho
      · rw [if_neg hc] at ho
        refine qm_Ret.sts 2 (f' := (39, [some (qm_r 0 3 a0), some (qm_i x1), some (qm_i x2), some (qm_i v3)], [qm_i x2, qm_i v3], h1)) rfl ?_
        refine qm_Ret.le (t := 56) (e := 42) rfl (fun hc => ?_) (fun hc => ?_)
        · rw [if_pos hc] at ho
          exact rX3_readNumber_42 ho
        · rw [if_neg hc] at ho
          exact rX3_readNumber_56 ho
    · rw [if_neg hc] at ho
      exact rX3_readNumber_18 ho
theorem cX3_readNumber_ok : ∀ q ∈ ([(144, 0, 1, wX3_refuse), (214, 0, 1, wX8_advance), (154, 0, 3, wX3_note), (72, 0, 1, wX3_goesOn)] : List (Nat × Nat × Nat × qm_C)), qm_CallOK RX3 2 43 q.2.1 q.1 q.2.2.1 q.2.2.2 := List.forall_mem_cons.mpr ⟨Or.inl ⟨yX3_refuse, cX3_refuse, 1, none, 0, 0, _, sX3_refuse, ⟨by decide, by decide⟩, ⟨jX3_refuse, kRX3_144, uRX3⟩, ⟨by decide, by decide, rfl⟩, Or.inl ⟨rfl, rfl, iX3_refuse, recvX3_refuse⟩⟩, List.forall_mem_cons.mpr ⟨Or.inl ⟨yX8_advance, cX8_advance, 2, none, 1, 22, _, sX8_advance, ⟨by decide, by decide⟩, ⟨jX8_advance, kRX3_214, uRX8⟩, ⟨by decide, by decide, rfl⟩, Or.inl ⟨rfl, rfl, iX8_advance, recvX8_advance⟩⟩, List.forall_mem_cons.mpr ⟨Or.inl ⟨yX3_note, cX3_note, 3, none, 0, 0, _, sX3_note, ⟨by decide, by decide⟩, ⟨jX3_note, kRX3_154, uRX3⟩, ⟨by decide, by decide, rfl⟩, Or.inl ⟨rfl, rfl, iX3_note, recvX3_note⟩⟩, List.forall_mem_cons.mpr ⟨Or.inl ⟨yX3_goesOn, cX3_goesOn, 1, (some .boolean), 0, 0, _, sX3_goesOn, ⟨by decide, by decide⟩, ⟨jX3_goesOn, kRX3_72, uRX3⟩, ⟨by decide, by decide, rfl⟩, Or.inl ⟨rfl, rfl, iX3_goesOn, recvX3_goesOn⟩⟩, fun _ h => absurd h List.not_mem_nil⟩⟩⟩⟩
theorem sX3_readNumber : qm_Snd yX3_readNumber cX3_readNumber 4 (some .int) 2 43 wX3_readNumber := qm_met (fld := fun k => qm_lk k pfRX3) (con := fun k => qm_lk k pcRX3) (call := fun k => qm_lk k [(144, 0, 1, wX3_refuse), (214, 0, 1, wX8_advance), (154, 0, 3, wX3_note), (72, 0, 1, wX3_goesOn)]) (tab := qm_tab aX3_readNumber) (plainFor_of_name (by decide)) (qm_fld_ok pfRX3_ok) (qm_con_ok pcRX3_ok) (fun idx kd n f hc => cX3_readNumber_ok (idx, kd, n, f) (qm_lk_mem hc)) (qm_tab_ok aX3_readNumber_ok) (fun vs h o hw => by
  unfold wX3_readNumber at hw
  split at hw
  · obtain ⟨r, hr, rfl⟩ := Option.map_eq_some_iff.mp hw
    exact ⟨Nat.le_of_ble_eq_true rfl, rX3_readNumber_0 (hr)⟩
  · cases hw)
theorem recvX3_readNumber : ∀ vs h o, wX3_readNumber vs h = some o → ∃ ci a rest, vs = qm_r 0 ci a :: rest ∧ qm_R ci = yX3_readNumber.cls := by
  intro vs h o hw
  unfold wX3_readNumber at hw
  split at hw
  · exact ⟨_, _, _, rfl, rfl⟩
  · cases hw
-- RX3 readColumn()I
theorem jX3_readColumn : Jvm.Cond.code yX3_readColumn cX3_readColumn 2 (some .int) ∈ qm_all := List.mem_filter.mpr ⟨by decide +kernel, rfl⟩
theorem iX3_readColumn : Jvm.Cond.instanceMethod yX3_readColumn ∈ qm_all ∧ Jvm.Cond.selects yX3_readColumn.cls yX3_readColumn yX3_readColumn ∈ qm_all := ⟨List.mem_filter.mpr ⟨by decide +kernel, rfl⟩, List.mem_filter.mpr ⟨by decide +kernel, rfl⟩⟩
def wX3_readColumn : qm_C := fun vs h => match vs with
  | [.inr (.inr (some (0, 3, p0)))] => (qX3_readColumn p0 h).map qm_Gi
  | _ => none
def aX3_readColumn : List (Option (Instr × Nat)) := [some (.aload_n 0, 1), some (.iconst 0, 1), some (.bipush 7, 2), none, some (.invokevirtual 112, 3), none, none, some (.istore_n 1, 1), some (.aload_n 0, 1), some (.aload_n 0, 1), some (.getfield 55, 3), none, none, some (.iload_n 1, 1), some (.invokestatic 206, 3), none, none, some (.putfield 55, 3), none, none, some (.iload_n 1, 1), some (.ireturn, 1)]
theorem aX3_readColumn_ok : qm_tabok cX3_readColumn aX3_readColumn = true := by decide +kernel
def mX3_readColumn : qm_M := ((some .int), (fun k => qm_lk k pfRX3), (fun k => qm_lk k pcRX3), (fun k => qm_lk k [(112, 0, 3, wX3_readNumber), (206, 2, 2, wJ9_max_7cf53)]), qm_tab aX3_readColumn)
set_option maxRecDepth 20000 in
set_option maxHeartbeats 2000000 in
theorem rX3_readColumn_0   {a0 : Nat} {h : qm_H} {r : Int32 × qm_H} (ho : qX3_readColumn  a0 h = some r) : qm_Ret mX3_readColumn (0, [some (qm_r 0 3 a0), none], [], h) (qm_Gi r) := by
  unfold qX3_readColumn at ho
  refine qm_Ret.sts 3 (f' := (4, [some (qm_r 0 3 a0), none], [qm_i (7 : Int32), qm_i (0 : Int32), qm_r 0 3 a0], h)) rfl ?_
  obtain ⟨r2, h1, hr, ho⟩ := qm_b2e ho
  refine qm_Ret.call (X := wX3_readNumber [qm_r 0 3 a0, qm_i (0 : Int32), qm_i (7 : Int32)] h) (o1 := (some (qm_i r2), h1)) (qm_mp (G := qm_Gi) hr) rfl ?_
  show qm_Ret _ (7, [some (qm_r 0 3 a0), none], [qm_i r2], h1) _
  refine qm_Ret.sts 5 (f' := (14, [some (qm_r 0 3 a0), some (qm_i r2)], [qm_i r2, qm_i (h1.1 a0 7), qm_r 0 3 a0], h1)) rfl ?_
  obtain ⟨r4, h3, hr, ho⟩ := qm_b2e ho
  refine qm_Ret.call (X := wJ9_max_7cf53 [qm_i (h1.1 a0 7), qm_i r2] h1) (o1 := (some (qm_i r4), h3)) (qm_mp (G := qm_Gi) hr) rfl ?_
  show qm_Ret _ (17, [some (qm_r 0 3 a0), some (qm_i r2)], [qm_i r4, qm_r 0 3 a0], h3) _
  cases ho
  exact qm_Ret.ret 3 rfl
theorem cX3_readColumn_ok : ∀ q ∈ ([(112, 0, 3, wX3_readNumber), (206, 2, 2, wJ9_max_7cf53)] : List (Nat × Nat × Nat × qm_C)), qm_CallOK RX3 3 66 q.2.1 q.1 q.2.2.1 q.2.2.2 := List.forall_mem_cons.mpr ⟨Or.inl ⟨yX3_readNumber, cX3_readNumber, 4, (some .int), 2, 43, _, sX3_readNumber, ⟨by decide, by decide⟩, ⟨jX3_readNumber, kRX3_112, uRX3⟩, ⟨by decide, by decide, rfl⟩, Or.inl ⟨rfl, rfl, iX3_readNumber, recvX3_readNumber⟩⟩, List.forall_mem_cons.mpr ⟨Or.inl ⟨yJ9_max_7cf53, cJ9_max_7cf53, 2, (some .int), 0, 0, _, sJ9_max_7cf53, ⟨by decide, by decide⟩, ⟨jJ9_max_7cf53, kRX3_206, uRJ9⟩, ⟨by decide, by decide, rfl⟩, Or.inr (Or.inl ⟨rfl, rfl, iJ9_max_7cf53⟩)⟩, fun _ h => absurd h List.not_mem_nil⟩⟩
theorem sX3_readColumn : qm_Snd yX3_readColumn cX3_readColumn 2 (some .int) 3 66 wX3_readColumn := qm_met (fld := fun k => qm_lk k pfRX3) (con := fun k => qm_lk k pcRX3) (call := fun k => qm_lk k [(112, 0, 3, wX3_readNumber), (206, 2, 2, wJ9_max_7cf53)]) (tab := qm_tab aX3_readColumn) (plainFor_of_name (by decide)) (qm_fld_ok pfRX3_ok) (qm_con_ok pcRX3_ok) (fun idx kd n f hc => cX3_readColumn_ok (idx, kd, n, f) (qm_lk_mem hc)) (qm_tab_ok aX3_readColumn_ok) (fun vs h o hw => by
  unfold wX3_readColumn at hw
  split at hw
  · obtain ⟨r, hr, rfl⟩ := Option.map_eq_some_iff.mp hw
    exact ⟨Nat.le_of_ble_eq_true rfl, rX3_readColumn_0 (hr)⟩
  · cases hw)
theorem recvX3_readColumn : ∀ vs h o, wX3_readColumn vs h = some o → ∃ ci a rest, vs = qm_r 0 ci a :: rest ∧ qm_R ci = yX3_readColumn.cls := by
  intro vs h o hw
  unfold wX3_readColumn at hw
  split at hw
  · exact ⟨_, _, _, rfl, rfl⟩
  · cases hw
-- RX3 readRow()I
theorem jX3_readRow : Jvm.Cond.code yX3_readRow cX3_readRow 2 (some .int) ∈ qm_all := List.mem_filter.mpr ⟨by decide +kernel, rfl⟩
theorem iX3_readRow : Jvm.Cond.instanceMethod yX3_readRow ∈ qm_all ∧ Jvm.Cond.selects yX3_readRow.cls yX3_readRow yX3_readRow ∈ qm_all := ⟨List.mem_filter.mpr ⟨by decide +kernel, rfl⟩, List.mem_filter.mpr ⟨by decide +kernel, rfl⟩⟩
def wX3_readRow : qm_C := fun vs h => match vs with
  | [.inr (.inr (some (0, 3, p0)))] => (qX3_readRow p0 h).map qm_Gi
  | _ => none
def aX3_readRow : List (Option (Instr × Nat)) := [some (.aload_n 0, 1), some (.iconst 0, 1), some (.bipush 7, 2), none, some (.invokevirtual 112, 3), none, none, some (.istore_n 1, 1), some (.aload_n 0, 1), some (.aload_n 0, 1), some (.getfield 58, 3), none, none, some (.iload_n 1, 1), some (.invokestatic 206, 3), none, none, some (.putfield 58, 3), none, none, some (.iload_n 1, 1), some (.ireturn, 1)]
theorem aX3_readRow_ok : qm_tabok cX3_readRow aX3_readRow = true := by decide +kernel
def mX3_readRow : qm_M := ((some .int), (fun k => qm_lk k pfRX3), (fun k => qm_lk k pcRX3), (fun k => qm_lk k [(112, 0, 3, wX3_readNumber), (206, 2, 2, wJ9_max_7cf53)]), qm_tab aX3_readRow)
set_option maxRecDepth 20000 in
set_option maxHeartbeats 2000000 in
theorem rX3_readRow_0   {a0 : Nat} {h : qm_H} {r : Int32 × qm_H} (ho : qX3_readRow  a0 h = some r) : qm_Ret mX3_readRow (0, [some (qm_r 0 3 a0), none], [], h) (qm_Gi r) := by
  unfold qX3_readRow at ho
  refine qm_Ret.sts 3 (f' := (4, [some (qm_r 0 3 a0), none], [qm_i (7 : Int32), qm_i (0 : Int32), qm_r 0 3 a0], h)) rfl ?_
  obtain ⟨r2, h1, hr, ho⟩ := qm_b2e ho
  refine qm_Ret.call (X := wX3_readNumber [qm_r 0 3 a0, qm_i (0 : Int32), qm_i (7 : Int32)] h) (o1 := (some (qm_i r2), h1)) (qm_mp (G := qm_Gi) hr) rfl ?_
  show qm_Ret _ (7, [some (qm_r 0 3 a0), none], [qm_i r2], h1) _
  refine qm_Ret.sts 5 (f' := (14, [some (qm_r 0 3 a0), some (qm_i r2)], [qm_i r2, qm_i (h1.1 a0 8), qm_r 0 3 a0], h1)) rfl ?_
  obtain ⟨r4, h3, hr, ho⟩ := qm_b2e ho
  refine qm_Ret.call (X := wJ9_max_7cf53 [qm_i (h1.1 a0 8), qm_i r2] h1) (o1 := (some (qm_i r4), h3)) (qm_mp (G := qm_Gi) hr) rfl ?_
  show qm_Ret _ (17, [some (qm_r 0 3 a0), some (qm_i r2)], [qm_i r4, qm_r 0 3 a0], h3) _
  cases ho
  exact qm_Ret.ret 3 rfl
theorem cX3_readRow_ok : ∀ q ∈ ([(112, 0, 3, wX3_readNumber), (206, 2, 2, wJ9_max_7cf53)] : List (Nat × Nat × Nat × qm_C)), qm_CallOK RX3 3 66 q.2.1 q.1 q.2.2.1 q.2.2.2 := List.forall_mem_cons.mpr ⟨Or.inl ⟨yX3_readNumber, cX3_readNumber, 4, (some .int), 2, 43, _, sX3_readNumber, ⟨by decide, by decide⟩, ⟨jX3_readNumber, kRX3_112, uRX3⟩, ⟨by decide, by decide, rfl⟩, Or.inl ⟨rfl, rfl, iX3_readNumber, recvX3_readNumber⟩⟩, List.forall_mem_cons.mpr ⟨Or.inl ⟨yJ9_max_7cf53, cJ9_max_7cf53, 2, (some .int), 0, 0, _, sJ9_max_7cf53, ⟨by decide, by decide⟩, ⟨jJ9_max_7cf53, kRX3_206, uRJ9⟩, ⟨by decide, by decide, rfl⟩, Or.inr (Or.inl ⟨rfl, rfl, iJ9_max_7cf53⟩)⟩, fun _ h => absurd h List.not_mem_nil⟩⟩
theorem sX3_readRow : qm_Snd yX3_readRow cX3_readRow 2 (some .int) 3 66 wX3_readRow := qm_met (fld := fun k => qm_lk k pfRX3) (con := fun k => qm_lk k pcRX3) (call := fun k => qm_lk k [(112, 0, 3, wX3_readNumber), (206, 2, 2, wJ9_max_7cf53)]) (tab := qm_tab aX3_readRow) (plainFor_of_name (by decide)) (qm_fld_ok pfRX3_ok) (qm_con_ok pcRX3_ok) (fun idx kd n f hc => cX3_readRow_ok (idx, kd, n, f) (qm_lk_mem hc)) (qm_tab_ok aX3_readRow_ok) (fun vs h o hw => by
  unfold wX3_readRow at hw
  split at hw
  · obtain ⟨r, hr, rfl⟩ := Option.map_eq_some_iff.mp hw
    exact ⟨Nat.le_of_ble_eq_true rfl, rX3_readRow_0 (hr)⟩
  · cases hw)
theorem recvX3_readRow : ∀ vs h o, wX3_readRow vs h = some o → ∃ ci a rest, vs = qm_r 0 ci a :: rest ∧ qm_R ci = yX3_readRow.cls := by
  intro vs h o hw
  unfold wX3_readRow at hw
  split at hw
  · exact ⟨_, _, _, rfl, rfl⟩
  · cases hw
-- RX3 readTwig(II)V
theorem jX3_readTwig : Jvm.Cond.code yX3_readTwig cX3_readTwig 5 none ∈ qm_all := List.mem_filter.mpr ⟨by decide +kernel, rfl⟩
theorem iX3_readTwig : Jvm.Cond.instanceMethod yX3_readTwig ∈ qm_all ∧ Jvm.Cond.selects yX3_readTwig.cls yX3_readTwig yX3_readTwig ∈ qm_all := ⟨List.mem_filter.mpr ⟨by decide +kernel, rfl⟩, List.mem_filter.mpr ⟨by decide +kernel, rfl⟩⟩
def wX3_readTwig : qm_C := fun vs h => match vs with
  | [.inr (.inr (some (0, 3, p0))), .inl p1, .inl p2] => (qX3_readTwig p0 p1 p2 h).map qm_Gv
  | _ => none
def aX3_readTwig : List (Option (Instr × Nat)) := [some (.aload_n 0, 1), some (.iconst 0, 1), some (.bipush 9, 2), none, some (.invokevirtual 112, 3), none, none, some (.istore_n 3, 1), some (.aload_n 0, 1), some (.iconst 0, 1), some (.bipush 9, 2), none, some (.invokevirtual 112, 3), none, none, some (.istore 4, 2), none, some (.aload_n 0, 1), some (.getfield 12, 3), none, none, some (.iload_n 1, 1), some (.iload_n 2, 1), some (.iload_n 3, 1), some (.iload 4, 2), none, some (.invokevirtual 147, 3), none, none, some (.return_, 1)]
theorem aX3_readTwig_ok : qm_tabok cX3_readTwig aX3_readTwig = true := by decide +kernel
def mX3_readTwig : qm_M := (none, (fun k => qm_lk k pfRX3), (fun k => qm_lk k pcRX3), (fun k => qm_lk k [(112, 0, 3, wX3_readNumber), (147, 0, 5, wX0_setTwig)]), qm_tab aX3_readTwig)
set_option maxRecDepth 20000 in
set_option maxHeartbeats 2000000 in
theorem rX3_readTwig_0   {a0 : Nat} {x1 : Int32} {x2 : Int32} {h : qm_H} {r : qm_H} (ho : qX3_readTwig  a0 x1 x2 h = some r) : qm_Ret mX3_readTwig (0, [some (qm_r 0 3 a0), some (qm_i x1), some (qm_i x2), none, none], [], h) (qm_Gv r) := by
  unfold qX3_readTwig at ho
  refine qm_Ret.sts 3 (f' := (4, [some (qm_r 0 3 a0), some (qm_i x1), some (qm_i x2), none, none], [qm_i (9 : Int32), qm_i (0 : Int32), qm_r 0 3 a0], h)) rfl ?_
  obtain ⟨r2, h1, hr, ho⟩ := qm_b2e ho
  refine qm_Ret.call (X := wX3_readNumber [qm_r 0 3 a0, qm_i (0 : Int32), qm_i (9 : Int32)] h) (o1 := (some (qm_i r2), h1)) (qm_mp (G := qm_Gi) hr) rfl ?_
  show qm_Ret _ (7, [some (qm_r 0 3 a0), some (qm_i x1), some (qm_i x2), none, none], [qm_i r2], h1) _
  refine qm_Ret.sts 4 (f' := (12, [some (qm_r 0 3 a0), some (qm_i x1), some (qm_i x2), some (qm_i r2), none], [qm_i (9 : Int32), qm_i (0 : Int32), qm_r 0 3 a0], h1)) rfl ?_
  obtain ⟨r4, h3, hr, ho⟩ := qm_b2e ho
  refine qm_Ret.call (X := wX3_readNumber [qm_r 0 3 a0, qm_i (0 : Int32), qm_i (9 : Int32)] h1) (o1 := (some (qm_i r4), h3)) (qm_mp (G := qm_Gi) hr) rfl ?_
  show qm_Ret _ (15, [some (qm_r 0 3 a0), some (qm_i x1), some (qm_i x2), some (qm_i r2), none], [qm_i r4], h3) _
  refine qm_Ret.sts 7 (f' := (26, [some (qm_r 0 3 a0), some (qm_i x1), some (qm_i x2), some (qm_i r2), some (qm_i r4)], [qm_i r4, qm_i r2, qm_i x2, qm_i x1, qm_r 0 0 (a0 + 1)], h3)) rfl ?_
  obtain ⟨h5, hr, ho⟩ := qm_bd ho
  refine qm_Ret.call (X := wX0_setTwig [qm_r 0 0 (a0 + 1), qm_i x1, qm_i x2, qm_i r2, qm_i r4] h3) (o1 := (none, h5)) (qm_mp (G := qm_Gv) hr) rfl ?_
  show qm_Ret _ (29, [some (qm_r 0 3 a0), some (qm_i x1), some (qm_i x2), some (qm_i r2), some (qm_i r4)], [], h5) _
  cases ho
  exact qm_Ret.ret 1 rfl
theorem cX3_readTwig_ok : ∀ q ∈ ([(112, 0, 3, wX3_readNumber), (147, 0, 5, wX0_setTwig)] : List (Nat × Nat × Nat × qm_C)), qm_CallOK RX3 3 66 q.2.1 q.1 q.2.2.1 q.2.2.2 := List.forall_mem_cons.mpr ⟨Or.inl ⟨yX3_readNumber, cX3_readNumber, 4, (some .int), 2, 43, _, sX3_readNumber, ⟨by decide, by decide⟩, ⟨jX3_readNumber, kRX3_112, uRX3⟩, ⟨by decide, by decide, rfl⟩, Or.inl ⟨rfl, rfl, iX3_readNumber, recvX3_readNumber⟩⟩, List.forall_mem_cons.mpr ⟨Or.inl ⟨yX0_setTwig, cX0_setTwig, 6, none, 0, 0, _, sX0_setTwig, ⟨by decide, by decide⟩, ⟨jX0_setTwig, kRX3_147, uRX0⟩, ⟨by decide, by decide, rfl⟩, Or.inl ⟨rfl, rfl, iX0_setTwig, recvX0_setTwig⟩⟩, fun _ h => absurd h List.not_mem_nil⟩⟩
theorem sX3_readTwig : qm_Snd yX3_readTwig cX3_readTwig 5 none 3 66 wX3_readTwig := qm_met (fld := fun k => qm_lk k pfRX3) (con := fun k => qm_lk k pcRX3) (call := fun k => qm_lk k [(112, 0, 3, wX3_readNumber), (147, 0, 5, wX0_setTwig)]) (tab := qm_tab aX3_readTwig) (plainFor_of_name (by decide)) (qm_fld_ok pfRX3_ok) (qm_con_ok pcRX3_ok) (fun idx kd n f hc => cX3_readTwig_ok (idx, kd, n, f) (qm_lk_mem hc)) (qm_tab_ok aX3_readTwig_ok) (fun vs h o hw => by
  unfold wX3_readTwig at hw
  split at hw
  · obtain ⟨r, hr, rfl⟩ := Option.map_eq_some_iff.mp hw
    exact ⟨Nat.le_of_ble_eq_true rfl, rX3_readTwig_0 (hr)⟩
  · cases hw)
theorem recvX3_readTwig : ∀ vs h o, wX3_readTwig vs h = some o → ∃ ci a rest, vs = qm_r 0 ci a :: rest ∧ qm_R ci = yX3_readTwig.cls := by
  intro vs h o hw
  unfold wX3_readTwig at hw
  split at hw
  · exact ⟨_, _, _, rfl, rfl⟩
  · cases hw
