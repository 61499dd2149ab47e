-- RX12 game(IZZ)I
theorem jX12_game : Jvm.Cond.code yX12_game cX12_game 6 (some .int) ∈ qm_all := List.mem_filter.mpr ⟨by decide +kernel, rfl⟩
theorem iX12_game : Jvm.Cond.instanceMethod yX12_game ∈ qm_all ∧ Jvm.Cond.selects yX12_game.cls yX12_game yX12_game ∈ qm_all := ⟨List.mem_filter.mpr ⟨by decide +kernel, rfl⟩, List.mem_filter.mpr ⟨by decide +kernel, rfl⟩⟩
def wX12_game : qm_C := fun vs h => match vs with
  | [.inr (.inr (some (0, 12, p0))), .inl p1, .inl p2, .inl p3] => (qX12_game p0 p1 p2 p3 h).map qm_Gi
  | _ => none
def aX12_game : List (Option (Instr × Nat)) := [some (.aload_n 0, 1), some (.iconst 0, 1), some (.putfield 88, 3), none, none, some (.aload_n 0, 1), some (.iload_n 1, 1), some (.invokevirtual 439, 3), none, none, some (.ifCond .ne 6, 3), none, none, some (.bipush (-2), 2), none, some (.ireturn, 1), some (.iconst 0, 1), some (.istore 4, 2), none, some (.iload 4, 2), none, some (.aload_n 0, 1), some (.getfield 433, 3), none, none, some (.if_icmp .ge 22, 3), none, none, some (.aload_n 0, 1), some (.getfield 78, 3), none, none, some (.iload 4, 2), none, some (.aload_n 0, 1), some (.iload 4, 2), none, some (.invokevirtual 442, 3), none, none, some (.iastore, 1), some (.iinc 4 1, 3), none, none, some (.goto (-25), 3), none, none, some (.iload_n 3, 1), some (.ifCond .ne 17, 3), none, none, some (.aload_n 0, 1), some (.iload_n 2, 1), some (.invokevirtual 462, 3), none, none, some (.ifCond .eq 7, 3), none, none, some (.iconst 1, 1), some (.goto 4, 3), none, none, some (.iconst 0, 1), some (.ireturn, 1), some (.iconst 0, 1), some (.istore 4, 2), none, some (.iload 4, 2), none, some (.aload_n 0, 1), some (.getfield 433, 3), none, none, some (.if_icmp .ge 85, 3), none, none, some (.iconst 1, 1), some (.istore 5, 2), none, some (.iload 5, 2), none, some (.aload_n 0, 1), some (.iconst 2, 1), some (.invokevirtual 430, 3), none, none, some (.if_icmp .gt 53, 3), none, none, some (.iload 5, 2), none, some (.aload_n 0, 1), some (.iload 4, 2), none, some (.invokevirtual 442, 3), none, none, some (.if_icmp .gt 42, 3), none, none, some (.aload_n 0, 1), some (.getfield 78, 3), none, none, some (.iload 4, 2), none, some (.aload_n 0, 1), some (.iload 4, 2), none, some (.invokevirtual 442, 3), none, none, some (.iload 5, 2), none, some (.isub, 1), some (.iastore, 1), some (.aload_n 0, 1), some (.iload_n 2, 1), some (.invokevirtual 462, 3), none, none, some (.ifCond .ne 12, 3), none, none, some (.bipush 10, 2), none, some (.iload 4, 2), none, some (.imul, 1), some (.iload 5, 2), none, some (.iadd, 1), some (.ireturn, 1), some (.iinc 5 1, 3), none, none, some (.goto (-57), 3), none, none, some (.aload_n 0, 1), some (.getfield 78, 3), none, none, some (.iload 4, 2), none, some (.aload_n 0, 1), some (.iload 4, 2), none, some (.invokevirtual 442, 3), none, none, some (.iastore, 1), some (.iinc 4 1, 3), none, none, some (.goto (-88), 3), none, none, some (.iconst (-1), 1), some (.ireturn, 1)]
theorem aX12_game_ok : qm_tabok cX12_game aX12_game = true := by decide +kernel
def mX12_game : qm_M := ((some .int), (fun k => qm_lk k pfRX12), (fun k => qm_lk k pcRX12), (fun k => qm_lk k [(442, 0, 2, wX12_rod), (430, 0, 2, wX12_parishOf), (462, 0, 2, wX12_isWon), (439, 0, 2, wX12_hasParish)]), qm_tab aX12_game)
set_option maxRecDepth 20000 in
set_option maxHeartbeats 2000000 in
theorem rX12_game_140 {K68 : Nat → Int32 → Int32 → qm_H → Option (Int32 × qm_H)} (H68 : ∀ {a0 : Nat} {x2 : Int32} {x4 : Int32} {xd1 : Int32} {xd3 : Int32} {d5 : Option qm_V} {h : qm_H} {r : Int32 × qm_H}, K68 a0 x2 x4 h = some r → qm_Ret mX12_game (68, [some (qm_r 0 12 a0), some (qm_i xd1), some (qm_i x2), some (qm_i xd3), some (qm_i x4), d5], [], h) (qm_Gi r)) {a0 : Nat} {x2 : Int32} {x4 : Int32} {xd1 : Int32} {xd3 : Int32} {xd5 : Int32} {h : qm_H} {r : Int32 × qm_H} (ho : qX12_game_140 K68 a0 x2 x4 h = some r) : qm_Ret mX12_game (140, [some (qm_r 0 12 a0), some (qm_i xd1), some (qm_i x2), some (qm_i xd3), some (qm_i x4), some (qm_i xd5)], [], h) (qm_Gi r) := by
  unfold qX12_game_140 at ho
  refine qm_Ret.sts 5 (f' := (149, [some (qm_r 0 12 a0), some (qm_i xd1), some (qm_i x2), some (qm_i xd3), some (qm_i x4), some (qm_i xd5)], [qm_i x4, qm_r 0 12 a0, qm_i x4, qm_r 1 6 (a0 + 23)], h)) rfl ?_
  obtain ⟨r2, h1, hr, ho⟩ := qm_b2e ho
  refine qm_Ret.call (X := wX12_rod [qm_r 0 12 a0, qm_i x4] h) (o1 := (some (qm_i r2), h1)) (qm_mp (G := qm_Gi) hr) rfl ?_
  show qm_Ret _ (152, [some (qm_r 0 12 a0), some (qm_i xd1), some (qm_i x2), some (qm_i xd3), some (qm_i x4), some (qm_i xd5)], [qm_i r2, qm_i x4, qm_r 1 6 (a0 + 23)], h1) _
  obtain ⟨hg, ho⟩ := qm_ifn ho
  refine qm_Ret.gn (f1 := (153, [some (qm_r 0 12 a0), some (qm_i xd1), some (qm_i x2), some (qm_i xd3), some (qm_i x4), some (qm_i xd5)], [], (qm_seti h1 (a0 + 23) (x4).toNatClampNeg r2))) hg rfl ?_
  refine qm_Ret.lets (F := fun h3 => (153, [some (qm_r 0 12 a0), some (qm_i xd1), some (qm_i x2), some (qm_i xd3), some (qm_i x4), some (qm_i xd5)], [], h3)) (G := qm_Gi) ho (fun h3 ho => ?_)
  refine qm_Ret.sts 2 (f' := (68, [some (qm_r 0 12 a0), some (qm_i xd1), some (qm_i x2), some (qm_i xd3), some (qm_i (x4 + (1 : Int32))), some (qm_i xd5)], [], h3)) rfl ?_
  exact H68 ho
set_option maxRecDepth 20000 in
set_option maxHeartbeats 2000000 in
theorem rX12_game_80 {K68 : Nat → Int32 → Int32 → qm_H → Option (Int32 × qm_H)} (H68 : ∀ {a0 : Nat} {x2 : Int32} {x4 : Int32} {xd1 : Int32} {xd3 : Int32} {d5 : Option qm_V} {h : qm_H} {r : Int32 × qm_H}, K68 a0 x2 x4 h = some r → qm_Ret mX12_game (68, [some (qm_r 0 12 a0), some (qm_i xd1), some (qm_i x2), some (qm_i xd3), some (qm_i x4), d5], [], h) (qm_Gi r)) : ∀ {fuel : Nat} {a0 : Nat} {x2 : Int32} {x4 : Int32} {x5 : Int32} {xd1 : Int32} {xd3 : Int32} {h : qm_H} {r : Int32 × qm_H}, qX12_game_80 K68 fuel a0 x2 x4 x5 h = some r → qm_Ret mX12_game (80, [some (qm_r 0 12 a0), some (qm_i xd1), some (qm_i x2), some (qm_i xd3), some (qm_i x4), some (qm_i x5)], [], h) (qm_Gi r) := by
  intro fuel
  induction fuel with
  | zero => intros; rename_i ho; cases ho
  | succ n ih =>
    intro a0 x2 x4 x5 xd1 xd3 h r ho
    unfold qX12_game_80 at ho
    refine qm_Ret.sts 3 (f' := (84, [some (qm_r 0 12 a0), some (qm_i xd1), some (qm_i x2), some (qm_i xd3), some (qm_i x4), some (qm_i x5)], [qm_i (2 : Int32), qm_r 0 12 a0, qm_i x5], h)) rfl ?_
    obtain ⟨r2, h1, hr, ho⟩ := qm_b2e ho
    refine qm_Ret.call (X := wX12_parishOf [qm_r 0 12 a0, qm_i (2 : Int32)] h) (o1 := (some (qm_i r2), h1)) (qm_mp (G := qm_Gi) hr) rfl ?_
    show qm_Ret _ (87, [some (qm_r 0 12 a0), some (qm_i xd1), some (qm_i x2), some (qm_i xd3), some (qm_i x4), some (qm_i x5)], [qm_i r2, qm_i x5], h1) _
    refine qm_Ret.gt (t := 140) (e := 90) rfl (fun hc => ?_) (fun hc => ?_)
    · rw [if_pos hc] at ho
      exact rX12_game_140 H68 ho
    · rw [if_neg hc] at ho
      refine qm_Ret.sts 3 (f' := (95, [some (qm_r 0 12 a0), some (qm_i xd1), some (qm_i x2), some (qm_i xd3), some (qm_i x4), some (qm_i x5)], [qm_i x4, qm_r 0 12 a0, qm_i x5], h1)) rfl ?_
      obtain ⟨r4, h3, hr, ho⟩ := qm_b2e ho
      refine qm_Ret.call (X := wX12_rod [qm_r 0 12 a0, qm_i x4] h1) (o1 := (some (qm_i r4), h3)) (qm_mp (G := qm_Gi) hr) rfl ?_
      show qm_Ret _ (98, [some (qm_r 0 12 a0), some (qm_i xd1), some (qm_i x2), some (qm_i xd3), some (qm_i x4), some (qm_i x5)], [qm_i r4, qm_i x5], h3) _
      refine qm_Ret.gt (t := 140) (e := 101) rfl (fun hc => ?_) (fun hc => ?_)
      · rw [if_pos hc] at ho
        exact rX12_game_140 H68 ho
      · rw [if_neg hc] at ho
        refine qm_Ret.sts 5 (f' := (110, [some (qm_r 0 12 a0), some (qm_i xd1), some (qm_i x2), some (qm_i xd3), some (qm_i x4), some (qm_i x5)], [qm_i x4, qm_r 0 12 a0, qm_i x4, qm_r 1 6 (a0 + 23)], h3)) rfl ?_
        obtain ⟨r6, h5, hr, ho⟩ := qm_b2e ho
        refine qm_Ret.call (X := wX12_rod [qm_r 0 12 a0, qm_i x4] h3) (o1 := (some (qm_i r6), h5)) (qm_mp (G := qm_Gi) hr) rfl ?_
        show qm_Ret _ (113, [some (qm_r 0 12 a0), some (qm_i xd1), some (qm_i x2), some (qm_i xd3), some (qm_i x4), some (qm_i x5)], [qm_i r6, qm_i x4, qm_r 1 6 (a0 + 23)], h5) _
        refine qm_Ret.sts 2 (f' := (116, [some (qm_r 0 12 a0), some (qm_i xd1), some (qm_i x2), some (qm_i xd3), some (qm_i x4), some (qm_i x5)], [qm_i (r6 - x5), qm_i x4, qm_r 1 6 (a0 + 23)], h5)) rfl ?_
        obtain ⟨hg, ho⟩ := qm_ifn ho
        refine qm_Ret.gn (f1 := (117, [some (qm_r 0 12 a0), some (qm_i xd1), some (qm_i x2), some (qm_i xd3), some (qm_i x4), some (qm_i x5)], [], (qm_seti h5 (a0 + 23) (x4).toNatClampNeg (r6 - x5)))) hg rfl ?_
        refine qm_Ret.lets (F := fun h7 => (117, [some (qm_r 0 12 a0), some (qm_i xd1), some (qm_i x2), some (qm_i xd3), some (qm_i x4), some (qm_i x5)], [], h7)) (G := qm_Gi) ho (fun h7 ho => ?_)
        refine qm_Ret.sts 2 (f' := (119, [some (qm_r 0 12 a0), some (qm_i xd1), some (qm_i x2), some (qm_i xd3), some (qm_i x4), some (qm_i x5)], [qm_i x2, qm_r 0 12 a0], h7)) rfl ?_
        obtain ⟨r9, h8, hr, ho⟩ := qm_b2e ho
        refine qm_Ret.call (X := wX12_isWon [qm_r 0 12 a0, qm_i x2] h7) (o1 := (some (qm_i r9), h8)) (qm_mp (G := qm_Gi) hr) rfl ?_
        show qm_Ret _ (122, [some (qm_r 0 12 a0), some (qm_i xd1), some (qm_i x2), some (qm_i xd3), some (qm_i x4), some (qm_i x5)], [qm_i r9], h8) _
        refine qm_Ret.ne (t := 134) (e := 125) rfl (fun hc => ?_) (fun hc => ?_)
        · rw [if_pos hc] at ho
          cases ho
          exact qm_Ret.ret 6 rfl
        · rw [if_neg hc] at ho
          refine qm_Ret.sts 2 (f' := (80, [some (qm_r 0 12 a0), some (qm_i xd1), some (qm_i x2), some (qm_i xd3), some (qm_i x4), some (qm_i (x5 + (1 : Int32)))], [], h8)) rfl ?_
          exact ih ho
set_option maxRecDepth 20000 in
set_option maxHeartbeats 2000000 in
theorem rX12_game_68   : ∀ {fuel : Nat} {a0 : Nat} {x2 : Int32} {x4 : Int32} {xd1 : Int32} {xd3 : Int32} {d5 : Option qm_V} {h : qm_H} {r : Int32 × qm_H}, qX12_game_68  fuel a0 x2 x4 h = some r → qm_Ret mX12_game (68, [some (qm_r 0 12 a0), some (qm_i xd1), some (qm_i x2), some (qm_i xd3), some (qm_i x4), d5], [], h) (qm_Gi r) := by
  intro fuel
  induction fuel with
  | zero => intros; rename_i ho; cases ho
  | succ n ih =>
    intro a0 x2 x4 xd1 xd3 d5 h r ho
    unfold qX12_game_68 at ho
    refine qm_Ret.sts 3 (f' := (74, [some (qm_r 0 12 a0), some (qm_i xd1), some (qm_i x2), some (qm_i xd3), some (qm_i x4), d5], [qm_i (h.1 a0 41), qm_i x4], h)) rfl ?_
    refine qm_Ret.ge (t := 159) (e := 77) rfl (fun hc => ?_) (fun hc => ?_)
    · rw [if_pos hc] at ho
      refine qm_Ret.sts 2 (f' := (80, [some (qm_r 0 12 a0), some (qm_i xd1), some (qm_i x2), some (qm_i xd3), some (qm_i x4), some (qm_i (1 : Int32))], [], h)) rfl ?_
      exact rX12_game_80 (ih) ho
    · rw [if_neg hc] at ho
      cases ho
      exact qm_Ret.ret 2 rfl
set_option maxRecDepth 20000 in
set_option maxHeartbeats 2000000 in
theorem rX12_game_19   : ∀ {fuel : Nat} {a0 : Nat} {x2 : Int32} {x3 : Int32} {x4 : Int32} {xd1 : Int32} {h : qm_H} {r : Int32 × qm_H}, qX12_game_19  fuel a0 x2 x3 x4 h = some r → qm_Ret mX12_game (19, [some (qm_r 0 12 a0), some (qm_i xd1), some (qm_i x2), some (qm_i x3), some (qm_i x4), none], [], h) (qm_Gi r) := by
  intro fuel
  induction fuel with
  | zero => intros; rename_i ho; cases ho
  | succ n ih =>
    intro a0 x2 x3 x4 xd1 h r ho
    unfold qX12_game_19 at ho
    refine qm_Ret.sts 3 (f' := (25, [some (qm_r 0 12 a0), some (qm_i xd1), some (qm_i x2), some (qm_i x3), some (qm_i x4), none], [qm_i (h.1 a0 41), qm_i x4], h)) rfl ?_
    refine qm_Ret.ge (t := 47) (e := 28) rfl (fun hc => ?_) (fun hc => ?_)
    · rw [if_pos hc] at ho
      refine qm_Ret.sts 5 (f' := (37, [some (qm_r 0 12 a0), some (qm_i xd1), some (qm_i x2), some (qm_i x3), some (qm_i x4), none], [qm_i x4, qm_r 0 12 a0, qm_i x4, qm_r 1 6 (a0 + 23)], h)) rfl ?_
      obtain ⟨r4, h3, hr, ho⟩ := qm_b2e ho
      refine qm_Ret.call (X := wX12_rod [qm_r 0 12 a0, qm_i x4] h) (o1 := (some (qm_i r4), h3)) (qm_mp (G := qm_Gi) hr) rfl ?_
      show qm_Ret _ (40, [some (qm_r 0 12 a0), some (qm_i xd1), some (qm_i x2), some (qm_i x3), some (qm_i x4), none], [qm_i r4, qm_i x4, qm_r 1 6 (a0 + 23)], h3) _
      obtain ⟨hg, ho⟩ := qm_ifn ho
      refine qm_Ret.gn (f1 := (41, [some (qm_r 0 12 a0), some (qm_i xd1), some (qm_i x2), some (qm_i x3), some (qm_i x4), none], [], (qm_seti h3 (a0 + 23) (x4).toNatClampNeg r4))) hg rfl ?_
      refine qm_Ret.lets (F := fun h5 => (41, [some (qm_r 0 12 a0), some (qm_i xd1), some (qm_i x2), some (qm_i x3), some (qm_i x4), none], [], h5)) (G := qm_Gi) ho (fun h5 ho => ?_)
      refine qm_Ret.sts 2 (f' := (19, [some (qm_r 0 12 a0), some (qm_i xd1), some (qm_i x2), some (qm_i x3), some (qm_i (x4 + (1 : Int32))), none], [], h5)) rfl ?_
      exact ih ho
    · rw [if_neg hc] at ho
      refine qm_Ret.sts 1 (f' := (48, [some (qm_r 0 12 a0), some (qm_i xd1), some (qm_i x2), some (qm_i x3), some (qm_i x4), none], [qm_i x3], h)) rfl ?_
      refine qm_Ret.ne (t := 65) (e := 51) rfl (fun hc => ?_) (fun hc => ?_)
      · rw [if_pos hc] at ho
        refine qm_Ret.sts 2 (f' := (53, [some (qm_r 0 12 a0), some (qm_i xd1), some (qm_i x2), some (qm_i x3), some (qm_i x4), none], [qm_i x2, qm_r 0 12 a0], h)) rfl ?_
        obtain ⟨r2, h1, hr, ho⟩ := qm_b2e ho
        refine qm_Ret.call (X := wX12_isWon [qm_r 0 12 a0, qm_i x2] h) (o1 := (some (qm_i r2), h1)) (qm_mp (G := qm_Gi) hr) rfl ?_
        show qm_Ret _ (56, [some (qm_r 0 12 a0), some (qm_i xd1), some (qm_i x2), some (qm_i x3), some (qm_i x4), none], [qm_i r2], h1) _
        refine qm_Ret.eq (t := 63) (e := 59) rfl (fun hc => ?_) (fun hc => ?_)
        · rw [if_pos hc] at ho
          cases ho
          exact qm_Ret.ret 2 rfl
        · rw [if_neg hc] at ho
          cases ho
          exact qm_Ret.ret 3 rfl
      · rw [if_neg hc] at ho
        refine qm_Ret.sts 2 (f' := (68, [some (qm_r 0 12 a0), some (qm_i xd1), some (qm_i x2), some (qm_i x3), some (qm_i (0 : Int32)), none], [], h)) rfl ?_
        exact rX12_game_68 ho
set_option maxRecDepth 20000 in
set_option maxHeartbeats 2000000 in
theorem rX12_game_0   {a0 : Nat} {x1 : Int32} {x2 : Int32} {x3 : Int32} {h : qm_H} {r : Int32 × qm_H} (ho : qX12_game  a0 x1 x2 x3 h = some r) : qm_Ret mX12_game (0, [some (qm_r 0 12 a0), some (qm_i x1), some (qm_i x2), some (qm_i x3), none, none], [], h) (qm_Gi r) := by
  unfold qX12_game at ho
  refine qm_Ret.sts 3 (f' := (5, [some (qm_r 0 12 a0), some (qm_i x1), some (qm_i x2), some (qm_i x3), none, none], [], (qm_seti h a0 0 (0 : Int32)))) rfl ?_
  refine qm_Ret.lets (F := fun h1 => (5, [some (qm_r 0 12 a0), some (qm_i x1), some (qm_i x2), some (qm_i x3), none, none], [], h1)) (G := qm_Gi) ho (fun h1 ho => ?_)
  refine qm_Ret.sts 2 (f' := (7, [some (qm_r 0 12 a0), some (qm_i x1), some (qm_i x2), some (qm_i x3), none, none], [qm_i x1, qm_r 0 12 a0], h1)) rfl ?_
  obtain ⟨r3, h2, hr, ho⟩ := qm_b2e ho
  refine qm_Ret.call (X := wX12_hasParish [qm_r 0 12 a0, qm_i x1] h1) (o1 := (some (qm_i r3), h2)) (qm_mp (G := qm_Gi) hr) rfl ?_
  show qm_Ret _ (10, [some (qm_r 0 12 a0), some (qm_i x1), some (qm_i x2), some (qm_i x3), none, none], [qm_i r3], h2) _
  refine qm_Ret.ne (t := 16) (e := 13) rfl (fun hc => ?_) (fun hc => ?_)
  · rw [if_pos hc] at ho
    cases ho
    exact qm_Ret.ret 2 rfl
  · rw [if_neg hc] at ho
    refine qm_Ret.sts 2 (f' := (19, [some (qm_r 0 12 a0), some (qm_i x1), some (qm_i x2), some (qm_i x3), some (qm_i (0 : Int32)), none], [], h2)) rfl ?_
    exact rX12_game_19 ho
theorem cX12_game_ok : ∀ q ∈ ([(442, 0, 2, wX12_rod), (430, 0, 2, wX12_parishOf), (462, 0, 2, wX12_isWon), (439, 0, 2, wX12_hasParish)] : List (Nat × Nat × Nat × qm_C)), qm_CallOK RX12 3 65 q.2.1 q.1 q.2.2.1 q.2.2.2 := List.forall_mem_cons.mpr ⟨Or.inl ⟨yX12_rod, cX12_rod, 2, (some .int), 1, 21, _, sX12_rod, ⟨by decide, by decide⟩, ⟨jX12_rod, kRX12_442, uRX12⟩, ⟨by decide, by decide, rfl⟩, Or.inl ⟨rfl, rfl, iX12_rod, recvX12_rod⟩⟩, List.forall_mem_cons.mpr ⟨Or.inl ⟨yX12_parishOf, cX12_parishOf, 2, (some .int), 0, 0, _, sX12_parishOf, ⟨by decide, by decide⟩, ⟨jX12_parishOf, kRX12_430, uRX12⟩, ⟨by decide, by decide, rfl⟩, Or.inl ⟨rfl, rfl, iX12_parishOf, recvX12_parishOf⟩⟩, List.forall_mem_cons.mpr ⟨Or.inl ⟨yX12_isWon, cX12_isWon, 6, (some .boolean), 1, 21, _, sX12_isWon, ⟨by decide, by decide⟩, ⟨jX12_isWon, kRX12_462, uRX12⟩, ⟨by decide, by decide, rfl⟩, Or.inl ⟨rfl, rfl, iX12_isWon, recvX12_isWon⟩⟩, List.forall_mem_cons.mpr ⟨Or.inl ⟨yX12_hasParish, cX12_hasParish, 2, (some .boolean), 2, 44, _, sX12_hasParish, ⟨by decide, by decide⟩, ⟨jX12_hasParish, kRX12_439, uRX12⟩, ⟨by decide, by decide, rfl⟩, Or.inl ⟨rfl, rfl, iX12_hasParish, recvX12_hasParish⟩⟩, fun _ h => absurd h List.not_mem_nil⟩⟩⟩⟩
theorem sX12_game : qm_Snd yX12_game cX12_game 6 (some .int) 3 65 wX12_game := qm_met (fld := fun k => qm_lk k pfRX12) (con := fun k => qm_lk k pcRX12) (call := fun k => qm_lk k [(442, 0, 2, wX12_rod), (430, 0, 2, wX12_parishOf), (462, 0, 2, wX12_isWon), (439, 0, 2, wX12_hasParish)]) (tab := qm_tab aX12_game) (plainFor_of_name (by decide)) (qm_fld_ok pfRX12_ok) (qm_con_ok pcRX12_ok) (fun idx kd n f hc => cX12_game_ok (idx, kd, n, f) (qm_lk_mem hc)) (qm_tab_ok aX12_game_ok) (fun vs h o hw => by
  unfold wX12_game at hw
  split at hw
  · obtain ⟨r, hr, rfl⟩ := Option.map_eq_some_iff.mp hw
    exact ⟨Nat.le_of_ble_eq_true rfl, rX12_game_0 (hr)⟩
  · cases hw)
theorem recvX12_game : ∀ vs h o, wX12_game vs h = some o → ∃ ci a rest, vs = qm_r 0 ci a :: rest ∧ qm_R ci = yX12_game.cls := by
  intro vs h o hw
  unfold wX12_game at hw
  split at hw
  · exact ⟨_, _, _, rfl, rfl⟩
  · cases hw
-- RX12 hintOf(I)I
theorem jX12_hintOf : Jvm.Cond.code yX12_hintOf cX12_hintOf 2 (some .int) ∈ qm_all := List.mem_filter.mpr ⟨by decide +kernel, rfl⟩
theorem iX12_hintOf : Jvm.Cond.instanceMethod yX12_hintOf ∈ qm_all ∧ Jvm.Cond.selects yX12_hintOf.cls yX12_hintOf yX12_hintOf ∈ qm_all := ⟨List.mem_filter.mpr ⟨by decide +kernel, rfl⟩, List.mem_filter.mpr ⟨by decide +kernel, rfl⟩⟩
def wX12_hintOf : qm_C := fun vs h => match vs with
  | [.inr (.inr (some (0, 12, p0))), .inl p1] => (qX12_hintOf p0 p1 h).map qm_Gi
  | _ => none
def aX12_hintOf : List (Option (Instr × Nat)) := [some (.aload_n 0, 1), some (.getfield 35, 3), none, none, some (.bipush 33, 2), none, some (.aload_n 0, 1), some (.getfield 465, 3), none, none, some (.imul, 1), some (.iload_n 1, 1), some (.iadd, 1), some (.iaload, 1), some (.ireturn, 1)]
theorem aX12_hintOf_ok : qm_tabok cX12_hintOf aX12_hintOf = true := by decide +kernel
def mX12_hintOf : qm_M := ((some .int), (fun k => qm_lk k pfRX12), (fun k => qm_lk k pcRX12), (fun k => qm_lk k []), qm_tab aX12_hintOf)
set_option maxRecDepth 20000 in
set_option maxHeartbeats 2000000 in
theorem rX12_hintOf_0   {a0 : Nat} {x1 : Int32} {h : qm_H} {r : Int32 × qm_H} (ho : qX12_hintOf  a0 x1 h = some r) : qm_Ret mX12_hintOf (0, [some (qm_r 0 12 a0), some (qm_i x1)], [], h) (qm_Gi r) := by
  unfold qX12_hintOf at ho
  refine qm_Ret.sts 8 (f' := (13, [some (qm_r 0 12 a0), some (qm_i x1)], [qm_i (((33 : Int32) * (h.1 a0 46)) + x1), qm_r 1 264 (a0 + 9)], h)) rfl ?_
  obtain ⟨hg, ho⟩ := qm_ifn ho
  refine qm_Ret.gn (f1 := (14, [some (qm_r 0 12 a0), some (qm_i x1)], [qm_i (h.1 (a0 + 9) (((33 : Int32) * (h.1 a0 46)) + x1).toNatClampNeg)], h)) hg rfl ?_
  cases ho
  exact qm_Ret.ret 1 rfl
theorem cX12_hintOf_ok : ∀ q ∈ ([] : List (Nat × Nat × Nat × qm_C)), qm_CallOK RX12 0 0 q.2.1 q.1 q.2.2.1 q.2.2.2 := fun _ h => absurd h List.not_mem_nil
theorem sX12_hintOf : qm_Snd yX12_hintOf cX12_hintOf 2 (some .int) 0 0 wX12_hintOf := qm_met (fld := fun k => qm_lk k pfRX12) (con := fun k => qm_lk k pcRX12) (call := fun k => qm_lk k []) (tab := qm_tab aX12_hintOf) (plainFor_of_name (by decide)) (qm_fld_ok pfRX12_ok) (qm_con_ok pcRX12_ok) (fun idx kd n f hc => cX12_hintOf_ok (idx, kd, n, f) (qm_lk_mem hc)) (qm_tab_ok aX12_hintOf_ok) (fun vs h o hw => by
  unfold wX12_hintOf at hw
  split at hw
  · obtain ⟨r, hr, rfl⟩ := Option.map_eq_some_iff.mp hw
    exact ⟨Nat.le_of_ble_eq_true rfl, rX12_hintOf_0 (hr)⟩
  · cases hw)
theorem recvX12_hintOf : ∀ vs h o, wX12_hintOf vs h = some o → ∃ ci a rest, vs = qm_r 0 ci a :: rest ∧ qm_R ci = yX12_hintOf.cls := by
  intro vs h o hw
  unfold wX12_hintOf at hw
  split at hw
  · exact ⟨_, _, _, rfl, rfl⟩
  · cases hw
-- RX12 hasClues(I)Z
theorem jX12_hasClues : Jvm.Cond.code yX12_hasClues cX12_hasClues 2 (some .boolean) ∈ qm_all := List.mem_filter.mpr ⟨by decide +kernel, rfl⟩
theorem iX12_hasClues : Jvm.Cond.instanceMethod yX12_hasClues ∈ qm_all ∧ Jvm.Cond.selects yX12_hasClues.cls yX12_hasClues yX12_hasClues ∈ qm_all := ⟨List.mem_filter.mpr ⟨by decide +kernel, rfl⟩, List.mem_filter.mpr ⟨by decide +kernel, rfl⟩⟩
def wX12_hasClues : qm_C := fun vs h => match vs with
  | [.inr (.inr (some (0, 12, p0))), .inl p1] => (qX12_hasClues p0 p1 h).map qm_Gi
  | _ => none
def aX12_hasClues : List (Option (Instr × Nat)) := [some (.aload_n 0, 1), some (.iload_n 1, 1), some (.putfield 465, 3), none, none, some (.aload_n 0, 1), some (.iconst 3, 1), some (.iload_n 1, 1), some (.invokevirtual 257, 3), none, none, some (.ifCond .ne 5, 3), none, none, some (.iconst 0, 1), some (.ireturn, 1), some (.aload_n 0, 1), some (.aload_n 0, 1), some (.iconst 0, 1), some (.invokevirtual 468, 3), none, none, some (.putfield 273, 3), none, none, some (.aload_n 0, 1), some (.aload_n 0, 1), some (.iconst 1, 1), some (.invokevirtual 468, 3), none, none, some (.putfield 276, 3), none, none, some (.aload_n 0, 1), some (.aload_n 0, 1), some (.getfield 273, 3), none, none, some (.aload_n 0, 1), some (.getfield 276, 3), none, none, some (.imul, 1), some (.putfield 279, 3), none, none, some (.iconst 1, 1), some (.ireturn, 1)]
theorem aX12_hasClues_ok : qm_tabok cX12_hasClues aX12_hasClues = true := by decide +kernel
def mX12_hasClues : qm_M := ((some .boolean), (fun k => qm_lk k pfRX12), (fun k => qm_lk k pcRX12), (fun k => qm_lk k [(257, 0, 3, wX12_is), (468, 0, 2, wX12_hintOf)]), qm_tab aX12_hasClues)
set_option maxRecDepth 20000 in
set_option maxHeartbeats 2000000 in
theorem rX12_hasClues_0   {a0 : Nat} {x1 : Int32} {h : qm_H} {r : Int32 × qm_H} (ho : qX12_hasClues  a0 x1 h = some r) : qm_Ret mX12_hasClues (0, [some (qm_r 0 12 a0), some (qm_i x1)], [], h) (qm_Gi r) := by
  unfold qX12_hasClues at ho
  refine qm_Ret.sts 6 (f' := (8, [some (qm_r 0 12 a0), some (qm_i x1)], [qm_i x1, qm_i (3 : Int32), qm_r 0 12 a0], (qm_seti h a0 46 x1))) rfl ?_
  obtain ⟨r2, h1, hr, ho⟩ := qm_b2e ho
  refine qm_Ret.call (X := wX12_is [qm_r 0 12 a0, qm_i (3 : Int32), qm_i x1] (qm_seti h a0 46 x1)) (o1 := (some (qm_i r2), h1)) (qm_mp (G := qm_Gi) hr) rfl ?_
  show qm_Ret _ (11, [some (qm_r 0 12 a0), some (qm_i x1)], [qm_i r2], h1) _
  refine qm_Ret.ne (t := 16) (e := 14) rfl (fun hc => ?_) (fun hc => ?_)
  · rw [if_pos hc] at ho
    cases ho
    exact qm_Ret.ret 2 rfl
  · rw [if_neg hc] at ho
    refine qm_Ret.sts 3 (f' := (19, [some (qm_r 0 12 a0), some (qm_i x1)], [qm_i (0 : Int32), qm_r 0 12 a0, qm_r 0 12 a0], h1)) rfl ?_
    obtain ⟨r4, h3, hr, ho⟩ := qm_b2e ho
    refine qm_Ret.call (X := wX12_hintOf [qm_r 0 12 a0, qm_i (0 : Int32)] h1) (o1 := (some (qm_i r4), h3)) (qm_mp (G := qm_Gi) hr) rfl ?_
    show qm_Ret _ (22, [some (qm_r 0 12 a0), some (qm_i x1)], [qm_i r4, qm_r 0 12 a0], h3) _
    refine qm_Ret.sts 4 (f' := (28, [some (qm_r 0 12 a0), some (qm_i x1)], [qm_i (1 : Int32), qm_r 0 12 a0, qm_r 0 12 a0], (qm_seti h3 a0 25 r4))) rfl ?_
    obtain ⟨r6, h5, hr, ho⟩ := qm_b2e ho
    refine qm_Ret.call (X := wX12_hintOf [qm_r 0 12 a0, qm_i (1 : Int32)] (qm_seti h3 a0 25 r4)) (o1 := (some (qm_i r6), h5)) (qm_mp (G := qm_Gi) hr) rfl ?_
    show qm_Ret _ (31, [some (qm_r 0 12 a0), some (qm_i x1)], [qm_i r6, qm_r 0 12 a0], h5) _
    refine qm_Ret.sts 8 (f' := (47, [some (qm_r 0 12 a0), some (qm_i x1)], [], (qm_seti (qm_seti h5 a0 26 r6) a0 27 (((qm_seti h5 a0 26 r6).1 a0 25) * ((qm_seti h5 a0 26 r6).1 a0 26))))) rfl ?_
    refine qm_Ret.lets (F := fun h7 => (47, [some (qm_r 0 12 a0), some (qm_i x1)], [], h7)) (G := qm_Gi) ho (fun h7 ho => ?_)
    cases ho
    exact qm_Ret.ret 2 rfl
theorem cX12_hasClues_ok : ∀ q ∈ ([(257, 0, 3, wX12_is), (468, 0, 2, wX12_hintOf)] : List (Nat × Nat × Nat × qm_C)), qm_CallOK RX12 2 44 q.2.1 q.1 q.2.2.1 q.2.2.2 := List.forall_mem_cons.mpr ⟨Or.inl ⟨yX12_is, cX12_is, 3, (some .boolean), 1, 22, _, sX12_is, ⟨by decide, by decide⟩, ⟨jX12_is, kRX12_257, uRX12⟩, ⟨by decide, by decide, rfl⟩, Or.inl ⟨rfl, rfl, iX12_is, recvX12_is⟩⟩, List.forall_mem_cons.mpr ⟨Or.inl ⟨yX12_hintOf, cX12_hintOf, 2, (some .int), 0, 0, _, sX12_hintOf, ⟨by decide, by decide⟩, ⟨jX12_hintOf, kRX12_468, uRX12⟩, ⟨by decide, by decide, rfl⟩, Or.inl ⟨rfl, rfl, iX12_hintOf, recvX12_hintOf⟩⟩, fun _ h => absurd h List.not_mem_nil⟩⟩
theorem sX12_hasClues : qm_Snd yX12_hasClues cX12_hasClues 2 (some .boolean) 2 44 wX12_hasClues := qm_met (fld := fun k => qm_lk k pfRX12) (con := fun k => qm_lk k pcRX12) (call := fun k => qm_lk k [(257, 0, 3, wX12_is), (468, 0, 2, wX12_hintOf)]) (tab := qm_tab aX12_hasClues) (plainFor_of_name (by decide)) (qm_fld_ok pfRX12_ok) (qm_con_ok pcRX12_ok) (fun idx kd n f hc => cX12_hasClues_ok (idx, kd, n, f) (qm_lk_mem hc)) (qm_tab_ok aX12_hasClues_ok) (fun vs h o hw => by
  unfold wX12_hasClues at hw
  split at hw
  · obtain ⟨r, hr, rfl⟩ := Option.map_eq_some_iff.mp hw
    exact ⟨Nat.le_of_ble_eq_true rfl, rX12_hasClues_0 (hr)⟩
  · cases hw)
theorem recvX12_hasClues : ∀ vs h o, wX12_hasClues vs h = some o → ∃ ci a rest, vs = qm_r 0 ci a :: rest ∧ qm_R ci = yX12_hasClues.cls := by
  intro vs h o hw
  unfold wX12_hasClues at hw
  split at hw
  · exact ⟨_, _, _, rfl, rfl⟩
  · cases hw
-- RX12 clues(II)I
theorem jX12_clues : Jvm.Cond.code yX12_clues cX12_clues 3 (some .int) ∈ qm_all := List.mem_filter.mpr ⟨by decide +kernel, rfl⟩
theorem iX12_clues : Jvm.Cond.instanceMethod yX12_clues ∈ qm_all ∧ Jvm.Cond.selects yX12_clues.cls yX12_clues yX12_clues ∈ qm_all := ⟨List.mem_filter.mpr ⟨by decide +kernel, rfl⟩, List.mem_filter.mpr ⟨by decide +kernel, rfl⟩⟩
def wX12_clues : qm_C := fun vs h => match vs with
  | [.inr (.inr (some (0, 12, p0))), .inl p1, .inl p2] => (qX12_clues p0 p1 p2 h).map qm_Gi
  | _ => none
def aX12_clues : List (Option (Instr × Nat)) := [some (.aload_n 0, 1), some (.iconst 0, 1), some (.putfield 88, 3), none, none, some (.aload_n 0, 1), some (.iload_n 1, 1), some (.invokevirtual 471, 3), none, none, some (.ifCond .ne 5, 3), none, none, some (.iconst (-1), 1), some (.ireturn, 1), some (.iload_n 2, 1), some (.bipush 10, 2), none, some (.bipush 39, 2), none, some (.invokestatic 100, 3), none, none, some (.ifCond .eq 39, 3), none, none, some (.iload_n 2, 1), some (.bipush 10, 2), none, some (.irem, 1), some (.aload_n 0, 1), some (.iconst 2, 1), some (.invokevirtual 468, 3), none, none, some (.if_icmp .ge 25, 3), none, none, some (.aload_n 0, 1), some (.iconst 3, 1), some (.iconst 3, 1), some (.iload_n 2, 1), some (.bipush 10, 2), none, some (.irem, 1), some (.imul, 1), some (.iadd, 1), some (.iload_n 2, 1), some (.bipush 10, 2), none, some (.idiv, 1), some (.iadd, 1), some (.iconst 1, 1), some (.isub, 1), some (.invokevirtual 468, 3), none, none, some (.goto 4, 3), none, none, some (.iconst (-1), 1), some (.ireturn, 1), some (.iload_n 2, 1), some (.iconst 0, 1), some (.iconst 2, 1), some (.invokestatic 100, 3), none, none, some (.ifCond .eq 11, 3), none, none, some (.aload_n 0, 1), some (.iload_n 2, 1), some (.invokevirtual 468, 3), none, none, some (.goto 4, 3), none, none, some (.iconst (-1), 1), some (.ireturn, 1)]
theorem aX12_clues_ok : qm_tabok cX12_clues aX12_clues = true := by decide +kernel
def mX12_clues : qm_M := ((some .int), (fun k => qm_lk k pfRX12), (fun k => qm_lk k pcRX12), (fun k => qm_lk k [(471, 0, 2, wX12_hasClues), (100, 2, 3, wX12_in), (468, 0, 2, wX12_hintOf)]), qm_tab aX12_clues)
set_option maxRecDepth 20000 in
set_option maxHeartbeats 2000000 in
theorem rX12_clues_0   {a0 : Nat} {x1 : Int32} {x2 : Int32} {h : qm_H} {r : Int32 × qm_H} (ho : qX12_clues  a0 x1 x2 h = some r) : qm_Ret mX12_clues (0, [some (qm_r 0 12 a0), some (qm_i x1), some (qm_i x2)], [], h) (qm_Gi r) := by
  unfold qX12_clues at ho
  refine qm_Ret.sts 3 (f' := (5, [some (qm_r 0 12 a0), some (qm_i x1), some (qm_i x2)], [], (qm_seti h a0 0 (0 : Int32)))) rfl ?_
  refine qm_Ret.lets (F := fun h1 => (5, [some (qm_r 0 12 a0), some (qm_i x1), some (qm_i x2)], [], h1)) (G := qm_Gi) ho (fun h1 ho => ?_)
  refine qm_Ret.sts 2 (f' := (7, [some (qm_r 0 12 a0), some (qm_i x1), some (qm_i x2)], [qm_i x1, qm_r 0 12 a0], h1)) rfl ?_
  obtain ⟨r3, h2, hr, ho⟩ := qm_b2e ho
  refine qm_Ret.call (X := wX12_hasClues [qm_r 0 12 a0, qm_i x1] h1) (o1 := (some (qm_i r3), h2)) (qm_mp (G := qm_Gi) hr) rfl ?_
  show qm_Ret _ (10, [some (qm_r 0 12 a0), some (qm_i x1), some (qm_i x2)], [qm_i r3], h2) _
  refine qm_Ret.ne (t := 15) (e := 13) rfl (fun hc => ?_) (fun hc => ?_)
  · rw [if_pos hc] at ho
    cases ho
    exact qm_Ret.ret 2 rfl
  · rw [if_neg hc] at ho
    refine qm_Ret.sts 3 (f' := (20, [some (qm_r 0 12 a0), some (qm_i x1), some (qm_i x2)], [qm_i (39 : Int32), qm_i (10 : Int32), qm_i x2], h2)) rfl ?_
    obtain ⟨r5, h4, hr, ho⟩ := qm_b2e ho
    refine qm_Ret.call (X := wX12_in [qm_i x2, qm_i (10 : Int32), qm_i (39 : Int32)] h2) (o1 := (some (qm_i r5), h4)) (qm_mp (G := qm_Gi) hr) rfl ?_
    show qm_Ret _ (23, [some (qm_r 0 12 a0), some (qm_i x1), some (qm_i x2)], [qm_i r5], h4) _
    refine qm_Ret.eq (t := 62) (e := 26) rfl (fun hc => ?_) (fun hc => ?_)
    · rw [if_pos hc] at ho
      refine qm_Ret.sts 3 (f' := (65, [some (qm_r 0 12 a0), some (qm_i x1), some (qm_i x2)], [qm_i (2 : Int32), qm_i (0 : Int32), qm_i x2], h4)) rfl ?_
      obtain ⟨r7, h6, hr, ho⟩ := qm_b2e ho
      refine qm_Ret.call (X := wX12_in [qm_i x2, qm_i (0 : Int32), qm_i (2 : Int32)] h4) (o1 := (some (qm_i r7), h6)) (qm_mp (G := qm_Gi) hr) rfl ?_
      show qm_Ret _ (68, [some (qm_r 0 12 a0), some (qm_i x1), some (qm_i x2)], [qm_i r7], h6) _
      refine qm_Ret.eq (t := 79) (e := 71) rfl (fun hc => ?_) (fun hc => ?_)
      · rw [if_pos hc] at ho
        cases ho
        exact qm_Ret.ret 2 rfl
      · rw [if_neg hc] at ho
        refine qm_Ret.sts 2 (f' := (73, [some (qm_r 0 12 a0), some (qm_i x1), some (qm_i x2)], [qm_i x2, qm_r 0 12 a0], h6)) rfl ?_
        obtain ⟨r9, h8, hr, ho⟩ := qm_b2e ho
        refine qm_Ret.call (X := wX12_hintOf [qm_r 0 12 a0, qm_i x2] h6) (o1 := (some (qm_i r9), h8)) (qm_mp (G := qm_Gi) hr) rfl ?_
        show qm_Ret _ (76, [some (qm_r 0 12 a0), some (qm_i x1), some (qm_i x2)], [qm_i r9], h8) _
        cases ho
        exact qm_Ret.ret 2 rfl
    · rw [if_neg hc] at ho
      refine qm_Ret.sts 5 (f' := (32, [some (qm_r 0 12 a0), some (qm_i x1), some (qm_i x2)], [qm_i (2 : Int32), qm_r 0 12 a0, qm_i (qm_irem x2 (10 : Int32))], h4)) rfl ?_
      obtain ⟨r11, h10, hr, ho⟩ := qm_b2e ho
      refine qm_Ret.call (X := wX12_hintOf [qm_r 0 12 a0, qm_i (2 : Int32)] h4) (o1 := (some (qm_i r11), h10)) (qm_mp (G := qm_Gi) hr) rfl ?_
      show qm_Ret _ (35, [some (qm_r 0 12 a0), some (qm_i x1), some (qm_i x2)], [qm_i r11, qm_i (qm_irem x2 (10 : Int32))], h10) _
      refine qm_Ret.ge (t := 60) (e := 38) rfl (fun hc => ?_) (fun hc => ?_)
      · rw [if_pos hc] at ho
        refine qm_Ret.sts 14 (f' := (54, [some (qm_r 0 12 a0), some (qm_i x1), some (qm_i x2)], [qm_i ((((3 : Int32) + ((3 : Int32) * (qm_irem x2 (10 : Int32)))) + (x2 / (10 : Int32))) - (1 : Int32)), qm_r 0 12 a0], h10)) rfl ?_
        obtain ⟨r13, h12, hr, ho⟩ := qm_b2e ho
        refine qm_Ret.call (X := wX12_hintOf [qm_r 0 12 a0, qm_i ((((3 : Int32) + ((3 : Int32) * (qm_irem x2 (10 : Int32)))) + (x2 / (10 : Int32))) - (1 : Int32))] h10) (o1 := (some (qm_i r13), h12)) (qm_mp (G := qm_Gi) hr) rfl ?_
        show qm_Ret _ (57, [some (qm_r 0 12 a0), some (qm_i x1), some (qm_i x2)], [qm_i r13], h12) _
        cases ho
        exact qm_Ret.ret 2 rfl
      · rw [if_neg hc] at ho
        cases ho
        exact qm_Ret.ret 2 rfl
theorem cX12_clues_ok : ∀ q ∈ ([(471, 0, 2, wX12_hasClues), (100, 2, 3, wX12_in), (468, 0, 2, wX12_hintOf)] : List (Nat × Nat × Nat × qm_C)), qm_CallOK RX12 3 65 q.2.1 q.1 q.2.2.1 q.2.2.2 := List.forall_mem_cons.mpr ⟨Or.inl ⟨yX12_hasClues, cX12_hasClues, 2, (some .boolean), 2, 44, _, sX12_hasClues, ⟨by decide, by decide⟩, ⟨jX12_hasClues, kRX12_471, uRX12⟩, ⟨by decide, by decide, rfl⟩, Or.inl ⟨rfl, rfl, iX12_hasClues, recvX12_hasClues⟩⟩, List.forall_mem_cons.mpr ⟨Or.inl ⟨yX12_in, cX12_in, 3, (some .boolean), 0, 0, _, sX12_in, ⟨by decide, by decide⟩, ⟨jX12_in, kRX12_100, uRX12⟩, ⟨by decide, by decide, rfl⟩, Or.inr (Or.inl ⟨rfl, rfl, iX12_in⟩)⟩, List.forall_mem_cons.mpr ⟨Or.inl ⟨yX12_hintOf, cX12_hintOf, 2, (some .int), 0, 0, _, sX12_hintOf, ⟨by decide, by decide⟩, ⟨jX12_hintOf, kRX12_468, uRX12⟩, ⟨by decide, by decide, rfl⟩, Or.inl ⟨rfl, rfl, iX12_hintOf, recvX12_hintOf⟩⟩, fun _ h => absurd h List.not_mem_nil⟩⟩⟩
theorem sX12_clues : qm_Snd yX12_clues cX12_clues 3 (some .int) 3 65 wX12_clues := qm_met (fld := fun k => qm_lk k pfRX12) (con := fun k => qm_lk k pcRX12) (call := fun k => qm_lk k [(471, 0, 2, wX12_hasClues), (100, 2, 3, wX12_in), (468, 0, 2, wX12_hintOf)]) (tab := qm_tab aX12_clues) (plainFor_of_name (by decide)) (qm_fld_ok pfRX12_ok) (qm_con_ok pcRX12_ok) (fun idx kd n f hc => cX12_clues_ok (idx, kd, n, f) (qm_lk_mem hc)) (qm_tab_ok aX12_clues_ok) (fun vs h o hw => by
  unfold wX12_clues at hw
  split at hw
  · obtain ⟨r, hr, rfl⟩ := Option.map_eq_some_iff.mp hw
    exact ⟨Nat.le_of_ble_eq_true rfl, rX12_clues_0 (hr)⟩
  · cases hw)
theorem recvX12_clues : ∀ vs h o, wX12_clues vs h = some o → ∃ ci a rest, vs = qm_r 0 ci a :: rest ∧ qm_R ci = yX12_clues.cls := by
  intro vs h o hw
  unfold wX12_clues at hw
  split at hw
  · exact ⟨_, _, _, rfl, rfl⟩
  · cases hw
-- RX12 widthOf(I)I
theorem jX12_widthOf : Jvm.Cond.code yX12_widthOf cX12_widthOf 1 (some .int) ∈ qm_all := List.mem_filter.mpr ⟨by decide +kernel, rfl⟩
theorem iX12_widthOf : Jvm.Cond.static yX12_widthOf ∈ qm_all := List.mem_filter.mpr ⟨by decide +kernel, rfl⟩
def wX12_widthOf : qm_C := fun vs h => match vs with
  | [.inl p0] => (qX12_widthOf p0 h).map qm_Gi
  | _ => none
def aX12_widthOf : List (Option (Instr × Nat)) := [some (.iload_n 0, 1), some (.bipush 64, 2), none, some (.idiv, 1), some (.bipush 8, 2), none, some (.irem, 1), some (.iconst 1, 1), some (.iadd, 1), some (.ireturn, 1)]
theorem aX12_widthOf_ok : qm_tabok cX12_widthOf aX12_widthOf = true := by decide +kernel
def mX12_widthOf : qm_M := ((some .int), (fun k => qm_lk k pfRX12), (fun k => qm_lk k pcRX12), (fun k => qm_lk k []), qm_tab aX12_widthOf)
set_option maxRecDepth 20000 in
set_option maxHeartbeats 2000000 in
theorem rX12_widthOf_0   {x0 : Int32} {h : qm_H} {r : Int32 × qm_H} (ho : qX12_widthOf  x0 h = some r) : qm_Ret mX12_widthOf (0, [some (qm_i x0)], [], h) (qm_Gi r) := by
  unfold qX12_widthOf at ho
  cases ho
  exact qm_Ret.ret 8 rfl
theorem cX12_widthOf_ok : ∀ q ∈ ([] : List (Nat × Nat × Nat × qm_C)), qm_CallOK RX12 0 0 q.2.1 q.1 q.2.2.1 q.2.2.2 := fun _ h => absurd h List.not_mem_nil
theorem sX12_widthOf : qm_Snd yX12_widthOf cX12_widthOf 1 (some .int) 0 0 wX12_widthOf := qm_met (fld := fun k => qm_lk k pfRX12) (con := fun k => qm_lk k pcRX12) (call := fun k => qm_lk k []) (tab := qm_tab aX12_widthOf) (plainFor_of_name (by decide)) (qm_fld_ok pfRX12_ok) (qm_con_ok pcRX12_ok) (fun idx kd n f hc => cX12_widthOf_ok (idx, kd, n, f) (qm_lk_mem hc)) (qm_tab_ok aX12_widthOf_ok) (fun vs h o hw => by
  unfold wX12_widthOf at hw
  split at hw
  · obtain ⟨r, hr, rfl⟩ := Option.map_eq_some_iff.mp hw
    exact ⟨Nat.le_of_ble_eq_true rfl, rX12_widthOf_0 (hr)⟩
  · cases hw)
-- RX12 heightOf(I)I
theorem jX12_heightOf : Jvm.Cond.code yX12_heightOf cX12_heightOf 1 (some .int) ∈ qm_all := List.mem_filter.mpr ⟨by decide +kernel, rfl⟩
theorem iX12_heightOf : Jvm.Cond.static yX12_heightOf ∈ qm_all := List.mem_filter.mpr ⟨by decide +kernel, rfl⟩
def wX12_heightOf : qm_C := fun vs h => match vs with
  | [.inl p0] => (qX12_heightOf p0 h).map qm_Gi
  | _ => none
def aX12_heightOf : List (Option (Instr × Nat)) := [some (.iload_n 0, 1), some (.sipush 512, 3), none, none, some (.idiv, 1), some (.iconst 1, 1), some (.iadd, 1), some (.ireturn, 1)]
theorem aX12_heightOf_ok : qm_tabok cX12_heightOf aX12_heightOf = true := by decide +kernel
def mX12_heightOf : qm_M := ((some .int), (fun k => qm_lk k pfRX12), (fun k => qm_lk k pcRX12), (fun k => qm_lk k []), qm_tab aX12_heightOf)
set_option maxRecDepth 20000 in
set_option maxHeartbeats 2000000 in
theorem rX12_heightOf_0   {x0 : Int32} {h : qm_H} {r : Int32 × qm_H} (ho : qX12_heightOf  x0 h = some r) : qm_Ret mX12_heightOf (0, [some (qm_i x0)], [], h) (qm_Gi r) := by
  unfold qX12_heightOf at ho
  cases ho
  exact qm_Ret.ret 6 rfl
theorem cX12_heightOf_ok : ∀ q ∈ ([] : List (Nat × Nat × Nat × qm_C)), qm_CallOK RX12 0 0 q.2.1 q.1 q.2.2.1 q.2.2.2 := fun _ h => absurd h List.not_mem_nil
theorem sX12_heightOf : qm_Snd yX12_heightOf cX12_heightOf 1 (some .int) 0 0 wX12_heightOf := qm_met (fld := fun k => qm_lk k pfRX12) (con := fun k => qm_lk k pcRX12) (call := fun k => qm_lk k []) (tab := qm_tab aX12_heightOf) (plainFor_of_name (by decide)) (qm_fld_ok pfRX12_ok) (qm_con_ok pcRX12_ok) (fun idx kd n f hc => cX12_heightOf_ok (idx, kd, n, f) (qm_lk_mem hc)) (qm_tab_ok aX12_heightOf_ok) (fun vs h o hw => by
  unfold wX12_heightOf at hw
  split at hw
  · obtain ⟨r, hr, rfl⟩ := Option.map_eq_some_iff.mp hw
    exact ⟨Nat.le_of_ble_eq_true rfl, rX12_heightOf_0 (hr)⟩
  · cases hw)
-- RX12 isInGap(III)Z
theorem jX12_isInGap : Jvm.Cond.code yX12_isInGap cX12_isInGap 5 (some .boolean) ∈ qm_all := List.mem_filter.mpr ⟨by decide +kernel, rfl⟩
theorem iX12_isInGap : Jvm.Cond.instanceMethod yX12_isInGap ∈ qm_all ∧ Jvm.Cond.selects yX12_isInGap.cls yX12_isInGap yX12_isInGap ∈ qm_all := ⟨List.mem_filter.mpr ⟨by decide +kernel, rfl⟩, List.mem_filter.mpr ⟨by decide +kernel, rfl⟩⟩
def wX12_isInGap : qm_C := fun vs h => match vs with
  | [.inr (.inr (some (0, 12, p0))), .inl p1, .inl p2, .inl p3] => (qX12_isInGap p0 p1 p2 p3 h).map qm_Gi
  | _ => none
def aX12_isInGap : List (Option (Instr × Nat)) := [some (.iload_n 1, 1), some (.bipush 64, 2), none, some (.irem, 1), some (.istore 4, 2), none, some (.iload_n 2, 1), some (.iload 4, 2), none, some (.aload_n 0, 1), some (.getfield 273, 3), none, none, some (.irem, 1), some (.isub, 1), some (.iconst 0, 1), some (.iload_n 1, 1), some (.invokestatic 474, 3), none, none, some (.iconst 1, 1), some (.isub, 1), some (.invokestatic 100, 3), none, none, some (.ifCond .eq 29, 3), none, none, some (.iload_n 3, 1), some (.iload 4, 2), none, some (.aload_n 0, 1), some (.getfield 273, 3), none, none, some (.idiv, 1), some (.isub, 1), some (.iconst 0, 1), some (.iload_n 1, 1), some (.invokestatic 477, 3), none, none, some (.iconst 1, 1), some (.isub, 1), some (.invokestatic 100, 3), none, none, some (.ifCond .eq 7, 3), none, none, some (.iconst 1, 1), some (.goto 4, 3), none, none, some (.iconst 0, 1), some (.ireturn, 1)]
theorem aX12_isInGap_ok : qm_tabok cX12_isInGap aX12_isInGap = true := by decide +kernel
def mX12_isInGap : qm_M := ((some .boolean), (fun k => qm_lk k pfRX12), (fun k => qm_lk k pcRX12), (fun k => qm_lk k [(474, 2, 1, wX12_widthOf), (100, 2, 3, wX12_in), (477, 2, 1, wX12_heightOf)]), qm_tab aX12_isInGap)
set_option maxRecDepth 20000 in
set_option maxHeartbeats 2000000 in
theorem rX12_isInGap_0   {a0 : Nat} {x1 : Int32} {x2 : Int32} {x3 : Int32} {h : qm_H} {r : Int32 × qm_H} (ho : qX12_isInGap  a0 x1 x2 x3 h = some r) : qm_Ret mX12_isInGap (0, [some (qm_r 0 12 a0), some (qm_i x1), some (qm_i x2), some (qm_i x3), none], [], h) (qm_Gi r) := by
  unfold qX12_isInGap at ho
  refine qm_Ret.sts 3 (f' := (4, [some (qm_r 0 12 a0), some (qm_i x1), some (qm_i x2), some (qm_i x3), none], [qm_i (qm_irem x1 (64 : Int32))], h)) rfl ?_
  refine qm_Ret.lets (F := fun v1 => (4, [some (qm_r 0 12 a0), some (qm_i x1), some (qm_i x2), some (qm_i x3), none], [qm_i v1], h)) (G := qm_Gi) ho (fun v1 ho => ?_)
  refine qm_Ret.sts 5 (f' := (13, [some (qm_r 0 12 a0), some (qm_i x1), some (qm_i x2), some (qm_i x3), some (qm_i v1)], [qm_i (h.1 a0 25), qm_i v1, qm_i x2], h)) rfl ?_
  obtain ⟨hg, ho⟩ := qm_ifn ho
  refine qm_Ret.gn (f1 := (14, [some (qm_r 0 12 a0), some (qm_i x1), some (qm_i x2), some (qm_i x3), some (qm_i v1)], [qm_i (qm_irem v1 (h.1 a0 25)), qm_i x2], h)) hg rfl ?_
  refine qm_Ret.sts 3 (f' := (17, [some (qm_r 0 12 a0), some (qm_i x1), some (qm_i x2), some (qm_i x3), some (qm_i v1)], [qm_i x1, qm_i (0 : Int32), qm_i (x2 - (qm_irem v1 (h.1 a0 25)))], h)) rfl ?_
  obtain ⟨r3, h2, hr, ho⟩ := qm_b2e ho
  refine qm_Ret.call (X := wX12_widthOf [qm_i x1] h) (o1 := (some (qm_i r3), h2)) (qm_mp (G := qm_Gi) hr) rfl ?_
  show qm_Ret _ (20, [some (qm_r 0 12 a0), some (qm_i x1), some (qm_i x2), some (qm_i x3), some (qm_i v1)], [qm_i r3, qm_i (0 : Int32), qm_i (x2 - (qm_irem v1 (h.1 a0 25)))], h2) _
  refine qm_Ret.sts 2 (f' := (22, [some (qm_r 0 12 a0), some (qm_i x1), some (qm_i x2), some (qm_i x3), some (qm_i v1)], [qm_i (r3 - (1 : Int32)), qm_i (0 : Int32), qm_i (x2 - (qm_irem v1 (h.1 a0 25)))], h2)) rfl ?_
  obtain ⟨r5, h4, hr, ho⟩ := qm_b2e ho
  refine qm_Ret.call (X := wX12_in [qm_i (x2 - (qm_irem v1 (h.1 a0 25))), qm_i (0 : Int32), qm_i (r3 - (1 : Int32))] h2) (o1 := (some (qm_i r5), h4)) (qm_mp (G := qm_Gi) hr) rfl ?_
  show qm_Ret _ (25, [some (qm_r 0 12 a0), some (qm_i x1), some (qm_i x2), some (qm_i x3), some (qm_i v1)], [qm_i r5], h4) _
  refine qm_Ret.eq (t := 54) (e := 28) rfl (fun hc => ?_) (fun hc => ?_)
  · rw [if_pos hc] at ho
    cases ho
    exact qm_Ret.ret 2 rfl
  · rw [if_neg hc] at ho
    refine qm_Ret.sts 4 (f' := (35, [some (qm_r 0 12 a0), some (qm_i x1), some (qm_i x2), some (qm_i x3), some (qm_i v1)], [qm_i (h4.1 a0 25), qm_i v1, qm_i x3], h4)) rfl ?_
    obtain ⟨hg, ho⟩ := qm_ifn ho
    refine qm_Ret.gn (f1 := (36, [some (qm_r 0 12 a0), some (qm_i x1), some (qm_i x2), some (qm_i x3), some (qm_i v1)], [qm_i (v1 / (h4.1 a0 25)), qm_i x3], h4)) hg rfl ?_
    refine qm_Ret.sts 3 (f' := (39, [some (qm_r 0 12 a0), some (qm_i x1), some (qm_i x2), some (qm_i x3), some (qm_i v1)], [qm_i x1, qm_i (0 : Int32), qm_i (x3 - (v1 / (h4.1 a0 25)))], h4)) rfl ?_
    obtain ⟨r7, h6, hr, ho⟩ := qm_b2e ho
    refine qm_Ret.call (X := wX12_heightOf [qm_i x1] h4) (o1 := (some (qm_i r7), h6)) (qm_mp (G := qm_Gi) hr) rfl ?_
    show qm_Ret _ (42, [some (qm_r 0 12 a0), some (qm_i x1), some (qm_i x2), some (qm_i x3), some (qm_i v1)], [qm_i r7, qm_i (0 : Int32), qm_i (x3 - (v1 / (h4.1 a0 25)))], h6) _
    refine qm_Ret.sts 2 (f' := (44, [some (qm_r 0 12 a0), some (qm_i x1), some (qm_i x2), some (qm_i x3), some (qm_i v1)], [qm_i (r7 - (1 : Int32)), qm_i (0 : Int32), qm_i (x3 - (v1 / (h4.1 a0 25)))], h6)) rfl ?_
    obtain ⟨r9, h8, hr, ho⟩ := qm_b2e ho
    refine qm_Ret.call (X := wX12_in [qm_i (x3 - (v1 / (h4.1 a0 25))), qm_i (0 : Int32), qm_i (r7 - (1 : Int32))] h6) (o1 := (some (qm_i r9), h8)) (qm_mp (G := qm_Gi) hr) rfl ?_
    show qm_Ret _ (47, [some (qm_r 0 12 a0), some (qm_i x1), some (qm_i x2), some (qm_i x3), some (qm_i v1)], [qm_i r9], h8) _
    refine qm_Ret.eq (t := 54) (e := 50) rfl (fun hc => ?_) (fun hc => ?_)
    · rw [if_pos hc] at ho
      cases ho
      exact qm_Ret.ret 2 rfl
    · rw [if_neg hc] at ho
      cases ho
      exact qm_Ret.ret 3 rfl
theorem cX12_isInGap_ok : ∀ q ∈ ([(474, 2, 1, wX12_widthOf), (100, 2, 3, wX12_in), (477, 2, 1, wX12_heightOf)] : List (Nat × Nat × Nat × qm_C)), qm_CallOK RX12 1 22 q.2.1 q.1 q.2.2.1 q.2.2.2 := List.forall_mem_cons.mpr ⟨Or.inl ⟨yX12_widthOf, cX12_widthOf, 1, (some .int), 0, 0, _, sX12_widthOf, ⟨by decide, by decide⟩, ⟨jX12_widthOf, kRX12_474, uRX12⟩, ⟨by decide, by decide, rfl⟩, Or.inr (Or.inl ⟨rfl, rfl, iX12_widthOf⟩)⟩, List.forall_mem_cons.mpr ⟨Or.inl ⟨yX12_in, cX12_in, 3, (some .boolean), 0, 0, _, sX12_in, ⟨by decide, by decide⟩, ⟨jX12_in, kRX12_100, uRX12⟩, ⟨by decide, by decide, rfl⟩, Or.inr (Or.inl ⟨rfl, rfl, iX12_in⟩)⟩, List.forall_mem_cons.mpr ⟨Or.inl ⟨yX12_heightOf, cX12_heightOf, 1, (some .int), 0, 0, _, sX12_heightOf, ⟨by decide, by decide⟩, ⟨jX12_heightOf, kRX12_477, uRX12⟩, ⟨by decide, by decide, rfl⟩, Or.inr (Or.inl ⟨rfl, rfl, iX12_heightOf⟩)⟩, fun _ h => absurd h List.not_mem_nil⟩⟩⟩
theorem sX12_isInGap : qm_Snd yX12_isInGap cX12_isInGap 5 (some .boolean) 1 22 wX12_isInGap := qm_met (fld := fun k => qm_lk k pfRX12) (con := fun k => qm_lk k pcRX12) (call := fun k => qm_lk k [(474, 2, 1, wX12_widthOf), (100, 2, 3, wX12_in), (477, 2, 1, wX12_heightOf)]) (tab := qm_tab aX12_isInGap) (plainFor_of_name (by decide)) (qm_fld_ok pfRX12_ok) (qm_con_ok pcRX12_ok) (fun idx kd n f hc => cX12_isInGap_ok (idx, kd, n, f) (qm_lk_mem hc)) (qm_tab_ok aX12_isInGap_ok) (fun vs h o hw => by
  unfold wX12_isInGap at hw
  split at hw
  · obtain ⟨r, hr, rfl⟩ := Option.map_eq_some_iff.mp hw
    exact ⟨Nat.le_of_ble_eq_true rfl, rX12_isInGap_0 (hr)⟩
  · cases hw)
theorem recvX12_isInGap : ∀ vs h o, wX12_isInGap vs h = some o → ∃ ci a rest, vs = qm_r 0 ci a :: rest ∧ qm_R ci = yX12_isInGap.cls := by
  intro vs h o hw
  unfold wX12_isInGap at hw
  split at hw
  · exact ⟨_, _, _, rfl, rfl⟩
  · cases hw
-- RX12 isSo(I)Z
theorem jX12_isSo : Jvm.Cond.code yX12_isSo cX12_isSo 7 (some .boolean) ∈ qm_all := List.mem_filter.mpr ⟨by decide +kernel, rfl⟩
theorem iX12_isSo : Jvm.Cond.instanceMethod yX12_isSo ∈ qm_all ∧ Jvm.Cond.selects yX12_isSo.cls yX12_isSo yX12_isSo ∈ qm_all := ⟨List.mem_filter.mpr ⟨by decide +kernel, rfl⟩, List.mem_filter.mpr ⟨by decide +kernel, rfl⟩⟩
def wX12_isSo : qm_C := fun vs h => match vs with
  | [.inr (.inr (some (0, 12, p0))), .inl p1] => (qX12_isSo p0 p1 h).map qm_Gi
  | _ => none
def aX12_isSo : List (Option (Instr × Nat)) := [some (.iconst 0, 1), some (.istore_n 2, 1), some (.iload_n 2, 1), some (.aload_n 0, 1), some (.iconst 2, 1), some (.invokevirtual 468, 3), none, none, some (.if_icmp .ge 101, 3), none, none, some (.aload_n 0, 1), some (.iconst 3, 1), some (.iconst 3, 1), some (.iload_n 2, 1), some (.imul, 1), some (.iadd, 1), some (.invokevirtual 468, 3), none, none, some (.istore_n 3, 1), some (.aload_n 0, 1), some (.iconst 4, 1), some (.iconst 3, 1), some (.iload_n 2, 1), some (.imul, 1), some (.iadd, 1), some (.invokevirtual 468, 3), none, none, some (.istore 4, 2), none, some (.aload_n 0, 1), some (.iconst 5, 1), some (.iconst 3, 1), some (.iload_n 2, 1), some (.imul, 1), some (.iadd, 1), some (.invokevirtual 468, 3), none, none, some (.istore 5, 2), none, some (.iload_n 3, 1), some (.iconst 2, 1), some (.if_icmp .ge 15, 3), none, none, some (.aload_n 0, 1), some (.iload_n 1, 1), some (.iload 4, 2), none, some (.iload 5, 2), none, some (.invokevirtual 480, 3), none, none, some (.goto 26, 3), none, none, some (.iload 4, 2), none, some (.iload_n 1, 1), some (.invokestatic 474, 3), none, none, some (.if_icmp .gt 16, 3), none, none, some (.iload 5, 2), none, some (.iload_n 1, 1), some (.invokestatic 477, 3), none, none, some (.if_icmp .gt 7, 3), none, none, some (.iconst 1, 1), some (.goto 4, 3), none, none, some (.iconst 0, 1), some (.istore 6, 2), none, some (.iload 6, 2), none, some (.iload_n 3, 1), some (.iconst 2, 1), some (.irem, 1), some (.ifCond .ne 7, 3), none, none, some (.iconst 1, 1), some (.goto 4, 3), none, none, some (.iconst 0, 1), some (.if_icmp .eq 5, 3), none, none, some (.iconst 0, 1), some (.ireturn, 1), some (.iinc 2 1, 3), none, none, some (.goto (-104), 3), none, none, some (.iconst 1, 1), some (.ireturn, 1)]
theorem aX12_isSo_ok : qm_tabok cX12_isSo aX12_isSo = true := by decide +kernel
def mX12_isSo : qm_M := ((some .boolean), (fun k => qm_lk k pfRX12), (fun k => qm_lk k pcRX12), (fun k => qm_lk k [(468, 0, 2, wX12_hintOf), (474, 2, 1, wX12_widthOf), (477, 2, 1, wX12_heightOf), (480, 0, 4, wX12_isInGap)]), qm_tab aX12_isSo)
set_option maxRecDepth 20000 in
set_option maxHeartbeats 2000000 in
theorem rX12_isSo_83 {K2 : Nat → Int32 → Int32 → qm_H → Option (Int32 × qm_H)} (H2 : ∀ {a0 : Nat} {x1 : Int32} {x2 : Int32} {d3 : Option qm_V} {d4 : Option qm_V} {d5 : Option qm_V} {d6 : Option qm_V} {h : qm_H} {r : Int32 × qm_H}, K2 a0 x1 x2 h = some r → qm_Ret mX12_isSo (2, [some (qm_r 0 12 a0), some (qm_i x1), some (qm_i x2), d3, d4, d5, d6], [], h) (qm_Gi r)) {a0 : Nat} {x1 : Int32} {x2 : Int32} {x3 : Int32} {xs0 : Int32} {xd4 : Int32} {xd5 : Int32} {d6 : Option qm_V} {h : qm_H} {r : Int32 × qm_H} (ho : qX12_isSo_83 K2 a0 x1 x2 x3 xs0 h = some r) : qm_Ret mX12_isSo (83, [some (qm_r 0 12 a0), some (qm_i x1), some (qm_i x2), some (qm_i x3), some (qm_i xd4), some (qm_i xd5), d6], [qm_i xs0], h) (qm_Gi r) := by
  unfold qX12_isSo_83 at ho
  refine qm_Ret.sts 5 (f' := (90, [some (qm_r 0 12 a0), some (qm_i x1), some (qm_i x2), some (qm_i x3), some (qm_i xd4), some (qm_i xd5), some (qm_i xs0)], [qm_i (qm_irem x3 (2 : Int32)), qm_i xs0], h)) rfl ?_
  refine qm_Ret.ne (t := 97) (e := 93) rfl (fun hc => ?_) (fun hc => ?_)
  · rw [if_pos hc] at ho
    refine qm_Ret.sts 2 (f' := (98, [some (qm_r 0 12 a0), some (qm_i x1), some (qm_i x2), some (qm_i x3), some (qm_i xd4), some (qm_i xd5), some (qm_i xs0)], [qm_i (1 : Int32), qm_i xs0], h)) rfl ?_
    refine qm_Ret.eq (t := 103) (e := 101) rfl (fun hc => ?_) (fun hc => ?_)
    · rw [if_pos hc] at ho
      refine qm_Ret.sts 2 (f' := (2, [some (qm_r 0 12 a0), some (qm_i x1), some (qm_i (x2 + (1 : Int32))), some (qm_i x3), some (qm_i xd4), some (qm_i xd5), some (qm_i xs0)], [], h)) rfl ?_
      exact H2 ho
    · rw [if_neg hc] at ho
      cases ho
      exact qm_Ret.ret 2 rfl
  · rw [if_neg hc] at ho
    refine qm_Ret.sts 1 (f' := (98, [some (qm_r 0 12 a0), some (qm_i x1), some (qm_i x2), some (qm_i x3), some (qm_i xd4), some (qm_i xd5), some (qm_i xs0)], [qm_i (0 : Int32), qm_i xs0], h)) rfl ?_
    refine qm_Ret.eq (t := 103) (e := 101) rfl (fun hc => ?_) (fun hc => ?_)
    · rw [if_pos hc] at ho
      refine qm_Ret.sts 2 (f' := (2, [some (qm_r 0 12 a0), some (qm_i x1), some (qm_i (x2 + (1 : Int32))), some (qm_i x3), some (qm_i xd4), some (qm_i xd5), some (qm_i xs0)], [], h)) rfl ?_
      exact H2 ho
    · rw [if_neg hc] at ho
      cases ho
      exact qm_Ret.ret 2 rfl
set_option maxRecDepth 20000 in
set_option maxHeartbeats 2000000 in
theorem rX12_isSo_2   : ∀ {fuel : Nat} {a0 : Nat} {x1 : Int32} {x2 : Int32} {d3 : Option qm_V} {d4 : Option qm_V} {d5 : Option qm_V} {d6 : Option qm_V} {h : qm_H} {r : Int32 × qm_H}, qX12_isSo_2  fuel a0 x1 x2 h = some r → qm_Ret mX12_isSo (2, [some (qm_r 0 12 a0), some (qm_i x1), some (qm_i x2), d3, d4, d5, d6], [], h) (qm_Gi r) := by
  intro fuel
  induction fuel with
  | zero => intros; rename_i ho; cases ho
  | succ n ih =>
    intro a0 x1 x2 d3 d4 d5 d6 h r ho
    unfold qX12_isSo_2 at ho
    refine qm_Ret.sts 3 (f' := (5, [some (qm_r 0 12 a0), some (qm_i x1), some (qm_i x2), d3, d4, d5, d6], [qm_i (2 : Int32), qm_r 0 12 a0, qm_i x2], h)) rfl ?_
    obtain ⟨r2, h1, hr, ho⟩ := qm_b2e ho
    refine qm_Ret.call (X := wX12_hintOf [qm_r 0 12 a0, qm_i (2 : Int32)] h) (o1 := (some (qm_i r2), h1)) (qm_mp (G := qm_Gi) hr) rfl ?_
    show qm_Ret _ (8, [some (qm_r 0 12 a0), some (qm_i x1), some (qm_i x2), d3, d4, d5, d6], [qm_i r2, qm_i x2], h1) _
    refine qm_Ret.ge (t := 109) (e := 11) rfl (fun hc => ?_) (fun hc => ?_)
    · rw [if_pos hc] at ho
      refine qm_Ret.sts 6 (f' := (17, [some (qm_r 0 12 a0), some (qm_i x1), some (qm_i x2), d3, d4, d5, d6], [qm_i ((3 : Int32) + ((3 : Int32) * x2)), qm_r 0 12 a0], h1)) rfl ?_
      obtain ⟨r4, h3, hr, ho⟩ := qm_b2e ho
      refine qm_Ret.call (X := wX12_hintOf [qm_r 0 12 a0, qm_i ((3 : Int32) + ((3 : Int32) * x2))] h1) (o1 := (some (qm_i r4), h3)) (qm_mp (G := qm_Gi) hr) rfl ?_
      show qm_Ret _ (20, [some (qm_r 0 12 a0), some (qm_i x1), some (qm_i x2), d3, d4, d5, d6], [qm_i r4], h3) _
      refine qm_Ret.sts 7 (f' := (27, [some (qm_r 0 12 a0), some (qm_i x1), some (qm_i x2), some (qm_i r4), d4, d5, d6], [qm_i ((4 : Int32) + ((3 : Int32) * x2)), qm_r 0 12 a0], h3)) rfl ?_
      obtain ⟨r6, h5, hr, ho⟩ := qm_b2e ho
      refine qm_Ret.call (X := wX12_hintOf [qm_r 0 12 a0, qm_i ((4 : Int32) + ((3 : Int32) * x2))] h3) (o1 := (some (qm_i r6), h5)) (qm_mp (G := qm_Gi) hr) rfl ?_
      show qm_Ret _ (30, [some (qm_r 0 12 a0), some (qm_i x1), some (qm_i x2), some (qm_i r4), d4, d5, d6], [qm_i r6], h5) _
      refine qm_Ret.sts 7 (f' := (38, [some (qm_r 0 12 a0), some (qm_i x1), some (qm_i x2), some (qm_i r4), some (qm_i r6), d5, d6], [qm_i ((5 : Int32) + ((3 : Int32) * x2)), qm_r 0 12 a0], h5)) rfl ?_
      obtain ⟨r8, h7, hr, ho⟩ := qm_b2e ho
      refine qm_Ret.call (X := wX12_hintOf [qm_r 0 12 a0, qm_i ((5 : Int32) + ((3 : Int32) * x2))] h5) (o1 := (some (qm_i r8), h7)) (qm_mp (G := qm_Gi) hr) rfl ?_
      show qm_Ret _ (41, [some (qm_r 0 12 a0), some (qm_i x1), some (qm_i x2), some (qm_i r4), some (qm_i r6), d5, d6], [qm_i r8], h7) _
      refine qm_Ret.sts 3 (f' := (45, [some (qm_r 0 12 a0), some (qm_i x1), some (qm_i x2), some (qm_i r4), some (qm_i r6), some (qm_i r8), d6], [qm_i (2 : Int32), qm_i r4], h7)) rfl ?_
      refine qm_Ret.ge (t := 60) (e := 48) rfl (fun hc => ?_) (fun hc => ?_)
      · rw [if_pos hc] at ho
        refine qm_Ret.sts 4 (f' := (54, [some (qm_r 0 12 a0), some (qm_i x1), some (qm_i x2), some (qm_i r4), some (qm_i r6), some (qm_i r8), d6], [qm_i r8, qm_i r6, qm_i x1, qm_r 0 12 a0], h7)) rfl ?_
        obtain ⟨r14, h13, hr, ho⟩ := qm_b2e ho
        refine qm_Ret.call (X := wX12_isInGap [qm_r 0 12 a0, qm_i x1, qm_i r6, qm_i r8] h7) (o1 := (some (qm_i r14), h13)) (qm_mp (G := qm_Gi) hr) rfl ?_
        show qm_Ret _ (57, [some (qm_r 0 12 a0), some (qm_i x1), some (qm_i x2), some (qm_i r4), some (qm_i r6), some (qm_i r8), d6], [qm_i r14], h13) _
        refine qm_Ret.sts 1 (f' := (83, [some (qm_r 0 12 a0), some (qm_i x1), some (qm_i x2), some (qm_i r4), some (qm_i r6), some (qm_i r8), d6], [qm_i r14], h13)) rfl ?_
        exact rX12_isSo_83 (ih) ho
      · rw [if_neg hc] at ho
        refine qm_Ret.sts 2 (f' := (63, [some (qm_r 0 12 a0), some (qm_i x1), some (qm_i x2), some (qm_i r4), some (qm_i r6), some (qm_i r8), d6], [qm_i x1, qm_i r6], h7)) rfl ?_
        obtain ⟨r10, h9, hr, ho⟩ := qm_b2e ho
        refine qm_Ret.call (X := wX12_widthOf [qm_i x1] h7) (o1 := (some (qm_i r10), h9)) (qm_mp (G := qm_Gi) hr) rfl ?_
        show qm_Ret _ (66, [some (qm_r 0 12 a0), some (qm_i x1), some (qm_i x2), some (qm_i r4), some (qm_i r6), some (qm_i r8), d6], [qm_i r10, qm_i r6], h9) _
        refine qm_Ret.gt (t := 82) (e := 69) rfl (fun hc => ?_) (fun hc => ?_)
        · rw [if_pos hc] at ho
          refine qm_Ret.sts 1 (f' := (83, [some (qm_r 0 12 a0), some (qm_i x1), some (qm_i x2), some (qm_i r4), some (qm_i r6), some (qm_i r8), d6], [qm_i (0 : Int32)], h9)) rfl ?_
          exact rX12_isSo_83 (ih) ho
        · rw [if_neg hc] at ho
          refine qm_Ret.sts 2 (f' := (72, [some (qm_r 0 12 a0), some (qm_i x1), some (qm_i x2), some (qm_i r4), some (qm_i r6), some (qm_i r8), d6], [qm_i x1, qm_i r8], h9)) rfl ?_
          obtain ⟨r12, h11, hr, ho⟩ := qm_b2e ho
          refine qm_Ret.call (X := wX12_heightOf [qm_i x1] h9) (o1 := (some (qm_i r12), h11)) (qm_mp (G := qm_Gi) hr) rfl ?_
          show qm_Ret _ (75, [some (qm_r 0 12 a0), some (qm_i x1), some (qm_i x2), some (qm_i r4), some (qm_i r6), some (qm_i r8), d6], [qm_i r12, qm_i r8], h11) _
          refine qm_Ret.gt (t := 82) (e := 78) rfl (fun hc => ?_) (fun hc => ?_)
          · rw [if_pos hc] at ho
            refine qm_Ret.sts 1 (f' := (83, [some (qm_r 0 12 a0), some (qm_i x1), some (qm_i x2), some (qm_i r4), some (qm_i r6), some (qm_i r8), d6], [qm_i (0 : Int32)], h11)) rfl ?_
            exact rX12_isSo_83 (ih) ho
          · rw [if_neg hc] at ho
            refine qm_Ret.sts 2 (f' := (83, [some (qm_r 0 12 a0), some (qm_i x1), some (qm_i x2), some (qm_i r4), some (qm_i r6), some (qm_i r8), d6], [qm_i (1 : Int32)], h11)) rfl ?_
            exact rX12_isSo_83 (ih) ho
    · rw [if_neg hc] at ho
      cases ho
      exact qm_Ret.ret 2 rfl
set_option maxRecDepth 20000 in
set_option maxHeartbeats 2000000 in
theorem rX12_isSo_0   {a0 : Nat} {x1 : Int32} {h : qm_H} {r : Int32 × qm_H} (ho : qX12_isSo  a0 x1 h = some r) : qm_Ret mX12_isSo (0, [some (qm_r 0 12 a0), some (qm_i x1), none, none, none, none, none], [], h) (qm_Gi r) := by
  unfold qX12_isSo at ho
  refine qm_Ret.sts 2 (f' := (2, [some (qm_r 0 12 a0), some (qm_i x1), some (qm_i (0 : Int32)), none, none, none, none], [], h)) rfl ?_
  exact rX12_isSo_2 ho
theorem cX12_isSo_ok : ∀ q ∈ ([(468, 0, 2, wX12_hintOf), (474, 2, 1, wX12_widthOf), (477, 2, 1, wX12_heightOf), (480, 0, 4, wX12_isInGap)] : List (Nat × Nat × Nat × qm_C)), qm_CallOK RX12 2 46 q.2.1 q.1 q.2.2.1 q.2.2.2 := List.forall_mem_cons.mpr ⟨Or.inl ⟨yX12_hintOf, cX12_hintOf, 2, (some .int), 0, 0, _, sX12_hintOf, ⟨by decide, by decide⟩, ⟨jX12_hintOf, kRX12_468, uRX12⟩, ⟨by decide, by decide, rfl⟩, Or.inl ⟨rfl, rfl, iX12_hintOf, recvX12_hintOf⟩⟩, List.forall_mem_cons.mpr ⟨Or.inl ⟨yX12_widthOf, cX12_widthOf, 1, (some .int), 0, 0, _, sX12_widthOf, ⟨by decide, by decide⟩, ⟨jX12_widthOf, kRX12_474, uRX12⟩, ⟨by decide, by decide, rfl⟩, Or.inr (Or.inl ⟨rfl, rfl, iX12_widthOf⟩)⟩, List.forall_mem_cons.mpr ⟨Or.inl ⟨yX12_heightOf, cX12_heightOf, 1, (some .int), 0, 0, _, sX12_heightOf, ⟨by decide, by decide⟩, ⟨jX12_heightOf, kRX12_477, uRX12⟩, ⟨by decide, by decide, rfl⟩, Or.inr (Or.inl ⟨rfl, rfl, iX12_heightOf⟩)⟩, List.forall_mem_cons.mpr ⟨Or.inl ⟨yX12_isInGap, cX12_isInGap, 5, (some .boolean), 1, 22, _, sX12_isInGap, ⟨by decide, by decide⟩, ⟨jX12_isInGap, kRX12_480, uRX12⟩, ⟨by decide, by decide, rfl⟩, Or.inl ⟨rfl, rfl, iX12_isInGap, recvX12_isInGap⟩⟩, fun _ h => absurd h List.not_mem_nil⟩⟩⟩⟩
theorem sX12_isSo : qm_Snd yX12_isSo cX12_isSo 7 (some .boolean) 2 46 wX12_isSo := qm_met (fld := fun k => qm_lk k pfRX12) (con := fun k => qm_lk k pcRX12) (call := fun k => qm_lk k [(468, 0, 2, wX12_hintOf), (474, 2, 1, wX12_widthOf), (477, 2, 1, wX12_heightOf), (480, 0, 4, wX12_isInGap)]) (tab := qm_tab aX12_isSo) (plainFor_of_name (by decide)) (qm_fld_ok pfRX12_ok) (qm_con_ok pcRX12_ok) (fun idx kd n f hc => cX12_isSo_ok (idx, kd, n, f) (qm_lk_mem hc)) (qm_tab_ok aX12_isSo_ok) (fun vs h o hw => by
  unfold wX12_isSo at hw
  split at hw
  · obtain ⟨r, hr, rfl⟩ := Option.map_eq_some_iff.mp hw
    exact ⟨Nat.le_of_ble_eq_true rfl, rX12_isSo_0 (hr)⟩
  · cases hw)
theorem recvX12_isSo : ∀ vs h o, wX12_isSo vs h = some o → ∃ ci a rest, vs = qm_r 0 ci a :: rest ∧ qm_R ci = yX12_isSo.cls := by
  intro vs h o hw
  unfold wX12_isSo at hw
  split at hw
  · exact ⟨_, _, _, rfl, rfl⟩
  · cases hw
-- RX12 findFitting()V
theorem jX12_findFitting : Jvm.Cond.code yX12_findFitting cX12_findFitting 3 none ∈ qm_all := List.mem_filter.mpr ⟨by decide +kernel, rfl⟩
theorem iX12_findFitting : Jvm.Cond.instanceMethod yX12_findFitting ∈ qm_all ∧ Jvm.Cond.selects yX12_findFitting.cls yX12_findFitting yX12_findFitting ∈ qm_all := ⟨List.mem_filter.mpr ⟨by decide +kernel, rfl⟩, List.mem_filter.mpr ⟨by decide +kernel, rfl⟩⟩
def wX12_findFitting : qm_C := fun vs h => match vs with
  | [.inr (.inr (some (0, 12, p0)))] => (qX12_findFitting p0 h).map qm_Gv
  | _ => none
def aX12_findFitting : List (Option (Instr × Nat)) := [some (.aload_n 0, 1), some (.iconst 0, 1), some (.putfield 483, 3), none, none, some (.iconst 0, 1), some (.istore_n 1, 1), some (.iload_n 1, 1), some (.sipush 4096, 3), none, none, some (.if_icmp .ge 99, 3), none, none, some (.iload_n 1, 1), some (.invokestatic 474, 3), none, none, some (.aload_n 0, 1), some (.getfield 273, 3), none, none, some (.if_icmp .gt 48, 3), none, none, some (.iload_n 1, 1), some (.invokestatic 477, 3), none, none, some (.aload_n 0, 1), some (.getfield 276, 3), none, none, some (.if_icmp .gt 37, 3), none, none, some (.iload_n 1, 1), some (.bipush 64, 2), none, some (.irem, 1), some (.aload_n 0, 1), some (.getfield 279, 3), none, none, some (.if_icmp .ge 26, 3), none, none, some (.aload_n 0, 1), some (.iload_n 1, 1), some (.bipush 64, 2), none, some (.irem, 1), some (.iload_n 1, 1), some (.invokestatic 474, 3), none, none, some (.iload_n 1, 1), some (.invokestatic 477, 3), none, none, some (.invokevirtual 294, 3), none, none, some (.ifCond .eq 7, 3), none, none, some (.iconst 1, 1), some (.goto 4, 3), none, none, some (.iconst 0, 1), some (.istore_n 2, 1), some (.iload_n 2, 1), some (.ifCond .eq 31, 3), none, none, some (.aload_n 0, 1), some (.iload_n 1, 1), some (.invokevirtual 486, 3), none, none, some (.ifCond .eq 23, 3), none, none, some (.aload_n 0, 1), some (.getfield 81, 3), none, none, some (.aload_n 0, 1), some (.getfield 483, 3), none, none, some (.iload_n 1, 1), some (.iastore, 1), some (.aload_n 0, 1), some (.dup, 1), some (.getfield 483, 3), none, none, some (.iconst 1, 1), some (.iadd, 1), some (.putfield 483, 3), none, none, some (.iinc 1 1, 3), none, none, some (.goto (-100), 3), none, none, some (.return_, 1)]
theorem aX12_findFitting_ok : qm_tabok cX12_findFitting aX12_findFitting = true := by decide +kernel
def mX12_findFitting : qm_M := (none, (fun k => qm_lk k pfRX12), (fun k => qm_lk k pcRX12), (fun k => qm_lk k [(486, 0, 2, wX12_isSo), (474, 2, 1, wX12_widthOf), (477, 2, 1, wX12_heightOf), (294, 0, 4, wX12_isPlace)]), qm_tab aX12_findFitting)
set_option maxRecDepth 20000 in
set_option maxHeartbeats 2000000 in
theorem rX12_findFitting_71 {K7 : Nat → Int32 → qm_H → Option (qm_H)} (H7 : ∀ {a0 : Nat} {x1 : Int32} {d2 : Option qm_V} {h : qm_H} {r : qm_H}, K7 a0 x1 h = some r → qm_Ret mX12_findFitting (7, [some (qm_r 0 12 a0), some (qm_i x1), d2], [], h) (qm_Gv r)) {a0 : Nat} {x1 : Int32} {xs0 : Int32} {d2 : Option qm_V} {h : qm_H} {r : qm_H} (ho : qX12_findFitting_71 K7 a0 x1 xs0 h = some r) : qm_Ret mX12_findFitting (71, [some (qm_r 0 12 a0), some (qm_i x1), d2], [qm_i xs0], h) (qm_Gv r) := by
  unfold qX12_findFitting_71 at ho
  refine qm_Ret.sts 2 (f' := (73, [some (qm_r 0 12 a0), some (qm_i x1), some (qm_i xs0)], [qm_i xs0], h)) rfl ?_
  refine qm_Ret.eq (t := 104) (e := 76) rfl (fun hc => ?_) (fun hc => ?_)
  · rw [if_pos hc] at ho
    refine qm_Ret.sts 2 (f' := (7, [some (qm_r 0 12 a0), some (qm_i (x1 + (1 : Int32))), some (qm_i xs0)], [], h)) rfl ?_
    exact H7 ho
  · rw [if_neg hc] at ho
    refine qm_Ret.sts 2 (f' := (78, [some (qm_r 0 12 a0), some (qm_i x1), some (qm_i xs0)], [qm_i x1, qm_r 0 12 a0], h)) rfl ?_
    obtain ⟨r2, h1, hr, ho⟩ := qm_b2e ho
    refine qm_Ret.call (X := wX12_isSo [qm_r 0 12 a0, qm_i x1] h) (o1 := (some (qm_i r2), h1)) (qm_mp (G := qm_Gi) hr) rfl ?_
    show qm_Ret _ (81, [some (qm_r 0 12 a0), some (qm_i x1), some (qm_i xs0)], [qm_i r2], h1) _
    refine qm_Ret.eq (t := 104) (e := 84) rfl (fun hc => ?_) (fun hc => ?_)
    · rw [if_pos hc] at ho
      refine qm_Ret.sts 2 (f' := (7, [some (qm_r 0 12 a0), some (qm_i (x1 + (1 : Int32))), some (qm_i xs0)], [], h1)) rfl ?_
      exact H7 ho
    · rw [if_neg hc] at ho
      refine qm_Ret.sts 5 (f' := (93, [some (qm_r 0 12 a0), some (qm_i x1), some (qm_i xs0)], [qm_i x1, qm_i (h1.1 a0 47), qm_r 1 1296 (a0 + 24)], h1)) rfl ?_
      obtain ⟨hg, ho⟩ := qm_ifn ho
      refine qm_Ret.gn (f1 := (94, [some (qm_r 0 12 a0), some (qm_i x1), some (qm_i xs0)], [], (qm_seti h1 (a0 + 24) (h1.1 a0 47).toNatClampNeg x1))) hg rfl ?_
      refine qm_Ret.lets (F := fun h3 => (94, [some (qm_r 0 12 a0), some (qm_i x1), some (qm_i xs0)], [], h3)) (G := qm_Gv) ho (fun h3 ho => ?_)
      refine qm_Ret.sts 6 (f' := (104, [some (qm_r 0 12 a0), some (qm_i x1), some (qm_i xs0)], [], (qm_seti h3 a0 47 ((h3.1 a0 47) + (1 : Int32))))) rfl ?_
      refine qm_Ret.lets (F := fun h4 => (104, [some (qm_r 0 12 a0), some (qm_i x1), some (qm_i xs0)], [], h4)) (G := qm_Gv) ho (fun h4 ho => ?_)
      refine qm_Ret.sts 2 (f' := (7, [some (qm_r 0 12 a0), some (qm_i (x1 + (1 : Int32))), some (qm_i xs0)], [], h4)) rfl ?_
      exact H7 ho
set_option maxRecDepth 20000 in
set_option maxHeartbeats 2000000 in
theorem rX12_findFitting_7   : ∀ {fuel : Nat} {a0 : Nat} {x1 : Int32} {d2 : Option qm_V} {h : qm_H} {r : qm_H}, qX12_findFitting_7  fuel a0 x1 h = some r → qm_Ret mX12_findFitting (7, [some (qm_r 0 12 a0), some (qm_i x1), d2], [], h) (qm_Gv r) := by
  intro fuel
  induction fuel with
  | zero => intros; rename_i ho; cases ho
  | succ n ih =>
    intro a0 x1 d2 h r ho
    unfold qX12_findFitting_7 at ho
    refine qm_Ret.sts 2 (f' := (11, [some (qm_r 0 12 a0), some (qm_i x1), d2], [qm_i (4096 : Int32), qm_i x1], h)) rfl ?_
    refine qm_Ret.ge (t := 110) (e := 14) rfl (fun hc => ?_) (fun hc => ?_)
    · rw [if_pos hc] at ho
      refine qm_Ret.sts 1 (f' := (15, [some (qm_r 0 12 a0), some (qm_i x1), d2], [qm_i x1], h)) rfl ?_
      obtain ⟨r2, h1, hr, ho⟩ := qm_b2e ho
      refine qm_Ret.call (X := wX12_widthOf [qm_i x1] h) (o1 := (some (qm_i r2), h1)) (qm_mp (G := qm_Gi) hr) rfl ?_
      show qm_Ret _ (18, [some (qm_r 0 12 a0), some (qm_i x1), d2], [qm_i r2], h1) _
      refine qm_Ret.sts 2 (f' := (22, [some (qm_r 0 12 a0), some (qm_i x1), d2], [qm_i (h1.1 a0 25), qm_i r2], h1)) rfl ?_
      refine qm_Ret.gt (t := 70) (e := 25) rfl (fun hc => ?_) (fun hc => ?_)
      · rw [if_pos hc] at ho
        refine qm_Ret.sts 1 (f' := (71, [some (qm_r 0 12 a0), some (qm_i x1), d2], [qm_i (0 : Int32)], h1)) rfl ?_
        exact rX12_findFitting_71 (ih) ho
      · rw [if_neg hc] at ho
        refine qm_Ret.sts 1 (f' := (26, [some (qm_r 0 12 a0), some (qm_i x1), d2], [qm_i x1], h1)) rfl ?_
        obtain ⟨r4, h3, hr, ho⟩ := qm_b2e ho
        refine qm_Ret.call (X := wX12_heightOf [qm_i x1] h1) (o1 := (some (qm_i r4), h3)) (qm_mp (G := qm_Gi) hr) rfl ?_
        show qm_Ret _ (29, [some (qm_r 0 12 a0), some (qm_i x1), d2], [qm_i r4], h3) _
        refine qm_Ret.sts 2 (f' := (33, [some (qm_r 0 12 a0), some (qm_i x1), d2], [qm_i (h3.1 a0 26), qm_i r4], h3)) rfl ?_
        refine qm_Ret.gt (t := 70) (e := 36) rfl (fun hc => ?_) (fun hc => ?_)
        · rw [if_pos hc] at ho
          refine qm_Ret.sts 1 (f' := (71, [some (qm_r 0 12 a0), some (qm_i x1), d2], [qm_i (0 : Int32)], h3)) rfl ?_
          exact rX12_findFitting_71 (ih) ho
        · rw [if_neg hc] at ho
          refine qm_Ret.sts 5 (f' := (44, [some (qm_r 0 12 a0), some (qm_i x1), d2], [qm_i (h3.1 a0 27), qm_i (qm_irem x1 (64 : Int32))], h3)) rfl ?_
          refine qm_Ret.ge (t := 70) (e := 47) rfl (fun hc => ?_) (fun hc => ?_)
          · rw [if_pos hc] at ho
            refine qm_Ret.sts 5 (f' := (53, [some (qm_r 0 12 a0), some (qm_i x1), d2], [qm_i x1, qm_i (qm_irem x1 (64 : Int32)), qm_r 0 12 a0], h3)) rfl ?_
            obtain ⟨r6, h5, hr, ho⟩ := qm_b2e ho
            refine qm_Ret.call (X := wX12_widthOf [qm_i x1] h3) (o1 := (some (qm_i r6), h5)) (qm_mp (G := qm_Gi) hr) rfl ?_
            show qm_Ret _ (56, [some (qm_r 0 12 a0), some (qm_i x1), d2], [qm_i r6, qm_i (qm_irem x1 (64 : Int32)), qm_r 0 12 a0], h5) _
            refine qm_Ret.sts 1 (f' := (57, [some (qm_r 0 12 a0), some (qm_i x1), d2], [qm_i x1, qm_i r6, qm_i (qm_irem x1 (64 : Int32)), qm_r 0 12 a0], h5)) rfl ?_
            obtain ⟨r8, h7, hr, ho⟩ := qm_b2e ho
            refine qm_Ret.call (X := wX12_heightOf [qm_i x1] h5) (o1 := (some (qm_i r8), h7)) (qm_mp (G := qm_Gi) hr) rfl ?_
            show qm_Ret _ (60, [some (qm_r 0 12 a0), some (qm_i x1), d2], [qm_i r8, qm_i r6, qm_i (qm_irem x1 (64 : Int32)), qm_r 0 12 a0], h7) _
            obtain ⟨r10, h9, hr, ho⟩ := qm_b2e ho
            refine qm_Ret.call (X := wX12_isPlace [qm_r 0 12 a0, qm_i (qm_irem x1 (64 : Int32)), qm_i r6, qm_i r8] h7) (o1 := (some (qm_i r10), h9)) (qm_mp (G := qm_Gi) hr) rfl ?_
            show qm_Ret _ (63, [some (qm_r 0 12 a0), some (qm_i x1), d2], [qm_i r10], h9) _
            refine qm_Ret.eq (t := 70) (e := 66) rfl (fun hc => ?_) (fun hc => ?_)
            · rw [if_pos hc] at ho
              refine qm_Ret.sts 1 (f' := (71, [some (qm_r 0 12 a0), some (qm_i x1), d2], [qm_i (0 : Int32)], h9)) rfl ?_
              exact rX12_findFitting_71 (ih) ho
            · rw [if_neg hc] at ho
              refine qm_Ret.sts 2 (f' := (71, [some (qm_r 0 12 a0), some (qm_i x1), d2], [qm_i (1 : Int32)], h9)) rfl ?_
              exact rX12_findFitting_71 (ih) ho
          · rw [if_neg hc] at ho
            refine qm_Ret.sts 1 (f' := (71, [some (qm_r 0 12 a0), some (qm_i x1), d2], [qm_i (0 : Int32)], h3)) rfl ?_
            exact rX12_findFitting_71 (ih) ho
    · rw [if_neg hc] at ho
      cases ho
      exact qm_Ret.ret 1 rfl
set_option maxRecDepth 20000 in
set_option maxHeartbeats 2000000 in
theorem rX12_findFitting_0   {a0 : Nat} {h : qm_H} {r : qm_H} (ho : qX12_findFitting  a0 h = some r) : qm_Ret mX12_findFitting (0, [some (qm_r 0 12 a0), none, none], [], h) (qm_Gv r) := by
  unfold qX12_findFitting at ho
  refine qm_Ret.sts 3 (f' := (5, [some (qm_r 0 12 a0), none, none], [], (qm_seti h a0 47 (0 : Int32)))) rfl ?_
  refine qm_Ret.lets (F := fun h1 => (5, [some (qm_r 0 12 a0), none, none], [], h1)) (G := qm_Gv) ho (fun h1 ho => ?_)
  refine qm_Ret.sts 2 (f' := (7, [some (qm_r 0 12 a0), some (qm_i (0 : Int32)), none], [], h1)) rfl ?_
  exact rX12_findFitting_7 ho
theorem cX12_findFitting_ok : ∀ q ∈ ([(486, 0, 2, wX12_isSo), (474, 2, 1, wX12_widthOf), (477, 2, 1, wX12_heightOf), (294, 0, 4, wX12_isPlace)] : List (Nat × Nat × Nat × qm_C)), qm_CallOK RX12 3 72 q.2.1 q.1 q.2.2.1 q.2.2.2 := List.forall_mem_cons.mpr ⟨Or.inl ⟨yX12_isSo, cX12_isSo, 7, (some .boolean), 2, 46, _, sX12_isSo, ⟨by decide, by decide⟩, ⟨jX12_isSo, kRX12_486, uRX12⟩, ⟨by decide, by decide, rfl⟩, Or.inl ⟨rfl, rfl, iX12_isSo, recvX12_isSo⟩⟩, List.forall_mem_cons.mpr ⟨Or.inl ⟨yX12_widthOf, cX12_widthOf, 1, (some .int), 0, 0, _, sX12_widthOf, ⟨by decide, by decide⟩, ⟨jX12_widthOf, kRX12_474, uRX12⟩, ⟨by decide, by decide, rfl⟩, Or.inr (Or.inl ⟨rfl, rfl, iX12_widthOf⟩)⟩, List.forall_mem_cons.mpr ⟨Or.inl ⟨yX12_heightOf, cX12_heightOf, 1, (some .int), 0, 0, _, sX12_heightOf, ⟨by decide, by decide⟩, ⟨jX12_heightOf, kRX12_477, uRX12⟩, ⟨by decide, by decide, rfl⟩, Or.inr (Or.inl ⟨rfl, rfl, iX12_heightOf⟩)⟩, List.forall_mem_cons.mpr ⟨Or.inl ⟨yX12_isPlace, cX12_isPlace, 4, (some .boolean), 0, 0, _, sX12_isPlace, ⟨by decide, by decide⟩, ⟨jX12_isPlace, kRX12_294, uRX12⟩, ⟨by decide, by decide, rfl⟩, Or.inl ⟨rfl, rfl, iX12_isPlace, recvX12_isPlace⟩⟩, fun _ h => absurd h List.not_mem_nil⟩⟩⟩⟩
theorem sX12_findFitting : qm_Snd yX12_findFitting cX12_findFitting 3 none 3 72 wX12_findFitting := qm_met (fld := fun k => qm_lk k pfRX12) (con := fun k => qm_lk k pcRX12) (call := fun k => qm_lk k [(486, 0, 2, wX12_isSo), (474, 2, 1, wX12_widthOf), (477, 2, 1, wX12_heightOf), (294, 0, 4, wX12_isPlace)]) (tab := qm_tab aX12_findFitting) (plainFor_of_name (by decide)) (qm_fld_ok pfRX12_ok) (qm_con_ok pcRX12_ok) (fun idx kd n f hc => cX12_findFitting_ok (idx, kd, n, f) (qm_lk_mem hc)) (qm_tab_ok aX12_findFitting_ok) (fun vs h o hw => by
  unfold wX12_findFitting at hw
  split at hw
  · obtain ⟨r, hr, rfl⟩ := Option.map_eq_some_iff.mp hw
    exact ⟨Nat.le_of_ble_eq_true rfl, rX12_findFitting_0 (hr)⟩
  · cases hw)
theorem recvX12_findFitting : ∀ vs h o, wX12_findFitting vs h = some o → ∃ ci a rest, vs = qm_r 0 ci a :: rest ∧ qm_R ci = yX12_findFitting.cls := by
  intro vs h o hw
  unfold wX12_findFitting at hw
  split at hw
  · exact ⟨_, _, _, rfl, rfl⟩
  · cases hw
-- RX12 openIn(I)I
theorem jX12_openIn : Jvm.Cond.code yX12_openIn cX12_openIn 4 (some .int) ∈ qm_all := List.mem_filter.mpr ⟨by decide +kernel, rfl⟩
theorem iX12_openIn : Jvm.Cond.instanceMethod yX12_openIn ∈ qm_all ∧ Jvm.Cond.selects yX12_openIn.cls yX12_openIn yX12_openIn ∈ qm_all := ⟨List.mem_filter.mpr ⟨by decide +kernel, rfl⟩, List.mem_filter.mpr ⟨by decide +kernel, rfl⟩⟩
def wX12_openIn : qm_C := fun vs h => match vs with
  | [.inr (.inr (some (0, 12, p0))), .inl p1] => (qX12_openIn p0 p1 h).map qm_Gi
  | _ => none
def aX12_openIn : List (Option (Instr × Nat)) := [some (.iconst 0, 1), some (.istore_n 2, 1), some (.iconst 0, 1), some (.istore_n 3, 1), some (.iload_n 3, 1), some (.aload_n 0, 1), some (.getfield 483, 3), none, none, some (.if_icmp .ge 42, 3), none, none, some (.iload_n 2, 1), some (.aload_n 0, 1), some (.aload_n 0, 1), some (.getfield 81, 3), none, none, some (.iload_n 3, 1), some (.iaload, 1), some (.iload_n 1, 1), some (.aload_n 0, 1), some (.getfield 273, 3), none, none, some (.irem, 1), some (.iload_n 1, 1), some (.aload_n 0, 1), some (.getfield 273, 3), none, none, some (.idiv, 1), some (.invokevirtual 480, 3), none, none, some (.ifCond .eq 7, 3), none, none, some (.iconst 1, 1), some (.goto 4, 3), none, none, some (.iconst 0, 1), some (.iadd, 1), some (.istore_n 2, 1), some (.iinc 3 1, 3), none, none, some (.goto (-44), 3), none, none, some (.iload_n 2, 1), some (.ireturn, 1)]
theorem aX12_openIn_ok : qm_tabok cX12_openIn aX12_openIn = true := by decide +kernel
def mX12_openIn : qm_M := ((some .int), (fun k => qm_lk k pfRX12), (fun k => qm_lk k pcRX12), (fun k => qm_lk k [(480, 0, 4, wX12_isInGap)]), qm_tab aX12_openIn)
set_option maxRecDepth 20000 in
set_option maxHeartbeats 2000000 in
theorem rX12_openIn_4   : ∀ {fuel : Nat} {a0 : Nat} {x1 : Int32} {x2 : Int32} {x3 : Int32} {h : qm_H} {r : Int32 × qm_H}, qX12_openIn_4  fuel a0 x1 x2 x3 h = some r → qm_Ret mX12_openIn (4, [some (qm_r 0 12 a0), some (qm_i x1), some (qm_i x2), some (qm_i x3)], [], h) (qm_Gi r) := by
  intro fuel
  induction fuel with
  | zero => intros; rename_i ho; cases ho
  | succ n ih =>
    intro a0 x1 x2 x3 h r ho
    unfold qX12_openIn_4 at ho
    refine qm_Ret.sts 3 (f' := (9, [some (qm_r 0 12 a0), some (qm_i x1), some (qm_i x2), some (qm_i x3)], [qm_i (h.1 a0 47), qm_i x3], h)) rfl ?_
    refine qm_Ret.ge (t := 51) (e := 12) rfl (fun hc => ?_) (fun hc => ?_)
    · rw [if_pos hc] at ho
      refine qm_Ret.sts 5 (f' := (19, [some (qm_r 0 12 a0), some (qm_i x1), some (qm_i x2), some (qm_i x3)], [qm_i x3, qm_r 1 1296 (a0 + 24), qm_r 0 12 a0, qm_i x2], h)) rfl ?_
      obtain ⟨hg, ho⟩ := qm_ifn ho
      refine qm_Ret.gn (f1 := (20, [some (qm_r 0 12 a0), some (qm_i x1), some (qm_i x2), some (qm_i x3)], [qm_i (h.1 (a0 + 24) (x3).toNatClampNeg), qm_r 0 12 a0, qm_i x2], h)) hg rfl ?_
      refine qm_Ret.sts 3 (f' := (25, [some (qm_r 0 12 a0), some (qm_i x1), some (qm_i x2), some (qm_i x3)], [qm_i (h.1 a0 25), qm_i x1, qm_i (h.1 (a0 + 24) (x3).toNatClampNeg), qm_r 0 12 a0, qm_i x2], h)) rfl ?_
      obtain ⟨hg, ho⟩ := qm_ifn ho
      refine qm_Ret.gn (f1 := (26, [some (qm_r 0 12 a0), some (qm_i x1), some (qm_i x2), some (qm_i x3)], [qm_i (qm_irem x1 (h.1 a0 25)), qm_i (h.1 (a0 + 24) (x3).toNatClampNeg), qm_r 0 12 a0, qm_i x2], h)) hg rfl ?_
      refine qm_Ret.sts 3 (f' := (31, [some (qm_r 0 12 a0), some (qm_i x1), some (qm_i x2), some (qm_i x3)], [qm_i (h.1 a0 25), qm_i x1, qm_i (qm_irem x1 (h.1 a0 25)), qm_i (h.1 (a0 + 24) (x3).toNatClampNeg), qm_r 0 12 a0, qm_i x2], h)) rfl ?_
      obtain ⟨hg, ho⟩ := qm_ifn ho
      refine qm_Ret.gn (f1 := (32, [some (qm_r 0 12 a0), some (qm_i x1), some (qm_i x2), some (qm_i x3)], [qm_i (x1 / (h.1 a0 25)), qm_i (qm_irem x1 (h.1 a0 25)), qm_i (h.1 (a0 + 24) (x3).toNatClampNeg), qm_r 0 12 a0, qm_i x2], h)) hg rfl ?_
      obtain ⟨r2, h1, hr, ho⟩ := qm_b2e ho
      refine qm_Ret.call (X := wX12_isInGap [qm_r 0 12 a0, qm_i (h.1 (a0 + 24) (x3).toNatClampNeg), qm_i (qm_irem x1 (h.1 a0 25)), qm_i (x1 / (h.1 a0 25))] h) (o1 := (some (qm_i r2), h1)) (qm_mp (G := qm_Gi) hr) rfl ?_
      show qm_Ret _ (35, [some (qm_r 0 12 a0), some (qm_i x1), some (qm_i x2), some (qm_i x3)], [qm_i r2, qm_i x2], h1) _
      refine qm_Ret.eq (t := 42) (e := 38) rfl (fun hc => ?_) (fun hc => ?_)
      · rw [if_pos hc] at ho
        refine qm_Ret.sts 2 (f' := (44, [some (qm_r 0 12 a0), some (qm_i x1), some (qm_i x2), some (qm_i x3)], [qm_i (x2 + (0 : Int32))], h1)) rfl ?_
        refine qm_Ret.lets (F := fun v3 => (44, [some (qm_r 0 12 a0), some (qm_i x1), some (qm_i x2), some (qm_i x3)], [qm_i v3], h1)) (G := qm_Gi) ho (fun v3 ho => ?_)
        refine qm_Ret.sts 3 (f' := (4, [some (qm_r 0 12 a0), some (qm_i x1), some (qm_i v3), some (qm_i (x3 + (1 : Int32)))], [], h1)) rfl ?_
        exact ih ho
      · rw [if_neg hc] at ho
        refine qm_Ret.sts 3 (f' := (44, [some (qm_r 0 12 a0), some (qm_i x1), some (qm_i x2), some (qm_i x3)], [qm_i (x2 + (1 : Int32))], h1)) rfl ?_
        refine qm_Ret.lets (F := fun v4 => (44, [some (qm_r 0 12 a0), some (qm_i x1), some (qm_i x2), some (qm_i x3)], [qm_i v4], h1)) (G := qm_Gi) ho (fun v4 ho => ?_)
        refine qm_Ret.sts 3 (f' := (4, [some (qm_r 0 12 a0), some (qm_i x1), some (qm_i v4), some (qm_i (x3 + (1 : Int32)))], [], h1)) rfl ?_
        exact ih ho
    · rw [if_neg hc] at ho
      cases ho
      exact qm_Ret.ret 2 rfl
set_option maxRecDepth 20000 in
set_option maxHeartbeats 2000000 in
theorem rX12_openIn_0   {a0 : Nat} {x1 : Int32} {h : qm_H} {r : Int32 × qm_H} (ho : qX12_openIn  a0 x1 h = some r) : qm_Ret mX12_openIn (0, [some (qm_r 0 12 a0), some (qm_i x1), none, none], [], h) (qm_Gi r) := by
  unfold qX12_openIn at ho
  refine qm_Ret.sts 4 (f' := (4, [some (qm_r 0 12 a0), some (qm_i x1), some (qm_i (0 : Int32)), some (qm_i (0 : Int32))], [], h)) rfl ?_
  exact rX12_openIn_4 ho
theorem cX12_openIn_ok : ∀ q ∈ ([(480, 0, 4, wX12_isInGap)] : List (Nat × Nat × Nat × qm_C)), qm_CallOK RX12 2 46 q.2.1 q.1 q.2.2.1 q.2.2.2 := List.forall_mem_cons.mpr ⟨Or.inl ⟨yX12_isInGap, cX12_isInGap, 5, (some .boolean), 1, 22, _, sX12_isInGap, ⟨by decide, by decide⟩, ⟨jX12_isInGap, kRX12_480, uRX12⟩, ⟨by decide, by decide, rfl⟩, Or.inl ⟨rfl, rfl, iX12_isInGap, recvX12_isInGap⟩⟩, fun _ h => absurd h List.not_mem_nil⟩
theorem sX12_openIn : qm_Snd yX12_openIn cX12_openIn 4 (some .int) 2 46 wX12_openIn := qm_met (fld := fun k => qm_lk k pfRX12) (con := fun k => qm_lk k pcRX12) (call := fun k => qm_lk k [(480, 0, 4, wX12_isInGap)]) (tab := qm_tab aX12_openIn) (plainFor_of_name (by decide)) (qm_fld_ok pfRX12_ok) (qm_con_ok pcRX12_ok) (fun idx kd n f hc => cX12_openIn_ok (idx, kd, n, f) (qm_lk_mem hc)) (qm_tab_ok aX12_openIn_ok) (fun vs h o hw => by
  unfold wX12_openIn at hw
  split at hw
  · obtain ⟨r, hr, rfl⟩ := Option.map_eq_some_iff.mp hw
    exact ⟨Nat.le_of_ble_eq_true rfl, rX12_openIn_0 (hr)⟩
  · cases hw)
theorem recvX12_openIn : ∀ vs h o, wX12_openIn vs h = some o → ∃ ci a rest, vs = qm_r 0 ci a :: rest ∧ qm_R ci = yX12_openIn.cls := by
  intro vs h o hw
  unfold wX12_openIn at hw
  split at hw
  · exact ⟨_, _, _, rfl, rfl⟩
  · cases hw
-- RX12 askOf()I
theorem jX12_askOf : Jvm.Cond.code yX12_askOf cX12_askOf 5 (some .int) ∈ qm_all := List.mem_filter.mpr ⟨by decide +kernel, rfl⟩
theorem iX12_askOf : Jvm.Cond.instanceMethod yX12_askOf ∈ qm_all ∧ Jvm.Cond.selects yX12_askOf.cls yX12_askOf yX12_askOf ∈ qm_all := ⟨List.mem_filter.mpr ⟨by decide +kernel, rfl⟩, List.mem_filter.mpr ⟨by decide +kernel, rfl⟩⟩
def wX12_askOf : qm_C := fun vs h => match vs with
  | [.inr (.inr (some (0, 12, p0)))] => (qX12_askOf p0 h).map qm_Gi
  | _ => none
def aX12_askOf : List (Option (Instr × Nat)) := [some (.iconst (-1), 1), some (.istore_n 1, 1), some (.ldc_w 390, 3), none, none, some (.istore_n 2, 1), some (.iconst 0, 1), some (.istore_n 3, 1), some (.iload_n 3, 1), some (.aload_n 0, 1), some (.getfield 279, 3), none, none, some (.if_icmp .ge 55, 3), none, none, some (.aload_n 0, 1), some (.iload_n 3, 1), some (.invokevirtual 489, 3), none, none, some (.istore 4, 2), none, some (.iload 4, 2), none, some (.aload_n 0, 1), some (.getfield 483, 3), none, none, some (.iload 4, 2), none, some (.isub, 1), some (.invokestatic 161, 3), none, none, some (.iload_n 2, 1), some (.if_icmp .ge 7, 3), none, none, some (.iload_n 3, 1), some (.goto 4, 3), none, none, some (.iload_n 1, 1), some (.istore_n 1, 1), some (.iload_n 2, 1), some (.iload 4, 2), none, some (.aload_n 0, 1), some (.getfield 483, 3), none, none, some (.iload 4, 2), none, some (.isub, 1), some (.invokestatic 161, 3), none, none, some (.invokestatic 335, 3), none, none, some (.istore_n 2, 1), some (.iinc 3 1, 3), none, none, some (.goto (-57), 3), none, none, some (.iload_n 1, 1), some (.ireturn, 1)]
theorem aX12_askOf_ok : qm_tabok cX12_askOf aX12_askOf = true := by decide +kernel
def mX12_askOf : qm_M := ((some .int), (fun k => qm_lk k pfRX12), (fun k => qm_lk k pcRX12), (fun k => qm_lk k [(161, 2, 2, wX12_greater), (335, 2, 2, wX12_lesser), (489, 0, 2, wX12_openIn)]), qm_tab aX12_askOf)
set_option maxRecDepth 20000 in
set_option maxHeartbeats 2000000 in
theorem rX12_askOf_44 {K8 : Nat → Int32 → Int32 → Int32 → qm_H → Option (Int32 × qm_H)} (H8 : ∀ {a0 : Nat} {x1 : Int32} {x2 : Int32} {x3 : Int32} {d4 : Option qm_V} {h : qm_H} {r : Int32 × qm_H}, K8 a0 x1 x2 x3 h = some r → qm_Ret mX12_askOf (8, [some (qm_r 0 12 a0), some (qm_i x1), some (qm_i x2), some (qm_i x3), d4], [], h) (qm_Gi r)) {a0 : Nat} {x2 : Int32} {x3 : Int32} {x4 : Int32} {xs0 : Int32} {xd1 : Int32} {h : qm_H} {r : Int32 × qm_H} (ho : qX12_askOf_44 K8 a0 x2 x3 x4 xs0 h = some r) : qm_Ret mX12_askOf (44, [some (qm_r 0 12 a0), some (qm_i xd1), some (qm_i x2), some (qm_i x3), some (qm_i x4)], [qm_i xs0], h) (qm_Gi r) := by
  unfold qX12_askOf_44 at ho
  refine qm_Ret.sts 7 (f' := (55, [some (qm_r 0 12 a0), some (qm_i xs0), some (qm_i x2), some (qm_i x3), some (qm_i x4)], [qm_i ((h.1 a0 47) - x4), qm_i x4, qm_i x2], h)) rfl ?_
  obtain ⟨r2, h1, hr, ho⟩ := qm_b2e ho
  refine qm_Ret.call (X := wX12_greater [qm_i x4, qm_i ((h.1 a0 47) - x4)] h) (o1 := (some (qm_i r2), h1)) (qm_mp (G := qm_Gi) hr) rfl ?_
  show qm_Ret _ (58, [some (qm_r 0 12 a0), some (qm_i xs0), some (qm_i x2), some (qm_i x3), some (qm_i x4)], [qm_i r2, qm_i x2], h1) _
  obtain ⟨r4, h3, hr, ho⟩ := qm_b2e ho
  refine qm_Ret.call (X := wX12_lesser [qm_i x2, qm_i r2] h1) (o1 := (some (qm_i r4), h3)) (qm_mp (G := qm_Gi) hr) rfl ?_
  show qm_Ret _ (61, [some (qm_r 0 12 a0), some (qm_i xs0), some (qm_i x2), some (qm_i x3), some (qm_i x4)], [qm_i r4], h3) _
  refine qm_Ret.sts 3 (f' := (8, [some (qm_r 0 12 a0), some (qm_i xs0), some (qm_i r4), some (qm_i (x3 + (1 : Int32))), some (qm_i x4)], [], h3)) rfl ?_
  exact H8 ho
set_option maxRecDepth 20000 in
set_option maxHeartbeats 2000000 in
theorem rX12_askOf_8   : ∀ {fuel : Nat} {a0 : Nat} {x1 : Int32} {x2 : Int32} {x3 : Int32} {d4 : Option qm_V} {h : qm_H} {r : Int32 × qm_H}, qX12_askOf_8  fuel a0 x1 x2 x3 h = some r → qm_Ret mX12_askOf (8, [some (qm_r 0 12 a0), some (qm_i x1), some (qm_i x2), some (qm_i x3), d4], [], h) (qm_Gi r) := by
  intro fuel
  induction fuel with
  | zero => intros; rename_i ho; cases ho
  | succ n ih =>
    intro a0 x1 x2 x3 d4 h r ho
    unfold qX12_askOf_8 at ho
    refine qm_Ret.sts 3 (f' := (13, [some (qm_r 0 12 a0), some (qm_i x1), some (qm_i x2), some (qm_i x3), d4], [qm_i (h.1 a0 27), qm_i x3], h)) rfl ?_
    refine qm_Ret.ge (t := 68) (e := 16) rfl (fun hc => ?_) (fun hc => ?_)
    · rw [if_pos hc] at ho
      refine qm_Ret.sts 2 (f' := (18, [some (qm_r 0 12 a0), some (qm_i x1), some (qm_i x2), some (qm_i x3), d4], [qm_i x3, qm_r 0 12 a0], h)) rfl ?_
      obtain ⟨r2, h1, hr, ho⟩ := qm_b2e ho
      refine qm_Ret.call (X := wX12_openIn [qm_r 0 12 a0, qm_i x3] h) (o1 := (some (qm_i r2), h1)) (qm_mp (G := qm_Gi) hr) rfl ?_
      show qm_Ret _ (21, [some (qm_r 0 12 a0), some (qm_i x1), some (qm_i x2), some (qm_i x3), d4], [qm_i r2], h1) _
      refine qm_Ret.sts 6 (f' := (32, [some (qm_r 0 12 a0), some (qm_i x1), some (qm_i x2), some (qm_i x3), some (qm_i r2)], [qm_i ((h1.1 a0 47) - r2), qm_i r2], h1)) rfl ?_
      obtain ⟨r4, h3, hr, ho⟩ := qm_b2e ho
      refine qm_Ret.call (X := wX12_greater [qm_i r2, qm_i ((h1.1 a0 47) - r2)] h1) (o1 := (some (qm_i r4), h3)) (qm_mp (G := qm_Gi) hr) rfl ?_
      show qm_Ret _ (35, [some (qm_r 0 12 a0), some (qm_i x1), some (qm_i x2), some (qm_i x3), some (qm_i r2)], [qm_i r4], h3) _
      refine qm_Ret.sts 1 (f' := (36, [some (qm_r 0 12 a0), some (qm_i x1), some (qm_i x2), some (qm_i x3), some (qm_i r2)], [qm_i x2, qm_i r4], h3)) rfl ?_
      refine qm_Ret.ge (t := 43) (e := 39) rfl (fun hc => ?_) (fun hc => ?_)
      · rw [if_pos hc] at ho
        refine qm_Ret.sts 2 (f' := (44, [some (qm_r 0 12 a0), some (qm_i x1), some (qm_i x2), some (qm_i x3), some (qm_i r2)], [qm_i x3], h3)) rfl ?_
        exact rX12_askOf_44 (ih) ho
      · rw [if_neg hc] at ho
        refine qm_Ret.sts 1 (f' := (44, [some (qm_r 0 12 a0), some (qm_i x1), some (qm_i x2), some (qm_i x3), some (qm_i r2)], [qm_i x1], h3)) rfl ?_
        exact rX12_askOf_44 (ih) ho
    · rw [if_neg hc] at ho
      cases ho
      exact qm_Ret.ret 2 rfl
set_option maxRecDepth 20000 in
set_option maxHeartbeats 2000000 in
theorem rX12_askOf_0   {a0 : Nat} {h : qm_H} {r : Int32 × qm_H} (ho : qX12_askOf  a0 h = some r) : qm_Ret mX12_askOf (0, [some (qm_r 0 12 a0), none, none, none, none], [], h) (qm_Gi r) := by
  unfold qX12_askOf at ho
  refine qm_Ret.sts 6 (f' := (8, [some (qm_r 0 12 a0), some (qm_i (-1 : Int32)), some (qm_i (1000000 : Int32)), some (qm_i (0 : Int32)), none], [], h)) rfl ?_
  exact rX12_askOf_8 ho
theorem cX12_askOf_ok : ∀ q ∈ ([(161, 2, 2, wX12_greater), (335, 2, 2, wX12_lesser), (489, 0, 2, wX12_openIn)] : List (Nat × Nat × Nat × qm_C)), qm_CallOK RX12 3 69 q.2.1 q.1 q.2.2.1 q.2.2.2 := List.forall_mem_cons.mpr ⟨Or.inl ⟨yX12_greater, cX12_greater, 2, (some .int), 0, 0, _, sX12_greater, ⟨by decide, by decide⟩, ⟨jX12_greater, kRX12_161, uRX12⟩, ⟨by decide, by decide, rfl⟩, Or.inr (Or.inl ⟨rfl, rfl, iX12_greater⟩)⟩, List.forall_mem_cons.mpr ⟨Or.inl ⟨yX12_lesser, cX12_lesser, 2, (some .int), 0, 0, _, sX12_lesser, ⟨by decide, by decide⟩, ⟨jX12_lesser, kRX12_335, uRX12⟩, ⟨by decide, by decide, rfl⟩, Or.inr (Or.inl ⟨rfl, rfl, iX12_lesser⟩)⟩, List.forall_mem_cons.mpr ⟨Or.inl ⟨yX12_openIn, cX12_openIn, 4, (some .int), 2, 46, _, sX12_openIn, ⟨by decide, by decide⟩, ⟨jX12_openIn, kRX12_489, uRX12⟩, ⟨by decide, by decide, rfl⟩, Or.inl ⟨rfl, rfl, iX12_openIn, recvX12_openIn⟩⟩, fun _ h => absurd h List.not_mem_nil⟩⟩⟩
theorem sX12_askOf : qm_Snd yX12_askOf cX12_askOf 5 (some .int) 3 69 wX12_askOf := qm_met (fld := fun k => qm_lk k pfRX12) (con := fun k => qm_lk k pcRX12) (call := fun k => qm_lk k [(161, 2, 2, wX12_greater), (335, 2, 2, wX12_lesser), (489, 0, 2, wX12_openIn)]) (tab := qm_tab aX12_askOf) (plainFor_of_name (by decide)) (qm_fld_ok pfRX12_ok) (qm_con_ok pcRX12_ok) (fun idx kd n f hc => cX12_askOf_ok (idx, kd, n, f) (qm_lk_mem hc)) (qm_tab_ok aX12_askOf_ok) (fun vs h o hw => by
  unfold wX12_askOf at hw
  split at hw
  · obtain ⟨r, hr, rfl⟩ := Option.map_eq_some_iff.mp hw
    exact ⟨Nat.le_of_ble_eq_true rfl, rX12_askOf_0 (hr)⟩
  · cases hw)
theorem recvX12_askOf : ∀ vs h o, wX12_askOf vs h = some o → ∃ ci a rest, vs = qm_r 0 ci a :: rest ∧ qm_R ci = yX12_askOf.cls := by
  intro vs h o hw
  unfold wX12_askOf at hw
  split at hw
  · exact ⟨_, _, _, rfl, rfl⟩
  · cases hw
