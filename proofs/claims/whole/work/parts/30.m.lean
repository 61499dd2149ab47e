-- RX12 findGaps(II)V
theorem jX12_findGaps : Jvm.Cond.code yX12_findGaps cX12_findGaps 7 none ∈ qm_all := List.mem_filter.mpr ⟨by decide +kernel, rfl⟩
theorem iX12_findGaps : Jvm.Cond.instanceMethod yX12_findGaps ∈ qm_all ∧ Jvm.Cond.selects yX12_findGaps.cls yX12_findGaps yX12_findGaps ∈ qm_all := ⟨List.mem_filter.mpr ⟨by decide +kernel, rfl⟩, List.mem_filter.mpr ⟨by decide +kernel, rfl⟩⟩
def wX12_findGaps : qm_C := fun vs h => match vs with
  | [.inr (.inr (some (0, 12, p0))), .inl p1, .inl p2] => (qX12_findGaps p0 p1 p2 h).map qm_Gv
  | _ => none
def aX12_findGaps : List (Option (Instr × Nat)) := [some (.aload_n 0, 1), some (.iconst 0, 1), some (.putfield 375, 3), none, none, some (.iconst 0, 1), some (.istore_n 3, 1), some (.iload_n 3, 1), some (.aload_n 0, 1), some (.getfield 279, 3), none, none, some (.if_icmp .ge 94, 3), none, none, some (.aload_n 0, 1), some (.iload_n 3, 1), some (.iload_n 1, 1), some (.iload_n 2, 1), some (.invokevirtual 294, 3), none, none, some (.ifCond .eq 78, 3), none, none, some (.aload_n 0, 1), some (.iload_n 3, 1), some (.iload_n 1, 1), some (.iload_n 2, 1), some (.iconst 1, 1), some (.invokevirtual 297, 3), none, none, some (.ifCond .ne 67, 3), none, none, some (.lconst 0, 1), some (.lstore 4, 2), none, some (.iconst 0, 1), some (.istore 6, 2), none, some (.iload 6, 2), none, some (.iload_n 1, 1), some (.iload_n 2, 1), some (.imul, 1), some (.if_icmp .ge 32, 3), none, none, some (.lload 4, 2), none, some (.lconst 1, 1), some (.iload_n 3, 1), some (.iload 6, 2), none, some (.iload_n 1, 1), some (.idiv, 1), some (.aload_n 0, 1), some (.getfield 273, 3), none, none, some (.imul, 1), some (.iadd, 1), some (.iload 6, 2), none, some (.iload_n 1, 1), some (.irem, 1), some (.iadd, 1), some (.lshl, 1), some (.lor, 1), some (.lstore 4, 2), none, some (.iinc 6 1, 3), none, none, some (.goto (-34), 3), none, none, some (.aload_n 0, 1), some (.getfield 56, 3), none, none, some (.aload_n 0, 1), some (.getfield 375, 3), none, none, some (.lload 4, 2), none, some (.lastore, 1), some (.aload_n 0, 1), some (.dup, 1), some (.getfield 375, 3), none, none, some (.iconst 1, 1), some (.iadd, 1), some (.putfield 375, 3), none, none, some (.iinc 3 1, 3), none, none, some (.goto (-96), 3), none, none, some (.return_, 1)]
theorem aX12_findGaps_ok : qm_tabok cX12_findGaps aX12_findGaps = true := by decide +kernel
def mX12_findGaps : qm_M := (none, (fun k => qm_lk k pfRX12), (fun k => qm_lk k pcRX12), (fun k => qm_lk k [(294, 0, 4, wX12_isPlace), (297, 0, 5, wX12_holdsAt)]), qm_tab aX12_findGaps)
set_option maxRecDepth 20000 in
set_option maxHeartbeats 2000000 in
theorem rX12_findGaps_42 {K7 : Nat → Int32 → Int32 → Int32 → qm_H → Option (qm_H)} (H7 : ∀ {a0 : Nat} {x1 : Int32} {x2 : Int32} {x3 : Int32} {d4 : Option qm_V} {d6 : Option qm_V} {h : qm_H} {r : qm_H}, K7 a0 x1 x2 x3 h = some r → qm_Ret mX12_findGaps (7, [some (qm_r 0 12 a0), some (qm_i x1), some (qm_i x2), some (qm_i x3), d4, none, d6], [], h) (qm_Gv r)) : ∀ {fuel : Nat} {a0 : Nat} {x1 : Int32} {x2 : Int32} {x3 : Int32} {l4 : Int64} {x6 : Int32} {h : qm_H} {r : qm_H}, qX12_findGaps_42 K7 fuel a0 x1 x2 x3 l4 x6 h = some r → qm_Ret mX12_findGaps (42, [some (qm_r 0 12 a0), some (qm_i x1), some (qm_i x2), some (qm_i x3), some (qm_l l4), none, some (qm_i x6)], [], h) (qm_Gv r) := by
  intro fuel
  induction fuel with
  | zero => intros; rename_i ho; cases ho
  | succ n ih =>
    intro a0 x1 x2 x3 l4 x6 h r ho
    unfold qX12_findGaps_42 at ho
    refine qm_Ret.sts 4 (f' := (47, [some (qm_r 0 12 a0), some (qm_i x1), some (qm_i x2), some (qm_i x3), some (qm_l l4), none, some (qm_i x6)], [qm_i (x1 * x2), qm_i x6], h)) rfl ?_
    refine qm_Ret.ge (t := 79) (e := 50) rfl (fun hc => ?_) (fun hc => ?_)
    · rw [if_pos hc] at ho
      refine qm_Ret.sts 5 (f' := (57, [some (qm_r 0 12 a0), some (qm_i x1), some (qm_i x2), some (qm_i x3), some (qm_l l4), none, some (qm_i x6)], [qm_i x1, qm_i x6, qm_i x3, qm_l (1 : Int64), qm_l l4], h)) rfl ?_
      obtain ⟨hg, ho⟩ := qm_ifn ho
      refine qm_Ret.gn (f1 := (58, [some (qm_r 0 12 a0), some (qm_i x1), some (qm_i x2), some (qm_i x3), some (qm_l l4), none, some (qm_i x6)], [qm_i (x6 / x1), qm_i x3, qm_l (1 : Int64), qm_l l4], h)) hg rfl ?_
      refine qm_Ret.sts 6 (f' := (67, [some (qm_r 0 12 a0), some (qm_i x1), some (qm_i x2), some (qm_i x3), some (qm_l l4), none, some (qm_i x6)], [qm_i x1, qm_i x6, qm_i (x3 + ((x6 / x1) * (h.1 a0 25))), qm_l (1 : Int64), qm_l l4], h)) rfl ?_
      obtain ⟨hg, ho⟩ := qm_ifn ho
      refine qm_Ret.gn (f1 := (68, [some (qm_r 0 12 a0), some (qm_i x1), some (qm_i x2), some (qm_i x3), some (qm_l l4), none, some (qm_i x6)], [qm_i (qm_irem x6 x1), qm_i (x3 + ((x6 / x1) * (h.1 a0 25))), qm_l (1 : Int64), qm_l l4], h)) hg rfl ?_
      refine qm_Ret.sts 3 (f' := (71, [some (qm_r 0 12 a0), some (qm_i x1), some (qm_i x2), some (qm_i x3), some (qm_l l4), none, some (qm_i x6)], [qm_l (l4 ||| (qm_lshl (1 : Int64) ((x3 + ((x6 / x1) * (h.1 a0 25))) + (qm_irem x6 x1))))], h)) rfl ?_
      refine qm_Ret.lets (F := fun v3 => (71, [some (qm_r 0 12 a0), some (qm_i x1), some (qm_i x2), some (qm_i x3), some (qm_l l4), none, some (qm_i x6)], [qm_l v3], h)) (G := qm_Gv) ho (fun v3 ho => ?_)
      refine qm_Ret.sts 3 (f' := (42, [some (qm_r 0 12 a0), some (qm_i x1), some (qm_i x2), some (qm_i x3), some (qm_l v3), none, some (qm_i (x6 + (1 : Int32)))], [], h)) rfl ?_
      exact ih ho
    · rw [if_neg hc] at ho
      refine qm_Ret.sts 5 (f' := (89, [some (qm_r 0 12 a0), some (qm_i x1), some (qm_i x2), some (qm_i x3), some (qm_l l4), none, some (qm_i x6)], [qm_l l4, qm_i (h.1 a0 35), qm_r 4 64 (a0 + 16)], h)) rfl ?_
      obtain ⟨hg, ho⟩ := qm_ifn ho
      refine qm_Ret.gn (f1 := (90, [some (qm_r 0 12 a0), some (qm_i x1), some (qm_i x2), some (qm_i x3), some (qm_l l4), none, some (qm_i x6)], [], (qm_setl h (a0 + 16) (h.1 a0 35).toNatClampNeg l4))) hg rfl ?_
      refine qm_Ret.lets (F := fun h1 => (90, [some (qm_r 0 12 a0), some (qm_i x1), some (qm_i x2), some (qm_i x3), some (qm_l l4), none, some (qm_i x6)], [], h1)) (G := qm_Gv) ho (fun h1 ho => ?_)
      refine qm_Ret.sts 6 (f' := (100, [some (qm_r 0 12 a0), some (qm_i x1), some (qm_i x2), some (qm_i x3), some (qm_l l4), none, some (qm_i x6)], [], (qm_seti h1 a0 35 ((h1.1 a0 35) + (1 : Int32))))) rfl ?_
      refine qm_Ret.lets (F := fun h2 => (100, [some (qm_r 0 12 a0), some (qm_i x1), some (qm_i x2), some (qm_i x3), some (qm_l l4), none, some (qm_i x6)], [], h2)) (G := qm_Gv) ho (fun h2 ho => ?_)
      refine qm_Ret.sts 2 (f' := (7, [some (qm_r 0 12 a0), some (qm_i x1), some (qm_i x2), some (qm_i (x3 + (1 : Int32))), some (qm_l l4), none, some (qm_i x6)], [], h2)) rfl ?_
      exact H7 ho
set_option maxRecDepth 20000 in
set_option maxHeartbeats 2000000 in
theorem rX12_findGaps_7   : ∀ {fuel : Nat} {a0 : Nat} {x1 : Int32} {x2 : Int32} {x3 : Int32} {d4 : Option qm_V} {d6 : Option qm_V} {h : qm_H} {r : qm_H}, qX12_findGaps_7  fuel a0 x1 x2 x3 h = some r → qm_Ret mX12_findGaps (7, [some (qm_r 0 12 a0), some (qm_i x1), some (qm_i x2), some (qm_i x3), d4, none, d6], [], h) (qm_Gv r) := by
  intro fuel
  induction fuel with
  | zero => intros; rename_i ho; cases ho
  | succ n ih =>
    intro a0 x1 x2 x3 d4 d6 h r ho
    unfold qX12_findGaps_7 at ho
    refine qm_Ret.sts 3 (f' := (12, [some (qm_r 0 12 a0), some (qm_i x1), some (qm_i x2), some (qm_i x3), d4, none, d6], [qm_i (h.1 a0 27), qm_i x3], h)) rfl ?_
    refine qm_Ret.ge (t := 106) (e := 15) rfl (fun hc => ?_) (fun hc => ?_)
    · rw [if_pos hc] at ho
      refine qm_Ret.sts 4 (f' := (19, [some (qm_r 0 12 a0), some (qm_i x1), some (qm_i x2), some (qm_i x3), d4, none, d6], [qm_i x2, qm_i x1, qm_i x3, qm_r 0 12 a0], h)) rfl ?_
      obtain ⟨r2, h1, hr, ho⟩ := qm_b2e ho
      refine qm_Ret.call (X := wX12_isPlace [qm_r 0 12 a0, qm_i x3, qm_i x1, qm_i x2] h) (o1 := (some (qm_i r2), h1)) (qm_mp (G := qm_Gi) hr) rfl ?_
      show qm_Ret _ (22, [some (qm_r 0 12 a0), some (qm_i x1), some (qm_i x2), some (qm_i x3), d4, none, d6], [qm_i r2], h1) _
      refine qm_Ret.eq (t := 100) (e := 25) rfl (fun hc => ?_) (fun hc => ?_)
      · rw [if_pos hc] at ho
        refine qm_Ret.sts 2 (f' := (7, [some (qm_r 0 12 a0), some (qm_i x1), some (qm_i x2), some (qm_i (x3 + (1 : Int32))), d4, none, d6], [], h1)) rfl ?_
        exact ih ho
      · rw [if_neg hc] at ho
        refine qm_Ret.sts 5 (f' := (30, [some (qm_r 0 12 a0), some (qm_i x1), some (qm_i x2), some (qm_i x3), d4, none, d6], [qm_i (1 : Int32), qm_i x2, qm_i x1, qm_i x3, qm_r 0 12 a0], h1)) rfl ?_
        obtain ⟨r4, h3, hr, ho⟩ := qm_b2e ho
        refine qm_Ret.call (X := wX12_holdsAt [qm_r 0 12 a0, qm_i x3, qm_i x1, qm_i x2, qm_i (1 : Int32)] h1) (o1 := (some (qm_i r4), h3)) (qm_mp (G := qm_Gi) hr) rfl ?_
        show qm_Ret _ (33, [some (qm_r 0 12 a0), some (qm_i x1), some (qm_i x2), some (qm_i x3), d4, none, d6], [qm_i r4], h3) _
        refine qm_Ret.ne (t := 100) (e := 36) rfl (fun hc => ?_) (fun hc => ?_)
        · rw [if_pos hc] at ho
          refine qm_Ret.sts 4 (f' := (42, [some (qm_r 0 12 a0), some (qm_i x1), some (qm_i x2), some (qm_i x3), some (qm_l (0 : Int64)), none, some (qm_i (0 : Int32))], [], h3)) rfl ?_
          exact rX12_findGaps_42 (ih) ho
        · rw [if_neg hc] at ho
          refine qm_Ret.sts 2 (f' := (7, [some (qm_r 0 12 a0), some (qm_i x1), some (qm_i x2), some (qm_i (x3 + (1 : Int32))), d4, none, d6], [], h3)) rfl ?_
          exact ih ho
    · rw [if_neg hc] at ho
      cases ho
      exact qm_Ret.ret 1 rfl
set_option maxRecDepth 20000 in
set_option maxHeartbeats 2000000 in
theorem rX12_findGaps_0   {a0 : Nat} {x1 : Int32} {x2 : Int32} {h : qm_H} {r : qm_H} (ho : qX12_findGaps  a0 x1 x2 h = some r) : qm_Ret mX12_findGaps (0, [some (qm_r 0 12 a0), some (qm_i x1), some (qm_i x2), none, none, none, none], [], h) (qm_Gv r) := by
  unfold qX12_findGaps at ho
  refine qm_Ret.sts 3 (f' := (5, [some (qm_r 0 12 a0), some (qm_i x1), some (qm_i x2), none, none, none, none], [], (qm_seti h a0 35 (0 : Int32)))) rfl ?_
  refine qm_Ret.lets (F := fun h1 => (5, [some (qm_r 0 12 a0), some (qm_i x1), some (qm_i x2), none, none, none, none], [], h1)) (G := qm_Gv) ho (fun h1 ho => ?_)
  refine qm_Ret.sts 2 (f' := (7, [some (qm_r 0 12 a0), some (qm_i x1), some (qm_i x2), some (qm_i (0 : Int32)), none, none, none], [], h1)) rfl ?_
  exact rX12_findGaps_7 ho
theorem cX12_findGaps_ok : ∀ q ∈ ([(294, 0, 4, wX12_isPlace), (297, 0, 5, wX12_holdsAt)] : List (Nat × Nat × Nat × qm_C)), qm_CallOK RX12 3 72 q.2.1 q.1 q.2.2.1 q.2.2.2 := List.forall_mem_cons.mpr ⟨Or.inl ⟨yX12_isPlace, cX12_isPlace, 4, (some .boolean), 0, 0, _, sX12_isPlace, ⟨by decide, by decide⟩, ⟨jX12_isPlace, kRX12_294, uRX12⟩, ⟨by decide, by decide, rfl⟩, Or.inl ⟨rfl, rfl, iX12_isPlace, recvX12_isPlace⟩⟩, List.forall_mem_cons.mpr ⟨Or.inl ⟨yX12_holdsAt, cX12_holdsAt, 8, (some .int), 2, 45, _, sX12_holdsAt, ⟨by decide, by decide⟩, ⟨jX12_holdsAt, kRX12_297, uRX12⟩, ⟨by decide, by decide, rfl⟩, Or.inl ⟨rfl, rfl, iX12_holdsAt, recvX12_holdsAt⟩⟩, fun _ h => absurd h List.not_mem_nil⟩⟩
theorem sX12_findGaps : qm_Snd yX12_findGaps cX12_findGaps 7 none 3 72 wX12_findGaps := qm_met (fld := fun k => qm_lk k pfRX12) (con := fun k => qm_lk k pcRX12) (call := fun k => qm_lk k [(294, 0, 4, wX12_isPlace), (297, 0, 5, wX12_holdsAt)]) (tab := qm_tab aX12_findGaps) (plainFor_of_name (by decide)) (qm_fld_ok pfRX12_ok) (qm_con_ok pcRX12_ok) (fun idx kd n f hc => cX12_findGaps_ok (idx, kd, n, f) (qm_lk_mem hc)) (qm_tab_ok aX12_findGaps_ok) (fun vs h o hw => by
  unfold wX12_findGaps at hw
  split at hw
  · obtain ⟨r, hr, rfl⟩ := Option.map_eq_some_iff.mp hw
    exact ⟨Nat.le_of_ble_eq_true rfl, rX12_findGaps_0 (hr)⟩
  · cases hw)
theorem recvX12_findGaps : ∀ vs h o, wX12_findGaps vs h = some o → ∃ ci a rest, vs = qm_r 0 ci a :: rest ∧ qm_R ci = yX12_findGaps.cls := by
  intro vs h o hw
  unfold wX12_findGaps at hw
  split at hw
  · exact ⟨_, _, _, rfl, rfl⟩
  · cases hw
-- RX12 areClosed(J)Z
theorem jX12_areClosed : Jvm.Cond.code yX12_areClosed cX12_areClosed 4 (some .boolean) ∈ qm_all := List.mem_filter.mpr ⟨by decide +kernel, rfl⟩
theorem iX12_areClosed : Jvm.Cond.instanceMethod yX12_areClosed ∈ qm_all ∧ Jvm.Cond.selects yX12_areClosed.cls yX12_areClosed yX12_areClosed ∈ qm_all := ⟨List.mem_filter.mpr ⟨by decide +kernel, rfl⟩, List.mem_filter.mpr ⟨by decide +kernel, rfl⟩⟩
def wX12_areClosed : qm_C := fun vs h => match vs with
  | [.inr (.inr (some (0, 12, p0))), .inr (.inl p1)] => (qX12_areClosed p0 p1 h).map qm_Gi
  | _ => none
def aX12_areClosed : List (Option (Instr × Nat)) := [some (.iconst 0, 1), some (.istore_n 3, 1), some (.iload_n 3, 1), some (.aload_n 0, 1), some (.getfield 375, 3), none, none, some (.if_icmp .ge 24, 3), none, none, some (.aload_n 0, 1), some (.getfield 56, 3), none, none, some (.iload_n 3, 1), some (.laload, 1), some (.lload_n 1, 1), some (.land, 1), some (.lconst 0, 1), some (.lcmp, 1), some (.ifCond .ne 5, 3), none, none, some (.iconst 0, 1), some (.ireturn, 1), some (.iinc 3 1, 3), none, none, some (.goto (-26), 3), none, none, some (.iconst 1, 1), some (.ireturn, 1)]
theorem aX12_areClosed_ok : qm_tabok cX12_areClosed aX12_areClosed = true := by decide +kernel
def mX12_areClosed : qm_M := ((some .boolean), (fun k => qm_lk k pfRX12), (fun k => qm_lk k pcRX12), (fun k => qm_lk k []), qm_tab aX12_areClosed)
set_option maxRecDepth 20000 in
set_option maxHeartbeats 2000000 in
theorem rX12_areClosed_2   : ∀ {fuel : Nat} {a0 : Nat} {l1 : Int64} {x3 : Int32} {h : qm_H} {r : Int32 × qm_H}, qX12_areClosed_2  fuel a0 l1 x3 h = some r → qm_Ret mX12_areClosed (2, [some (qm_r 0 12 a0), some (qm_l l1), none, some (qm_i x3)], [], h) (qm_Gi r) := by
  intro fuel
  induction fuel with
  | zero => intros; rename_i ho; cases ho
  | succ n ih =>
    intro a0 l1 x3 h r ho
    unfold qX12_areClosed_2 at ho
    refine qm_Ret.sts 3 (f' := (7, [some (qm_r 0 12 a0), some (qm_l l1), none, some (qm_i x3)], [qm_i (h.1 a0 35), qm_i x3], h)) rfl ?_
    refine qm_Ret.ge (t := 31) (e := 10) rfl (fun hc => ?_) (fun hc => ?_)
    · rw [if_pos hc] at ho
      refine qm_Ret.sts 3 (f' := (15, [some (qm_r 0 12 a0), some (qm_l l1), none, some (qm_i x3)], [qm_i x3, qm_r 4 64 (a0 + 16)], h)) rfl ?_
      obtain ⟨hg, ho⟩ := qm_ifn ho
      refine qm_Ret.gn (f1 := (16, [some (qm_r 0 12 a0), some (qm_l l1), none, some (qm_i x3)], [qm_l (h.2 (a0 + 16) (x3).toNatClampNeg)], h)) hg rfl ?_
      refine qm_Ret.sts 4 (f' := (20, [some (qm_r 0 12 a0), some (qm_l l1), none, some (qm_i x3)], [qm_i (lg_cmp ((h.2 (a0 + 16) (x3).toNatClampNeg) &&& l1) (0 : Int64))], h)) rfl ?_
      refine qm_Ret.ne (t := 25) (e := 23) rfl (fun hc => ?_) (fun hc => ?_)
      · rw [if_pos hc] at ho
        cases ho
        exact qm_Ret.ret 2 rfl
      · rw [if_neg hc] at ho
        refine qm_Ret.sts 2 (f' := (2, [some (qm_r 0 12 a0), some (qm_l l1), none, some (qm_i (x3 + (1 : Int32)))], [], h)) rfl ?_
        exact ih ho
    · rw [if_neg hc] at ho
      cases ho
      exact qm_Ret.ret 2 rfl
set_option maxRecDepth 20000 in
set_option maxHeartbeats 2000000 in
theorem rX12_areClosed_0   {a0 : Nat} {l1 : Int64} {h : qm_H} {r : Int32 × qm_H} (ho : qX12_areClosed  a0 l1 h = some r) : qm_Ret mX12_areClosed (0, [some (qm_r 0 12 a0), some (qm_l l1), none, none], [], h) (qm_Gi r) := by
  unfold qX12_areClosed at ho
  refine qm_Ret.sts 2 (f' := (2, [some (qm_r 0 12 a0), some (qm_l l1), none, some (qm_i (0 : Int32))], [], h)) rfl ?_
  exact rX12_areClosed_2 ho
theorem cX12_areClosed_ok : ∀ q ∈ ([] : List (Nat × Nat × Nat × qm_C)), qm_CallOK RX12 0 0 q.2.1 q.1 q.2.2.1 q.2.2.2 := fun _ h => absurd h List.not_mem_nil
theorem sX12_areClosed : qm_Snd yX12_areClosed cX12_areClosed 4 (some .boolean) 0 0 wX12_areClosed := qm_met (fld := fun k => qm_lk k pfRX12) (con := fun k => qm_lk k pcRX12) (call := fun k => qm_lk k []) (tab := qm_tab aX12_areClosed) (plainFor_of_name (by decide)) (qm_fld_ok pfRX12_ok) (qm_con_ok pcRX12_ok) (fun idx kd n f hc => cX12_areClosed_ok (idx, kd, n, f) (qm_lk_mem hc)) (qm_tab_ok aX12_areClosed_ok) (fun vs h o hw => by
  unfold wX12_areClosed at hw
  split at hw
  · obtain ⟨r, hr, rfl⟩ := Option.map_eq_some_iff.mp hw
    exact ⟨Nat.le_of_ble_eq_true rfl, rX12_areClosed_0 (hr)⟩
  · cases hw)
theorem recvX12_areClosed : ∀ vs h o, wX12_areClosed vs h = some o → ∃ ci a rest, vs = qm_r 0 ci a :: rest ∧ qm_R ci = yX12_areClosed.cls := by
  intro vs h o hw
  unfold wX12_areClosed at hw
  split at hw
  · exact ⟨_, _, _, rfl, rfl⟩
  · cases hw
-- RX12 doClose(I)Z
theorem jX12_doClose : Jvm.Cond.code yX12_doClose cX12_doClose 8 (some .boolean) ∈ qm_all := List.mem_filter.mpr ⟨by decide +kernel, rfl⟩
theorem iX12_doClose : Jvm.Cond.instanceMethod yX12_doClose ∈ qm_all ∧ Jvm.Cond.selects yX12_doClose.cls yX12_doClose yX12_doClose ∈ qm_all := ⟨List.mem_filter.mpr ⟨by decide +kernel, rfl⟩, List.mem_filter.mpr ⟨by decide +kernel, rfl⟩⟩
def wX12_doClose : qm_C := fun vs h => match vs with
  | [.inr (.inr (some (0, 12, p0))), .inl p1] => (qX12_doClose p0 p1 h).map qm_Gi
  | _ => none
def aX12_doClose : List (Option (Instr × Nat)) := [some (.iload_n 1, 1), some (.ifCond .ne 16, 3), none, none, some (.aload_n 0, 1), some (.getfield 375, 3), none, none, some (.ifCond .ne 7, 3), none, none, some (.iconst 1, 1), some (.goto 4, 3), none, none, some (.iconst 0, 1), some (.ireturn, 1), some (.iconst 0, 1), some (.istore_n 2, 1), some (.iload_n 2, 1), some (.aload_n 0, 1), some (.getfield 279, 3), none, none, some (.if_icmp .ge 224, 3), none, none, some (.iload_n 1, 1), some (.iconst 1, 1), some (.if_icmp .le 9, 3), none, none, some (.iload_n 2, 1), some (.iconst 1, 1), some (.iadd, 1), some (.goto 7, 3), none, none, some (.aload_n 0, 1), some (.getfield 279, 3), none, none, some (.istore_n 3, 1), some (.iload_n 3, 1), some (.aload_n 0, 1), some (.getfield 279, 3), none, none, some (.if_icmp .lt 16, 3), none, none, some (.iload_n 1, 1), some (.iconst 1, 1), some (.if_icmp .ne 189, 3), none, none, some (.iload_n 3, 1), some (.aload_n 0, 1), some (.getfield 279, 3), none, none, some (.if_icmp .ne 181, 3), none, none, some (.iload_n 1, 1), some (.iconst 2, 1), some (.if_icmp .le 9, 3), none, none, some (.iload_n 3, 1), some (.iconst 1, 1), some (.iadd, 1), some (.goto 7, 3), none, none, some (.aload_n 0, 1), some (.getfield 279, 3), none, none, some (.istore 4, 2), none, some (.iload 4, 2), none, some (.aload_n 0, 1), some (.getfield 279, 3), none, none, some (.if_icmp .lt 17, 3), none, none, some (.iload_n 1, 1), some (.iconst 3, 1), some (.if_icmp .ge 144, 3), none, none, some (.iload 4, 2), none, some (.aload_n 0, 1), some (.getfield 279, 3), none, none, some (.if_icmp .ne 135, 3), none, none, some (.aload_n 0, 1), some (.iload_n 2, 1), some (.invokevirtual 288, 3), none, none, some (.ifCond .eq 41, 3), none, none, some (.iload_n 3, 1), some (.aload_n 0, 1), some (.getfield 279, 3), none, none, some (.if_icmp .eq 11, 3), none, none, some (.aload_n 0, 1), some (.iload_n 3, 1), some (.invokevirtual 288, 3), none, none, some (.ifCond .eq 25, 3), none, none, some (.iload 4, 2), none, some (.aload_n 0, 1), some (.getfield 279, 3), none, none, some (.if_icmp .eq 12, 3), none, none, some (.aload_n 0, 1), some (.iload 4, 2), none, some (.invokevirtual 288, 3), none, none, some (.ifCond .eq 7, 3), none, none, some (.iconst 1, 1), some (.goto 4, 3), none, none, some (.iconst 0, 1), some (.istore 5, 2), none, some (.lconst 1, 1), some (.iload_n 2, 1), some (.lshl, 1), some (.iload_n 3, 1), some (.aload_n 0, 1), some (.getfield 279, 3), none, none, some (.if_icmp .ne 7, 3), none, none, some (.lconst 0, 1), some (.goto 6, 3), none, none, some (.lconst 1, 1), some (.iload_n 3, 1), some (.lshl, 1), some (.lor, 1), some (.iload 4, 2), none, some (.aload_n 0, 1), some (.getfield 279, 3), none, none, some (.if_icmp .ne 7, 3), none, none, some (.lconst 0, 1), some (.goto 7, 3), none, none, some (.lconst 1, 1), some (.iload 4, 2), none, some (.lshl, 1), some (.lor, 1), some (.lstore 6, 2), none, some (.iload 5, 2), none, some (.ifCond .eq 36, 3), none, none, some (.aload_n 0, 1), some (.lload 6, 2), none, some (.invokevirtual 378, 3), none, none, some (.ifCond .eq 27, 3), none, none, some (.aload_n 0, 1), some (.getfield 60, 3), none, none, some (.iconst 0, 1), some (.iload_n 2, 1), some (.iastore, 1), some (.aload_n 0, 1), some (.getfield 60, 3), none, none, some (.iconst 1, 1), some (.iload_n 3, 1), some (.iastore, 1), some (.aload_n 0, 1), some (.getfield 60, 3), none, none, some (.iconst 2, 1), some (.iload 4, 2), none, some (.iastore, 1), some (.iconst 1, 1), some (.ireturn, 1), some (.iinc 4 1, 3), none, none, some (.goto (-152), 3), none, none, some (.iinc 3 1, 3), none, none, some (.goto (-196), 3), none, none, some (.iinc 2 1, 3), none, none, some (.goto (-226), 3), none, none, some (.iconst 0, 1), some (.ireturn, 1)]
theorem aX12_doClose_ok : qm_tabok cX12_doClose aX12_doClose = true := by decide +kernel
def mX12_doClose : qm_M := ((some .boolean), (fun k => qm_lk k pfRX12), (fun k => qm_lk k pcRX12), (fun k => qm_lk k [(378, 0, 2, wX12_areClosed), (288, 0, 2, wX12_isOpen)]), qm_tab aX12_doClose)
set_option maxRecDepth 20000 in
set_option maxHeartbeats 2000000 in
theorem rX12_doClose_189 {K19 : Nat → Int32 → Int32 → qm_H → Option (Int32 × qm_H)} {K43 : Nat → Int32 → Int32 → Int32 → qm_H → Option (Int32 × qm_H)} {K81 : Nat → Int32 → Int32 → Int32 → Int32 → qm_H → Option (Int32 × qm_H)} (H19 : ∀ {a0 : Nat} {x1 : Int32} {x2 : Int32} {d3 : Option qm_V} {d4 : Option qm_V} {d5 : Option qm_V} {d6 : Option qm_V} {h : qm_H} {r : Int32 × qm_H}, K19 a0 x1 x2 h = some r → qm_Ret mX12_doClose (19, [some (qm_r 0 12 a0), some (qm_i x1), some (qm_i x2), d3, d4, d5, d6, none], [], h) (qm_Gi r)) (H43 : ∀ {a0 : Nat} {x1 : Int32} {x2 : Int32} {x3 : Int32} {d4 : Option qm_V} {d5 : Option qm_V} {d6 : Option qm_V} {h : qm_H} {r : Int32 × qm_H}, K43 a0 x1 x2 x3 h = some r → qm_Ret mX12_doClose (43, [some (qm_r 0 12 a0), some (qm_i x1), some (qm_i x2), some (qm_i x3), d4, d5, d6, none], [], h) (qm_Gi r)) (H81 : ∀ {a0 : Nat} {x1 : Int32} {x2 : Int32} {x3 : Int32} {x4 : Int32} {d5 : Option qm_V} {d6 : Option qm_V} {h : qm_H} {r : Int32 × qm_H}, K81 a0 x1 x2 x3 x4 h = some r → qm_Ret mX12_doClose (81, [some (qm_r 0 12 a0), some (qm_i x1), some (qm_i x2), some (qm_i x3), some (qm_i x4), d5, d6, none], [], h) (qm_Gi r)) {a0 : Nat} {x1 : Int32} {x2 : Int32} {x3 : Int32} {x4 : Int32} {x5 : Int32} {ls0 : Int64} {ls1 : Int64} {d6 : Option qm_V} {h : qm_H} {r : Int32 × qm_H} (ho : qX12_doClose_189 K19 K43 K81 a0 x1 x2 x3 x4 x5 ls0 ls1 h = some r) : qm_Ret mX12_doClose (189, [some (qm_r 0 12 a0), some (qm_i x1), some (qm_i x2), some (qm_i x3), some (qm_i x4), some (qm_i x5), d6, none], [qm_l ls0, qm_l ls1], h) (qm_Gi r) := by
  unfold qX12_doClose_189 at ho
  refine qm_Ret.sts 1 (f' := (190, [some (qm_r 0 12 a0), some (qm_i x1), some (qm_i x2), some (qm_i x3), some (qm_i x4), some (qm_i x5), d6, none], [qm_l (ls1 ||| ls0)], h)) rfl ?_
  refine qm_Ret.lets (F := fun v1 => (190, [some (qm_r 0 12 a0), some (qm_i x1), some (qm_i x2), some (qm_i x3), some (qm_i x4), some (qm_i x5), d6, none], [qm_l v1], h)) (G := qm_Gi) ho (fun v1 ho => ?_)
  refine qm_Ret.sts 2 (f' := (194, [some (qm_r 0 12 a0), some (qm_i x1), some (qm_i x2), some (qm_i x3), some (qm_i x4), some (qm_i x5), some (qm_l v1), none], [qm_i x5], h)) rfl ?_
  refine qm_Ret.eq (t := 230) (e := 197) rfl (fun hc => ?_) (fun hc => ?_)
  · rw [if_pos hc] at ho
    refine qm_Ret.sts 2 (f' := (81, [some (qm_r 0 12 a0), some (qm_i x1), some (qm_i x2), some (qm_i x3), some (qm_i (x4 + (1 : Int32))), some (qm_i x5), some (qm_l v1), none], [], h)) rfl ?_
    exact H81 ho
  · rw [if_neg hc] at ho
    refine qm_Ret.sts 2 (f' := (200, [some (qm_r 0 12 a0), some (qm_i x1), some (qm_i x2), some (qm_i x3), some (qm_i x4), some (qm_i x5), some (qm_l v1), none], [qm_l v1, qm_r 0 12 a0], h)) rfl ?_
    obtain ⟨r3, h2, hr, ho⟩ := qm_b2e ho
    refine qm_Ret.call (X := wX12_areClosed [qm_r 0 12 a0, qm_l v1] h) (o1 := (some (qm_i r3), h2)) (qm_mp (G := qm_Gi) hr) rfl ?_
    show qm_Ret _ (203, [some (qm_r 0 12 a0), some (qm_i x1), some (qm_i x2), some (qm_i x3), some (qm_i x4), some (qm_i x5), some (qm_l v1), none], [qm_i r3], h2) _
    refine qm_Ret.eq (t := 230) (e := 206) rfl (fun hc => ?_) (fun hc => ?_)
    · rw [if_pos hc] at ho
      refine qm_Ret.sts 2 (f' := (81, [some (qm_r 0 12 a0), some (qm_i x1), some (qm_i x2), some (qm_i x3), some (qm_i (x4 + (1 : Int32))), some (qm_i x5), some (qm_l v1), none], [], h2)) rfl ?_
      exact H81 ho
    · rw [if_neg hc] at ho
      refine qm_Ret.sts 5 (f' := (213, [some (qm_r 0 12 a0), some (qm_i x1), some (qm_i x2), some (qm_i x3), some (qm_i x4), some (qm_i x5), some (qm_l v1), none], [], (qm_seti h2 (a0 + 17) (0 : Int32).toNatClampNeg x2))) rfl ?_
      refine qm_Ret.lets (F := fun h4 => (213, [some (qm_r 0 12 a0), some (qm_i x1), some (qm_i x2), some (qm_i x3), some (qm_i x4), some (qm_i x5), some (qm_l v1), none], [], h4)) (G := qm_Gi) ho (fun h4 ho => ?_)
      refine qm_Ret.sts 5 (f' := (220, [some (qm_r 0 12 a0), some (qm_i x1), some (qm_i x2), some (qm_i x3), some (qm_i x4), some (qm_i x5), some (qm_l v1), none], [], (qm_seti h4 (a0 + 17) (1 : Int32).toNatClampNeg x3))) rfl ?_
      refine qm_Ret.lets (F := fun h5 => (220, [some (qm_r 0 12 a0), some (qm_i x1), some (qm_i x2), some (qm_i x3), some (qm_i x4), some (qm_i x5), some (qm_l v1), none], [], h5)) (G := qm_Gi) ho (fun h5 ho => ?_)
      refine qm_Ret.sts 5 (f' := (228, [some (qm_r 0 12 a0), some (qm_i x1), some (qm_i x2), some (qm_i x3), some (qm_i x4), some (qm_i x5), some (qm_l v1), none], [], (qm_seti h5 (a0 + 17) (2 : Int32).toNatClampNeg x4))) rfl ?_
      refine qm_Ret.lets (F := fun h6 => (228, [some (qm_r 0 12 a0), some (qm_i x1), some (qm_i x2), some (qm_i x3), some (qm_i x4), some (qm_i x5), some (qm_l v1), none], [], h6)) (G := qm_Gi) ho (fun h6 ho => ?_)
      cases ho
      exact qm_Ret.ret 2 rfl
set_option maxRecDepth 20000 in
set_option maxHeartbeats 2000000 in
theorem rX12_doClose_151 {K19 : Nat → Int32 → Int32 → qm_H → Option (Int32 × qm_H)} {K43 : Nat → Int32 → Int32 → Int32 → qm_H → Option (Int32 × qm_H)} {K81 : Nat → Int32 → Int32 → Int32 → Int32 → qm_H → Option (Int32 × qm_H)} (H19 : ∀ {a0 : Nat} {x1 : Int32} {x2 : Int32} {d3 : Option qm_V} {d4 : Option qm_V} {d5 : Option qm_V} {d6 : Option qm_V} {h : qm_H} {r : Int32 × qm_H}, K19 a0 x1 x2 h = some r → qm_Ret mX12_doClose (19, [some (qm_r 0 12 a0), some (qm_i x1), some (qm_i x2), d3, d4, d5, d6, none], [], h) (qm_Gi r)) (H43 : ∀ {a0 : Nat} {x1 : Int32} {x2 : Int32} {x3 : Int32} {d4 : Option qm_V} {d5 : Option qm_V} {d6 : Option qm_V} {h : qm_H} {r : Int32 × qm_H}, K43 a0 x1 x2 x3 h = some r → qm_Ret mX12_doClose (43, [some (qm_r 0 12 a0), some (qm_i x1), some (qm_i x2), some (qm_i x3), d4, d5, d6, none], [], h) (qm_Gi r)) (H81 : ∀ {a0 : Nat} {x1 : Int32} {x2 : Int32} {x3 : Int32} {x4 : Int32} {d5 : Option qm_V} {d6 : Option qm_V} {h : qm_H} {r : Int32 × qm_H}, K81 a0 x1 x2 x3 x4 h = some r → qm_Ret mX12_doClose (81, [some (qm_r 0 12 a0), some (qm_i x1), some (qm_i x2), some (qm_i x3), some (qm_i x4), d5, d6, none], [], h) (qm_Gi r)) {a0 : Nat} {x1 : Int32} {x2 : Int32} {x3 : Int32} {x4 : Int32} {xs0 : Int32} {d5 : Option qm_V} {d6 : Option qm_V} {h : qm_H} {r : Int32 × qm_H} (ho : qX12_doClose_151 K19 K43 K81 a0 x1 x2 x3 x4 xs0 h = some r) : qm_Ret mX12_doClose (151, [some (qm_r 0 12 a0), some (qm_i x1), some (qm_i x2), some (qm_i x3), some (qm_i x4), d5, d6, none], [qm_i xs0], h) (qm_Gi r) := by
  unfold qX12_doClose_151 at ho
  refine qm_Ret.sts 7 (f' := (161, [some (qm_r 0 12 a0), some (qm_i x1), some (qm_i x2), some (qm_i x3), some (qm_i x4), some (qm_i xs0), d6, none], [qm_i (h.1 a0 27), qm_i x3, qm_l (qm_lshl (1 : Int64) x2)], h)) rfl ?_
  refine qm_Ret.ne (t := 168) (e := 164) rfl (fun hc => ?_) (fun hc => ?_)
  · rw [if_pos hc] at ho
    refine qm_Ret.sts 6 (f' := (178, [some (qm_r 0 12 a0), some (qm_i x1), some (qm_i x2), some (qm_i x3), some (qm_i x4), some (qm_i xs0), d6, none], [qm_i (h.1 a0 27), qm_i x4, qm_l ((qm_lshl (1 : Int64) x2) ||| (0 : Int64))], h)) rfl ?_
    refine qm_Ret.ne (t := 185) (e := 181) rfl (fun hc => ?_) (fun hc => ?_)
    · rw [if_pos hc] at ho
      refine qm_Ret.sts 2 (f' := (189, [some (qm_r 0 12 a0), some (qm_i x1), some (qm_i x2), some (qm_i x3), some (qm_i x4), some (qm_i xs0), d6, none], [qm_l (0 : Int64), qm_l ((qm_lshl (1 : Int64) x2) ||| (0 : Int64))], h)) rfl ?_
      exact rX12_doClose_189 H19 H43 H81 ho
    · rw [if_neg hc] at ho
      refine qm_Ret.sts 3 (f' := (189, [some (qm_r 0 12 a0), some (qm_i x1), some (qm_i x2), some (qm_i x3), some (qm_i x4), some (qm_i xs0), d6, none], [qm_l (qm_lshl (1 : Int64) x4), qm_l ((qm_lshl (1 : Int64) x2) ||| (0 : Int64))], h)) rfl ?_
      exact rX12_doClose_189 H19 H43 H81 ho
  · rw [if_neg hc] at ho
    refine qm_Ret.sts 7 (f' := (178, [some (qm_r 0 12 a0), some (qm_i x1), some (qm_i x2), some (qm_i x3), some (qm_i x4), some (qm_i xs0), d6, none], [qm_i (h.1 a0 27), qm_i x4, qm_l ((qm_lshl (1 : Int64) x2) ||| (qm_lshl (1 : Int64) x3))], h)) rfl ?_
    refine qm_Ret.ne (t := 185) (e := 181) rfl (fun hc => ?_) (fun hc => ?_)
    · rw [if_pos hc] at ho
      refine qm_Ret.sts 2 (f' := (189, [some (qm_r 0 12 a0), some (qm_i x1), some (qm_i x2), some (qm_i x3), some (qm_i x4), some (qm_i xs0), d6, none], [qm_l (0 : Int64), qm_l ((qm_lshl (1 : Int64) x2) ||| (qm_lshl (1 : Int64) x3))], h)) rfl ?_
      exact rX12_doClose_189 H19 H43 H81 ho
    · rw [if_neg hc] at ho
      refine qm_Ret.sts 3 (f' := (189, [some (qm_r 0 12 a0), some (qm_i x1), some (qm_i x2), some (qm_i x3), some (qm_i x4), some (qm_i xs0), d6, none], [qm_l (qm_lshl (1 : Int64) x4), qm_l ((qm_lshl (1 : Int64) x2) ||| (qm_lshl (1 : Int64) x3))], h)) rfl ?_
      exact rX12_doClose_189 H19 H43 H81 ho
set_option maxRecDepth 20000 in
set_option maxHeartbeats 2000000 in
theorem rX12_doClose_128 {K19 : Nat → Int32 → Int32 → qm_H → Option (Int32 × qm_H)} {K43 : Nat → Int32 → Int32 → Int32 → qm_H → Option (Int32 × qm_H)} {K81 : Nat → Int32 → Int32 → Int32 → Int32 → qm_H → Option (Int32 × qm_H)} (H19 : ∀ {a0 : Nat} {x1 : Int32} {x2 : Int32} {d3 : Option qm_V} {d4 : Option qm_V} {d5 : Option qm_V} {d6 : Option qm_V} {h : qm_H} {r : Int32 × qm_H}, K19 a0 x1 x2 h = some r → qm_Ret mX12_doClose (19, [some (qm_r 0 12 a0), some (qm_i x1), some (qm_i x2), d3, d4, d5, d6, none], [], h) (qm_Gi r)) (H43 : ∀ {a0 : Nat} {x1 : Int32} {x2 : Int32} {x3 : Int32} {d4 : Option qm_V} {d5 : Option qm_V} {d6 : Option qm_V} {h : qm_H} {r : Int32 × qm_H}, K43 a0 x1 x2 x3 h = some r → qm_Ret mX12_doClose (43, [some (qm_r 0 12 a0), some (qm_i x1), some (qm_i x2), some (qm_i x3), d4, d5, d6, none], [], h) (qm_Gi r)) (H81 : ∀ {a0 : Nat} {x1 : Int32} {x2 : Int32} {x3 : Int32} {x4 : Int32} {d5 : Option qm_V} {d6 : Option qm_V} {h : qm_H} {r : Int32 × qm_H}, K81 a0 x1 x2 x3 x4 h = some r → qm_Ret mX12_doClose (81, [some (qm_r 0 12 a0), some (qm_i x1), some (qm_i x2), some (qm_i x3), some (qm_i x4), d5, d6, none], [], h) (qm_Gi r)) {a0 : Nat} {x1 : Int32} {x2 : Int32} {x3 : Int32} {x4 : Int32} {d5 : Option qm_V} {d6 : Option qm_V} {h : qm_H} {r : Int32 × qm_H} (ho : qX12_doClose_128 K19 K43 K81 a0 x1 x2 x3 x4 h = some r) : qm_Ret mX12_doClose (128, [some (qm_r 0 12 a0), some (qm_i x1), some (qm_i x2), some (qm_i x3), some (qm_i x4), d5, d6, none], [], h) (qm_Gi r) := by
  unfold qX12_doClose_128 at ho
  refine qm_Ret.sts 3 (f' := (134, [some (qm_r 0 12 a0), some (qm_i x1), some (qm_i x2), some (qm_i x3), some (qm_i x4), d5, d6, none], [qm_i (h.1 a0 27), qm_i x4], h)) rfl ?_
  refine qm_Ret.eq (t := 146) (e := 137) rfl (fun hc => ?_) (fun hc => ?_)
  · rw [if_pos hc] at ho
    refine qm_Ret.sts 2 (f' := (151, [some (qm_r 0 12 a0), some (qm_i x1), some (qm_i x2), some (qm_i x3), some (qm_i x4), d5, d6, none], [qm_i (1 : Int32)], h)) rfl ?_
    exact rX12_doClose_151 H19 H43 H81 ho
  · rw [if_neg hc] at ho
    refine qm_Ret.sts 2 (f' := (140, [some (qm_r 0 12 a0), some (qm_i x1), some (qm_i x2), some (qm_i x3), some (qm_i x4), d5, d6, none], [qm_i x4, qm_r 0 12 a0], h)) rfl ?_
    obtain ⟨r2, h1, hr, ho⟩ := qm_b2e ho
    refine qm_Ret.call (X := wX12_isOpen [qm_r 0 12 a0, qm_i x4] h) (o1 := (some (qm_i r2), h1)) (qm_mp (G := qm_Gi) hr) rfl ?_
    show qm_Ret _ (143, [some (qm_r 0 12 a0), some (qm_i x1), some (qm_i x2), some (qm_i x3), some (qm_i x4), d5, d6, none], [qm_i r2], h1) _
    refine qm_Ret.eq (t := 150) (e := 146) rfl (fun hc => ?_) (fun hc => ?_)
    · rw [if_pos hc] at ho
      refine qm_Ret.sts 1 (f' := (151, [some (qm_r 0 12 a0), some (qm_i x1), some (qm_i x2), some (qm_i x3), some (qm_i x4), d5, d6, none], [qm_i (0 : Int32)], h1)) rfl ?_
      exact rX12_doClose_151 H19 H43 H81 ho
    · rw [if_neg hc] at ho
      refine qm_Ret.sts 2 (f' := (151, [some (qm_r 0 12 a0), some (qm_i x1), some (qm_i x2), some (qm_i x3), some (qm_i x4), d5, d6, none], [qm_i (1 : Int32)], h1)) rfl ?_
      exact rX12_doClose_151 H19 H43 H81 ho
set_option maxRecDepth 20000 in
set_option maxHeartbeats 2000000 in
theorem rX12_doClose_104 {K19 : Nat → Int32 → Int32 → qm_H → Option (Int32 × qm_H)} {K43 : Nat → Int32 → Int32 → Int32 → qm_H → Option (Int32 × qm_H)} {K81 : Nat → Int32 → Int32 → Int32 → Int32 → qm_H → Option (Int32 × qm_H)} (H19 : ∀ {a0 : Nat} {x1 : Int32} {x2 : Int32} {d3 : Option qm_V} {d4 : Option qm_V} {d5 : Option qm_V} {d6 : Option qm_V} {h : qm_H} {r : Int32 × qm_H}, K19 a0 x1 x2 h = some r → qm_Ret mX12_doClose (19, [some (qm_r 0 12 a0), some (qm_i x1), some (qm_i x2), d3, d4, d5, d6, none], [], h) (qm_Gi r)) (H43 : ∀ {a0 : Nat} {x1 : Int32} {x2 : Int32} {x3 : Int32} {d4 : Option qm_V} {d5 : Option qm_V} {d6 : Option qm_V} {h : qm_H} {r : Int32 × qm_H}, K43 a0 x1 x2 x3 h = some r → qm_Ret mX12_doClose (43, [some (qm_r 0 12 a0), some (qm_i x1), some (qm_i x2), some (qm_i x3), d4, d5, d6, none], [], h) (qm_Gi r)) (H81 : ∀ {a0 : Nat} {x1 : Int32} {x2 : Int32} {x3 : Int32} {x4 : Int32} {d5 : Option qm_V} {d6 : Option qm_V} {h : qm_H} {r : Int32 × qm_H}, K81 a0 x1 x2 x3 x4 h = some r → qm_Ret mX12_doClose (81, [some (qm_r 0 12 a0), some (qm_i x1), some (qm_i x2), some (qm_i x3), some (qm_i x4), d5, d6, none], [], h) (qm_Gi r)) {a0 : Nat} {x1 : Int32} {x2 : Int32} {x3 : Int32} {x4 : Int32} {d5 : Option qm_V} {d6 : Option qm_V} {h : qm_H} {r : Int32 × qm_H} (ho : qX12_doClose_104 K19 K43 K81 a0 x1 x2 x3 x4 h = some r) : qm_Ret mX12_doClose (104, [some (qm_r 0 12 a0), some (qm_i x1), some (qm_i x2), some (qm_i x3), some (qm_i x4), d5, d6, none], [], h) (qm_Gi r) := by
  unfold qX12_doClose_104 at ho
  refine qm_Ret.sts 2 (f' := (106, [some (qm_r 0 12 a0), some (qm_i x1), some (qm_i x2), some (qm_i x3), some (qm_i x4), d5, d6, none], [qm_i x2, qm_r 0 12 a0], h)) rfl ?_
  obtain ⟨r2, h1, hr, ho⟩ := qm_b2e ho
  refine qm_Ret.call (X := wX12_isOpen [qm_r 0 12 a0, qm_i x2] h) (o1 := (some (qm_i r2), h1)) (qm_mp (G := qm_Gi) hr) rfl ?_
  show qm_Ret _ (109, [some (qm_r 0 12 a0), some (qm_i x1), some (qm_i x2), some (qm_i x3), some (qm_i x4), d5, d6, none], [qm_i r2], h1) _
  refine qm_Ret.eq (t := 150) (e := 112) rfl (fun hc => ?_) (fun hc => ?_)
  · rw [if_pos hc] at ho
    refine qm_Ret.sts 1 (f' := (151, [some (qm_r 0 12 a0), some (qm_i x1), some (qm_i x2), some (qm_i x3), some (qm_i x4), d5, d6, none], [qm_i (0 : Int32)], h1)) rfl ?_
    exact rX12_doClose_151 H19 H43 H81 ho
  · rw [if_neg hc] at ho
    refine qm_Ret.sts 3 (f' := (117, [some (qm_r 0 12 a0), some (qm_i x1), some (qm_i x2), some (qm_i x3), some (qm_i x4), d5, d6, none], [qm_i (h1.1 a0 27), qm_i x3], h1)) rfl ?_
    refine qm_Ret.eq (t := 128) (e := 120) rfl (fun hc => ?_) (fun hc => ?_)
    · rw [if_pos hc] at ho
      exact rX12_doClose_128 H19 H43 H81 ho
    · rw [if_neg hc] at ho
      refine qm_Ret.sts 2 (f' := (122, [some (qm_r 0 12 a0), some (qm_i x1), some (qm_i x2), some (qm_i x3), some (qm_i x4), d5, d6, none], [qm_i x3, qm_r 0 12 a0], h1)) rfl ?_
      obtain ⟨r4, h3, hr, ho⟩ := qm_b2e ho
      refine qm_Ret.call (X := wX12_isOpen [qm_r 0 12 a0, qm_i x3] h1) (o1 := (some (qm_i r4), h3)) (qm_mp (G := qm_Gi) hr) rfl ?_
      show qm_Ret _ (125, [some (qm_r 0 12 a0), some (qm_i x1), some (qm_i x2), some (qm_i x3), some (qm_i x4), d5, d6, none], [qm_i r4], h3) _
      refine qm_Ret.eq (t := 150) (e := 128) rfl (fun hc => ?_) (fun hc => ?_)
      · rw [if_pos hc] at ho
        refine qm_Ret.sts 1 (f' := (151, [some (qm_r 0 12 a0), some (qm_i x1), some (qm_i x2), some (qm_i x3), some (qm_i x4), d5, d6, none], [qm_i (0 : Int32)], h3)) rfl ?_
        exact rX12_doClose_151 H19 H43 H81 ho
      · rw [if_neg hc] at ho
        exact rX12_doClose_128 H19 H43 H81 ho
set_option maxRecDepth 20000 in
set_option maxHeartbeats 2000000 in
theorem rX12_doClose_81 {K19 : Nat → Int32 → Int32 → qm_H → Option (Int32 × qm_H)} {K43 : Nat → Int32 → Int32 → Int32 → qm_H → Option (Int32 × qm_H)} (H19 : ∀ {a0 : Nat} {x1 : Int32} {x2 : Int32} {d3 : Option qm_V} {d4 : Option qm_V} {d5 : Option qm_V} {d6 : Option qm_V} {h : qm_H} {r : Int32 × qm_H}, K19 a0 x1 x2 h = some r → qm_Ret mX12_doClose (19, [some (qm_r 0 12 a0), some (qm_i x1), some (qm_i x2), d3, d4, d5, d6, none], [], h) (qm_Gi r)) (H43 : ∀ {a0 : Nat} {x1 : Int32} {x2 : Int32} {x3 : Int32} {d4 : Option qm_V} {d5 : Option qm_V} {d6 : Option qm_V} {h : qm_H} {r : Int32 × qm_H}, K43 a0 x1 x2 x3 h = some r → qm_Ret mX12_doClose (43, [some (qm_r 0 12 a0), some (qm_i x1), some (qm_i x2), some (qm_i x3), d4, d5, d6, none], [], h) (qm_Gi r)) : ∀ {fuel : Nat} {a0 : Nat} {x1 : Int32} {x2 : Int32} {x3 : Int32} {x4 : Int32} {d5 : Option qm_V} {d6 : Option qm_V} {h : qm_H} {r : Int32 × qm_H}, qX12_doClose_81 K19 K43 fuel a0 x1 x2 x3 x4 h = some r → qm_Ret mX12_doClose (81, [some (qm_r 0 12 a0), some (qm_i x1), some (qm_i x2), some (qm_i x3), some (qm_i x4), d5, d6, none], [], h) (qm_Gi r) := by
  intro fuel
  induction fuel with
  | zero => intros; rename_i ho; cases ho
  | succ n ih =>
    intro a0 x1 x2 x3 x4 d5 d6 h r ho
    unfold qX12_doClose_81 at ho
    refine qm_Ret.sts 3 (f' := (87, [some (qm_r 0 12 a0), some (qm_i x1), some (qm_i x2), some (qm_i x3), some (qm_i x4), d5, d6, none], [qm_i (h.1 a0 27), qm_i x4], h)) rfl ?_
    refine qm_Ret.lt (t := 104) (e := 90) rfl (fun hc => ?_) (fun hc => ?_)
    · rw [if_pos hc] at ho
      exact rX12_doClose_104 H19 H43 (ih) ho
    · rw [if_neg hc] at ho
      refine qm_Ret.sts 2 (f' := (92, [some (qm_r 0 12 a0), some (qm_i x1), some (qm_i x2), some (qm_i x3), some (qm_i x4), d5, d6, none], [qm_i (3 : Int32), qm_i x1], h)) rfl ?_
      refine qm_Ret.ge (t := 236) (e := 95) rfl (fun hc => ?_) (fun hc => ?_)
      · rw [if_pos hc] at ho
        refine qm_Ret.sts 3 (f' := (101, [some (qm_r 0 12 a0), some (qm_i x1), some (qm_i x2), some (qm_i x3), some (qm_i x4), d5, d6, none], [qm_i (h.1 a0 27), qm_i x4], h)) rfl ?_
        refine qm_Ret.ne (t := 236) (e := 104) rfl (fun hc => ?_) (fun hc => ?_)
        · rw [if_pos hc] at ho
          exact rX12_doClose_104 H19 H43 (ih) ho
        · rw [if_neg hc] at ho
          refine qm_Ret.sts 2 (f' := (43, [some (qm_r 0 12 a0), some (qm_i x1), some (qm_i x2), some (qm_i (x3 + (1 : Int32))), some (qm_i x4), d5, d6, none], [], h)) rfl ?_
          exact H43 ho
      · rw [if_neg hc] at ho
        refine qm_Ret.sts 2 (f' := (43, [some (qm_r 0 12 a0), some (qm_i x1), some (qm_i x2), some (qm_i (x3 + (1 : Int32))), some (qm_i x4), d5, d6, none], [], h)) rfl ?_
        exact H43 ho
set_option maxRecDepth 20000 in
set_option maxHeartbeats 2000000 in
theorem rX12_doClose_43 {K19 : Nat → Int32 → Int32 → qm_H → Option (Int32 × qm_H)} (H19 : ∀ {a0 : Nat} {x1 : Int32} {x2 : Int32} {d3 : Option qm_V} {d4 : Option qm_V} {d5 : Option qm_V} {d6 : Option qm_V} {h : qm_H} {r : Int32 × qm_H}, K19 a0 x1 x2 h = some r → qm_Ret mX12_doClose (19, [some (qm_r 0 12 a0), some (qm_i x1), some (qm_i x2), d3, d4, d5, d6, none], [], h) (qm_Gi r)) : ∀ {fuel : Nat} {a0 : Nat} {x1 : Int32} {x2 : Int32} {x3 : Int32} {d4 : Option qm_V} {d5 : Option qm_V} {d6 : Option qm_V} {h : qm_H} {r : Int32 × qm_H}, qX12_doClose_43 K19 fuel a0 x1 x2 x3 h = some r → qm_Ret mX12_doClose (43, [some (qm_r 0 12 a0), some (qm_i x1), some (qm_i x2), some (qm_i x3), d4, d5, d6, none], [], h) (qm_Gi r) := by
  intro fuel
  induction fuel with
  | zero => intros; rename_i ho; cases ho
  | succ n ih =>
    intro a0 x1 x2 x3 d4 d5 d6 h r ho
    unfold qX12_doClose_43 at ho
    refine qm_Ret.sts 3 (f' := (48, [some (qm_r 0 12 a0), some (qm_i x1), some (qm_i x2), some (qm_i x3), d4, d5, d6, none], [qm_i (h.1 a0 27), qm_i x3], h)) rfl ?_
    refine qm_Ret.lt (t := 64) (e := 51) rfl (fun hc => ?_) (fun hc => ?_)
    · rw [if_pos hc] at ho
      refine qm_Ret.sts 2 (f' := (66, [some (qm_r 0 12 a0), some (qm_i x1), some (qm_i x2), some (qm_i x3), d4, d5, d6, none], [qm_i (2 : Int32), qm_i x1], h)) rfl ?_
      refine qm_Ret.le (t := 75) (e := 69) rfl (fun hc => ?_) (fun hc => ?_)
      · rw [if_pos hc] at ho
        refine qm_Ret.sts 4 (f' := (79, [some (qm_r 0 12 a0), some (qm_i x1), some (qm_i x2), some (qm_i x3), d4, d5, d6, none], [qm_i (x3 + (1 : Int32))], h)) rfl ?_
        refine qm_Ret.lets (F := fun v1 => (79, [some (qm_r 0 12 a0), some (qm_i x1), some (qm_i x2), some (qm_i x3), d4, d5, d6, none], [qm_i v1], h)) (G := qm_Gi) ho (fun v1 ho => ?_)
        refine qm_Ret.sts 1 (f' := (81, [some (qm_r 0 12 a0), some (qm_i x1), some (qm_i x2), some (qm_i x3), some (qm_i v1), d5, d6, none], [], h)) rfl ?_
        exact rX12_doClose_81 H19 (ih) ho
      · rw [if_neg hc] at ho
        refine qm_Ret.sts 3 (f' := (81, [some (qm_r 0 12 a0), some (qm_i x1), some (qm_i x2), some (qm_i x3), some (qm_i (h.1 a0 27)), d5, d6, none], [], h)) rfl ?_
        exact rX12_doClose_81 H19 (ih) ho
    · rw [if_neg hc] at ho
      refine qm_Ret.sts 2 (f' := (53, [some (qm_r 0 12 a0), some (qm_i x1), some (qm_i x2), some (qm_i x3), d4, d5, d6, none], [qm_i (1 : Int32), qm_i x1], h)) rfl ?_
      refine qm_Ret.ne (t := 242) (e := 56) rfl (fun hc => ?_) (fun hc => ?_)
      · rw [if_pos hc] at ho
        refine qm_Ret.sts 3 (f' := (61, [some (qm_r 0 12 a0), some (qm_i x1), some (qm_i x2), some (qm_i x3), d4, d5, d6, none], [qm_i (h.1 a0 27), qm_i x3], h)) rfl ?_
        refine qm_Ret.ne (t := 242) (e := 64) rfl (fun hc => ?_) (fun hc => ?_)
        · rw [if_pos hc] at ho
          refine qm_Ret.sts 2 (f' := (66, [some (qm_r 0 12 a0), some (qm_i x1), some (qm_i x2), some (qm_i x3), d4, d5, d6, none], [qm_i (2 : Int32), qm_i x1], h)) rfl ?_
          refine qm_Ret.le (t := 75) (e := 69) rfl (fun hc => ?_) (fun hc => ?_)
          · rw [if_pos hc] at ho
            refine qm_Ret.sts 4 (f' := (79, [some (qm_r 0 12 a0), some (qm_i x1), some (qm_i x2), some (qm_i x3), d4, d5, d6, none], [qm_i (x3 + (1 : Int32))], h)) rfl ?_
            refine qm_Ret.lets (F := fun v2 => (79, [some (qm_r 0 12 a0), some (qm_i x1), some (qm_i x2), some (qm_i x3), d4, d5, d6, none], [qm_i v2], h)) (G := qm_Gi) ho (fun v2 ho => ?_)
            refine qm_Ret.sts 1 (f' := (81, [some (qm_r 0 12 a0), some (qm_i x1), some (qm_i x2), some (qm_i x3), some (qm_i v2), d5, d6, none], [], h)) rfl ?_
            exact rX12_doClose_81 H19 (ih) ho
          · rw [if_neg hc] at ho
            refine qm_Ret.sts 3 (f' := (81, [some (qm_r 0 12 a0), some (qm_i x1), some (qm_i x2), some (qm_i x3), some (qm_i (h.1 a0 27)), d5, d6, none], [], h)) rfl ?_
            exact rX12_doClose_81 H19 (ih) ho
        · rw [if_neg hc] at ho
          refine qm_Ret.sts 2 (f' := (19, [some (qm_r 0 12 a0), some (qm_i x1), some (qm_i (x2 + (1 : Int32))), some (qm_i x3), d4, d5, d6, none], [], h)) rfl ?_
          exact H19 ho
      · rw [if_neg hc] at ho
        refine qm_Ret.sts 2 (f' := (19, [some (qm_r 0 12 a0), some (qm_i x1), some (qm_i (x2 + (1 : Int32))), some (qm_i x3), d4, d5, d6, none], [], h)) rfl ?_
        exact H19 ho
set_option maxRecDepth 20000 in
set_option maxHeartbeats 2000000 in
theorem rX12_doClose_19   : ∀ {fuel : Nat} {a0 : Nat} {x1 : Int32} {x2 : Int32} {d3 : Option qm_V} {d4 : Option qm_V} {d5 : Option qm_V} {d6 : Option qm_V} {h : qm_H} {r : Int32 × qm_H}, qX12_doClose_19  fuel a0 x1 x2 h = some r → qm_Ret mX12_doClose (19, [some (qm_r 0 12 a0), some (qm_i x1), some (qm_i x2), d3, d4, d5, d6, none], [], h) (qm_Gi r) := by
  intro fuel
  induction fuel with
  | zero => intros; rename_i ho; cases ho
  | succ n ih =>
    intro a0 x1 x2 d3 d4 d5 d6 h r ho
    unfold qX12_doClose_19 at ho
    refine qm_Ret.sts 3 (f' := (24, [some (qm_r 0 12 a0), some (qm_i x1), some (qm_i x2), d3, d4, d5, d6, none], [qm_i (h.1 a0 27), qm_i x2], h)) rfl ?_
    refine qm_Ret.ge (t := 248) (e := 27) rfl (fun hc => ?_) (fun hc => ?_)
    · rw [if_pos hc] at ho
      refine qm_Ret.sts 2 (f' := (29, [some (qm_r 0 12 a0), some (qm_i x1), some (qm_i x2), d3, d4, d5, d6, none], [qm_i (1 : Int32), qm_i x1], h)) rfl ?_
      refine qm_Ret.le (t := 38) (e := 32) rfl (fun hc => ?_) (fun hc => ?_)
      · rw [if_pos hc] at ho
        refine qm_Ret.sts 4 (f' := (42, [some (qm_r 0 12 a0), some (qm_i x1), some (qm_i x2), d3, d4, d5, d6, none], [qm_i (x2 + (1 : Int32))], h)) rfl ?_
        refine qm_Ret.lets (F := fun v1 => (42, [some (qm_r 0 12 a0), some (qm_i x1), some (qm_i x2), d3, d4, d5, d6, none], [qm_i v1], h)) (G := qm_Gi) ho (fun v1 ho => ?_)
        refine qm_Ret.sts 1 (f' := (43, [some (qm_r 0 12 a0), some (qm_i x1), some (qm_i x2), some (qm_i v1), d4, d5, d6, none], [], h)) rfl ?_
        exact rX12_doClose_43 (ih) ho
      · rw [if_neg hc] at ho
        refine qm_Ret.sts 3 (f' := (43, [some (qm_r 0 12 a0), some (qm_i x1), some (qm_i x2), some (qm_i (h.1 a0 27)), d4, d5, d6, none], [], h)) rfl ?_
        exact rX12_doClose_43 (ih) ho
    · rw [if_neg hc] at ho
      cases ho
      exact qm_Ret.ret 2 rfl
set_option maxRecDepth 20000 in
set_option maxHeartbeats 2000000 in
theorem rX12_doClose_0   {a0 : Nat} {x1 : Int32} {h : qm_H} {r : Int32 × qm_H} (ho : qX12_doClose  a0 x1 h = some r) : qm_Ret mX12_doClose (0, [some (qm_r 0 12 a0), some (qm_i x1), none, none, none, none, none, none], [], h) (qm_Gi r) := by
  unfold qX12_doClose at ho
  refine qm_Ret.sts 1 (f' := (1, [some (qm_r 0 12 a0), some (qm_i x1), none, none, none, none, none, none], [qm_i x1], h)) rfl ?_
  refine qm_Ret.ne (t := 17) (e := 4) rfl (fun hc => ?_) (fun hc => ?_)
  · rw [if_pos hc] at ho
    refine qm_Ret.sts 2 (f' := (8, [some (qm_r 0 12 a0), some (qm_i x1), none, none, none, none, none, none], [qm_i (h.1 a0 35)], h)) rfl ?_
    refine qm_Ret.ne (t := 15) (e := 11) rfl (fun hc => ?_) (fun hc => ?_)
    · rw [if_pos hc] at ho
      cases ho
      exact qm_Ret.ret 3 rfl
    · rw [if_neg hc] at ho
      cases ho
      exact qm_Ret.ret 2 rfl
  · rw [if_neg hc] at ho
    refine qm_Ret.sts 2 (f' := (19, [some (qm_r 0 12 a0), some (qm_i x1), some (qm_i (0 : Int32)), none, none, none, none, none], [], h)) rfl ?_
    exact rX12_doClose_19 ho
theorem cX12_doClose_ok : ∀ q ∈ ([(378, 0, 2, wX12_areClosed), (288, 0, 2, wX12_isOpen)] : List (Nat × Nat × Nat × qm_C)), qm_CallOK RX12 2 42 q.2.1 q.1 q.2.2.1 q.2.2.2 := List.forall_mem_cons.mpr ⟨Or.inl ⟨yX12_areClosed, cX12_areClosed, 4, (some .boolean), 0, 0, _, sX12_areClosed, ⟨by decide, by decide⟩, ⟨jX12_areClosed, kRX12_378, uRX12⟩, ⟨by decide, by decide, rfl⟩, Or.inl ⟨rfl, rfl, iX12_areClosed, recvX12_areClosed⟩⟩, List.forall_mem_cons.mpr ⟨Or.inl ⟨yX12_isOpen, cX12_isOpen, 2, (some .boolean), 1, 21, _, sX12_isOpen, ⟨by decide, by decide⟩, ⟨jX12_isOpen, kRX12_288, uRX12⟩, ⟨by decide, by decide, rfl⟩, Or.inl ⟨rfl, rfl, iX12_isOpen, recvX12_isOpen⟩⟩, fun _ h => absurd h List.not_mem_nil⟩⟩
theorem sX12_doClose : qm_Snd yX12_doClose cX12_doClose 8 (some .boolean) 2 42 wX12_doClose := qm_met (fld := fun k => qm_lk k pfRX12) (con := fun k => qm_lk k pcRX12) (call := fun k => qm_lk k [(378, 0, 2, wX12_areClosed), (288, 0, 2, wX12_isOpen)]) (tab := qm_tab aX12_doClose) (plainFor_of_name (by decide)) (qm_fld_ok pfRX12_ok) (qm_con_ok pcRX12_ok) (fun idx kd n f hc => cX12_doClose_ok (idx, kd, n, f) (qm_lk_mem hc)) (qm_tab_ok aX12_doClose_ok) (fun vs h o hw => by
  unfold wX12_doClose at hw
  split at hw
  · obtain ⟨r, hr, rfl⟩ := Option.map_eq_some_iff.mp hw
    exact ⟨Nat.le_of_ble_eq_true rfl, rX12_doClose_0 (hr)⟩
  · cases hw)
theorem recvX12_doClose : ∀ vs h o, wX12_doClose vs h = some o → ∃ ci a rest, vs = qm_r 0 ci a :: rest ∧ qm_R ci = yX12_doClose.cls := by
  intro vs h o hw
  unfold wX12_doClose at hw
  split at hw
  · exact ⟨_, _, _, rfl, rfl⟩
  · cases hw
-- RX12 closes(IIII)I
theorem jX12_closes : Jvm.Cond.code yX12_closes cX12_closes 6 (some .int) ∈ qm_all := List.mem_filter.mpr ⟨by decide +kernel, rfl⟩
theorem iX12_closes : Jvm.Cond.instanceMethod yX12_closes ∈ qm_all ∧ Jvm.Cond.selects yX12_closes.cls yX12_closes yX12_closes ∈ qm_all := ⟨List.mem_filter.mpr ⟨by decide +kernel, rfl⟩, List.mem_filter.mpr ⟨by decide +kernel, rfl⟩⟩
def wX12_closes : qm_C := fun vs h => match vs with
  | [.inr (.inr (some (0, 12, p0))), .inl p1, .inl p2, .inl p3, .inl p4] => (qX12_closes p0 p1 p2 p3 p4 h).map qm_Gi
  | _ => none
def aX12_closes : List (Option (Instr × Nat)) := [some (.aload_n 0, 1), some (.iconst 0, 1), some (.putfield 88, 3), none, none, some (.iload_n 2, 1), some (.iload_n 3, 1), some (.invokestatic 310, 3), none, none, some (.ifCond .eq 11, 3), none, none, some (.aload_n 0, 1), some (.iload_n 1, 1), some (.invokevirtual 301, 3), none, none, some (.ifCond .ne 5, 3), none, none, some (.iconst (-1), 1), some (.ireturn, 1), some (.aload_n 0, 1), some (.iload_n 2, 1), some (.iload_n 3, 1), some (.invokevirtual 381, 3), none, none, some (.iconst 0, 1), some (.istore 5, 2), none, some (.iload 5, 2), none, some (.iconst 3, 1), some (.if_icmp .gt 54, 3), none, none, some (.aload_n 0, 1), some (.iload 5, 2), none, some (.invokevirtual 384, 3), none, none, some (.ifCond .eq 39, 3), none, none, some (.iload 4, 2), none, some (.iconst (-1), 1), some (.if_icmp .ne 8, 3), none, none, some (.iload 5, 2), none, some (.goto 27, 3), none, none, some (.iload 4, 2), none, some (.iconst 0, 1), some (.iload 5, 2), none, some (.iconst 1, 1), some (.isub, 1), some (.invokestatic 100, 3), none, none, some (.ifCond .eq 13, 3), none, none, some (.aload_n 0, 1), some (.getfield 60, 3), none, none, some (.iload 4, 2), none, some (.iaload, 1), some (.goto 4, 3), none, none, some (.iconst (-1), 1), some (.ireturn, 1), some (.iinc 5 1, 3), none, none, some (.goto (-54), 3), none, none, some (.iconst (-1), 1), some (.ireturn, 1)]
theorem aX12_closes_ok : qm_tabok cX12_closes aX12_closes = true := by decide +kernel
def mX12_closes : qm_M := ((some .int), (fun k => qm_lk k pfRX12), (fun k => qm_lk k pcRX12), (fun k => qm_lk k [(384, 0, 2, wX12_doClose), (100, 2, 3, wX12_in), (310, 2, 2, wX12_isSize), (301, 0, 2, wX12_hand), (381, 0, 3, wX12_findGaps)]), qm_tab aX12_closes)
set_option maxRecDepth 20000 in
set_option maxHeartbeats 2000000 in
theorem rX12_closes_32   : ∀ {fuel : Nat} {a0 : Nat} {x4 : Int32} {x5 : Int32} {xd1 : Int32} {xd2 : Int32} {xd3 : Int32} {h : qm_H} {r : Int32 × qm_H}, qX12_closes_32  fuel a0 x4 x5 h = some r → qm_Ret mX12_closes (32, [some (qm_r 0 12 a0), some (qm_i xd1), some (qm_i xd2), some (qm_i xd3), some (qm_i x4), some (qm_i x5)], [], h) (qm_Gi r) := by
  intro fuel
  induction fuel with
  | zero => intros; rename_i ho; cases ho
  | succ n ih =>
    intro a0 x4 x5 xd1 xd2 xd3 h r ho
    unfold qX12_closes_32 at ho
    refine qm_Ret.sts 2 (f' := (35, [some (qm_r 0 12 a0), some (qm_i xd1), some (qm_i xd2), some (qm_i xd3), some (qm_i x4), some (qm_i x5)], [qm_i (3 : Int32), qm_i x5], h)) rfl ?_
    refine qm_Ret.gt (t := 89) (e := 38) rfl (fun hc => ?_) (fun hc => ?_)
    · rw [if_pos hc] at ho
      cases ho
      exact qm_Ret.ret 2 rfl
    · rw [if_neg hc] at ho
      refine qm_Ret.sts 2 (f' := (41, [some (qm_r 0 12 a0), some (qm_i xd1), some (qm_i xd2), some (qm_i xd3), some (qm_i x4), some (qm_i x5)], [qm_i x5, qm_r 0 12 a0], h)) rfl ?_
      obtain ⟨r2, h1, hr, ho⟩ := qm_b2e ho
      refine qm_Ret.call (X := wX12_doClose [qm_r 0 12 a0, qm_i x5] h) (o1 := (some (qm_i r2), h1)) (qm_mp (G := qm_Gi) hr) rfl ?_
      show qm_Ret _ (44, [some (qm_r 0 12 a0), some (qm_i xd1), some (qm_i xd2), some (qm_i xd3), some (qm_i x4), some (qm_i x5)], [qm_i r2], h1) _
      refine qm_Ret.eq (t := 83) (e := 47) rfl (fun hc => ?_) (fun hc => ?_)
      · rw [if_pos hc] at ho
        refine qm_Ret.sts 2 (f' := (32, [some (qm_r 0 12 a0), some (qm_i xd1), some (qm_i xd2), some (qm_i xd3), some (qm_i x4), some (qm_i (x5 + (1 : Int32)))], [], h1)) rfl ?_
        exact ih ho
      · rw [if_neg hc] at ho
        refine qm_Ret.sts 2 (f' := (50, [some (qm_r 0 12 a0), some (qm_i xd1), some (qm_i xd2), some (qm_i xd3), some (qm_i x4), some (qm_i x5)], [qm_i (-1 : Int32), qm_i x4], h1)) rfl ?_
        refine qm_Ret.ne (t := 58) (e := 53) rfl (fun hc => ?_) (fun hc => ?_)
        · rw [if_pos hc] at ho
          cases ho
          exact qm_Ret.ret 3 rfl
        · rw [if_neg hc] at ho
          refine qm_Ret.sts 5 (f' := (65, [some (qm_r 0 12 a0), some (qm_i xd1), some (qm_i xd2), some (qm_i xd3), some (qm_i x4), some (qm_i x5)], [qm_i (x5 - (1 : Int32)), qm_i (0 : Int32), qm_i x4], h1)) rfl ?_
          obtain ⟨r4, h3, hr, ho⟩ := qm_b2e ho
          refine qm_Ret.call (X := wX12_in [qm_i x4, qm_i (0 : Int32), qm_i (x5 - (1 : Int32))] h1) (o1 := (some (qm_i r4), h3)) (qm_mp (G := qm_Gi) hr) rfl ?_
          show qm_Ret _ (68, [some (qm_r 0 12 a0), some (qm_i xd1), some (qm_i xd2), some (qm_i xd3), some (qm_i x4), some (qm_i x5)], [qm_i r4], h3) _
          refine qm_Ret.eq (t := 81) (e := 71) rfl (fun hc => ?_) (fun hc => ?_)
          · rw [if_pos hc] at ho
            cases ho
            exact qm_Ret.ret 2 rfl
          · rw [if_neg hc] at ho
            refine qm_Ret.sts 3 (f' := (77, [some (qm_r 0 12 a0), some (qm_i xd1), some (qm_i xd2), some (qm_i xd3), some (qm_i x4), some (qm_i x5)], [qm_i x4, qm_r 1 3 (a0 + 17)], h3)) rfl ?_
            obtain ⟨hg, ho⟩ := qm_ifn ho
            refine qm_Ret.gn (f1 := (78, [some (qm_r 0 12 a0), some (qm_i xd1), some (qm_i xd2), some (qm_i xd3), some (qm_i x4), some (qm_i x5)], [qm_i (h3.1 (a0 + 17) (x4).toNatClampNeg)], h3)) hg rfl ?_
            cases ho
            exact qm_Ret.ret 2 rfl
set_option maxRecDepth 20000 in
set_option maxHeartbeats 2000000 in
theorem rX12_closes_0   {a0 : Nat} {x1 : Int32} {x2 : Int32} {x3 : Int32} {x4 : Int32} {h : qm_H} {r : Int32 × qm_H} (ho : qX12_closes  a0 x1 x2 x3 x4 h = some r) : qm_Ret mX12_closes (0, [some (qm_r 0 12 a0), some (qm_i x1), some (qm_i x2), some (qm_i x3), some (qm_i x4), none], [], h) (qm_Gi r) := by
  unfold qX12_closes at ho
  refine qm_Ret.sts 3 (f' := (5, [some (qm_r 0 12 a0), some (qm_i x1), some (qm_i x2), some (qm_i x3), some (qm_i x4), none], [], (qm_seti h a0 0 (0 : Int32)))) rfl ?_
  refine qm_Ret.lets (F := fun h1 => (5, [some (qm_r 0 12 a0), some (qm_i x1), some (qm_i x2), some (qm_i x3), some (qm_i x4), none], [], h1)) (G := qm_Gi) ho (fun h1 ho => ?_)
  refine qm_Ret.sts 2 (f' := (7, [some (qm_r 0 12 a0), some (qm_i x1), some (qm_i x2), some (qm_i x3), some (qm_i x4), none], [qm_i x3, qm_i x2], h1)) rfl ?_
  obtain ⟨r3, h2, hr, ho⟩ := qm_b2e ho
  refine qm_Ret.call (X := wX12_isSize [qm_i x2, qm_i x3] h1) (o1 := (some (qm_i r3), h2)) (qm_mp (G := qm_Gi) hr) rfl ?_
  show qm_Ret _ (10, [some (qm_r 0 12 a0), some (qm_i x1), some (qm_i x2), some (qm_i x3), some (qm_i x4), none], [qm_i r3], h2) _
  refine qm_Ret.eq (t := 21) (e := 13) rfl (fun hc => ?_) (fun hc => ?_)
  · rw [if_pos hc] at ho
    cases ho
    exact qm_Ret.ret 2 rfl
  · rw [if_neg hc] at ho
    refine qm_Ret.sts 2 (f' := (15, [some (qm_r 0 12 a0), some (qm_i x1), some (qm_i x2), some (qm_i x3), some (qm_i x4), none], [qm_i x1, qm_r 0 12 a0], h2)) rfl ?_
    obtain ⟨r5, h4, hr, ho⟩ := qm_b2e ho
    refine qm_Ret.call (X := wX12_hand [qm_r 0 12 a0, qm_i x1] h2) (o1 := (some (qm_i r5), h4)) (qm_mp (G := qm_Gi) hr) rfl ?_
    show qm_Ret _ (18, [some (qm_r 0 12 a0), some (qm_i x1), some (qm_i x2), some (qm_i x3), some (qm_i x4), none], [qm_i r5], h4) _
    refine qm_Ret.ne (t := 23) (e := 21) rfl (fun hc => ?_) (fun hc => ?_)
    · rw [if_pos hc] at ho
      cases ho
      exact qm_Ret.ret 2 rfl
    · rw [if_neg hc] at ho
      refine qm_Ret.sts 3 (f' := (26, [some (qm_r 0 12 a0), some (qm_i x1), some (qm_i x2), some (qm_i x3), some (qm_i x4), none], [qm_i x3, qm_i x2, qm_r 0 12 a0], h4)) rfl ?_
      obtain ⟨h6, hr, ho⟩ := qm_bd ho
      refine qm_Ret.call (X := wX12_findGaps [qm_r 0 12 a0, qm_i x2, qm_i x3] h4) (o1 := (none, h6)) (qm_mp (G := qm_Gv) hr) rfl ?_
      show qm_Ret _ (29, [some (qm_r 0 12 a0), some (qm_i x1), some (qm_i x2), some (qm_i x3), some (qm_i x4), none], [], h6) _
      refine qm_Ret.sts 2 (f' := (32, [some (qm_r 0 12 a0), some (qm_i x1), some (qm_i x2), some (qm_i x3), some (qm_i x4), some (qm_i (0 : Int32))], [], h6)) rfl ?_
      exact rX12_closes_32 ho
theorem cX12_closes_ok : ∀ q ∈ ([(384, 0, 2, wX12_doClose), (100, 2, 3, wX12_in), (310, 2, 2, wX12_isSize), (301, 0, 2, wX12_hand), (381, 0, 3, wX12_findGaps)] : List (Nat × Nat × Nat × qm_C)), qm_CallOK RX12 4 98 q.2.1 q.1 q.2.2.1 q.2.2.2 := List.forall_mem_cons.mpr ⟨Or.inl ⟨yX12_doClose, cX12_doClose, 8, (some .boolean), 2, 42, _, sX12_doClose, ⟨by decide, by decide⟩, ⟨jX12_doClose, kRX12_384, uRX12⟩, ⟨by decide, by decide, rfl⟩, Or.inl ⟨rfl, rfl, iX12_doClose, recvX12_doClose⟩⟩, List.forall_mem_cons.mpr ⟨Or.inl ⟨yX12_in, cX12_in, 3, (some .boolean), 0, 0, _, sX12_in, ⟨by decide, by decide⟩, ⟨jX12_in, kRX12_100, uRX12⟩, ⟨by decide, by decide, rfl⟩, Or.inr (Or.inl ⟨rfl, rfl, iX12_in⟩)⟩, List.forall_mem_cons.mpr ⟨Or.inl ⟨yX12_isSize, cX12_isSize, 2, (some .boolean), 1, 22, _, sX12_isSize, ⟨by decide, by decide⟩, ⟨jX12_isSize, kRX12_310, uRX12⟩, ⟨by decide, by decide, rfl⟩, Or.inr (Or.inl ⟨rfl, rfl, iX12_isSize⟩)⟩, List.forall_mem_cons.mpr ⟨Or.inl ⟨yX12_hand, cX12_hand, 3, (some .boolean), 2, 44, _, sX12_hand, ⟨by decide, by decide⟩, ⟨jX12_hand, kRX12_301, uRX12⟩, ⟨by decide, by decide, rfl⟩, Or.inl ⟨rfl, rfl, iX12_hand, recvX12_hand⟩⟩, List.forall_mem_cons.mpr ⟨Or.inl ⟨yX12_findGaps, cX12_findGaps, 7, none, 3, 72, _, sX12_findGaps, ⟨by decide, by decide⟩, ⟨jX12_findGaps, kRX12_381, uRX12⟩, ⟨by decide, by decide, rfl⟩, Or.inl ⟨rfl, rfl, iX12_findGaps, recvX12_findGaps⟩⟩, fun _ h => absurd h List.not_mem_nil⟩⟩⟩⟩⟩
theorem sX12_closes : qm_Snd yX12_closes cX12_closes 6 (some .int) 4 98 wX12_closes := qm_met (fld := fun k => qm_lk k pfRX12) (con := fun k => qm_lk k pcRX12) (call := fun k => qm_lk k [(384, 0, 2, wX12_doClose), (100, 2, 3, wX12_in), (310, 2, 2, wX12_isSize), (301, 0, 2, wX12_hand), (381, 0, 3, wX12_findGaps)]) (tab := qm_tab aX12_closes) (plainFor_of_name (by decide)) (qm_fld_ok pfRX12_ok) (qm_con_ok pcRX12_ok) (fun idx kd n f hc => cX12_closes_ok (idx, kd, n, f) (qm_lk_mem hc)) (qm_tab_ok aX12_closes_ok) (fun vs h o hw => by
  unfold wX12_closes at hw
  split at hw
  · obtain ⟨r, hr, rfl⟩ := Option.map_eq_some_iff.mp hw
    exact ⟨Nat.le_of_ble_eq_true rfl, rX12_closes_0 (hr)⟩
  · cases hw)
theorem recvX12_closes : ∀ vs h o, wX12_closes vs h = some o → ∃ ci a rest, vs = qm_r 0 ci a :: rest ∧ qm_R ci = yX12_closes.cls := by
  intro vs h o hw
  unfold wX12_closes at hw
  split at hw
  · exact ⟨_, _, _, rfl, rfl⟩
  · cases hw
-- RX12 sieve(IIIII)I
theorem jX12_sieve : Jvm.Cond.code yX12_sieve cX12_sieve 9 (some .int) ∈ qm_all := List.mem_filter.mpr ⟨by decide +kernel, rfl⟩
theorem iX12_sieve : Jvm.Cond.instanceMethod yX12_sieve ∈ qm_all ∧ Jvm.Cond.selects yX12_sieve.cls yX12_sieve yX12_sieve ∈ qm_all := ⟨List.mem_filter.mpr ⟨by decide +kernel, rfl⟩, List.mem_filter.mpr ⟨by decide +kernel, rfl⟩⟩
def wX12_sieve : qm_C := fun vs h => match vs with
  | [.inr (.inr (some (0, 12, p0))), .inl p1, .inl p2, .inl p3, .inl p4, .inl p5] => (qX12_sieve p0 p1 p2 p3 p4 p5 h).map qm_Gi
  | _ => none
def aX12_sieve : List (Option (Instr × Nat)) := [some (.aload_n 0, 1), some (.iconst 0, 1), some (.putfield 88, 3), none, none, some (.iload_n 2, 1), some (.iload_n 3, 1), some (.invokestatic 310, 3), none, none, some (.ifCond .eq 21, 3), none, none, some (.iload 4, 2), none, some (.iload 5, 2), none, some (.invokestatic 310, 3), none, none, some (.ifCond .eq 11, 3), none, none, some (.aload_n 0, 1), some (.iload_n 1, 1), some (.invokevirtual 301, 3), none, none, some (.ifCond .ne 5, 3), none, none, some (.iconst (-1), 1), some (.ireturn, 1), some (.iconst (-1), 1), some (.istore 6, 2), none, some (.iconst 0, 1), some (.istore 7, 2), none, some (.iload 7, 2), none, some (.iconst 1, 1), some (.aload_n 0, 1), some (.getfield 276, 3), none, none, some (.ishl, 1), some (.if_icmp .ge 126, 3), none, none, some (.iconst 0, 1), some (.istore 8, 2), none, some (.iload 8, 2), none, some (.aload_n 0, 1), some (.getfield 276, 3), none, none, some (.if_icmp .ge 46, 3), none, none, some (.aload_n 0, 1), some (.getfield 50, 3), none, none, some (.iload 8, 2), none, some (.iload 7, 2), none, some (.iload 8, 2), none, some (.invokestatic 92, 3), none, none, some (.ifCond .eq 14, 3), none, none, some (.iconst 1, 1), some (.aload_n 0, 1), some (.getfield 273, 3), none, none, some (.ishl, 1), some (.iconst 1, 1), some (.isub, 1), some (.goto 12, 3), none, none, some (.aload_n 0, 1), some (.bipush 35, 2), none, some (.iload 8, 2), none, some (.iadd, 1), some (.invokevirtual 269, 3), none, none, some (.iastore, 1), some (.iinc 8 1, 3), none, none, some (.goto (-49), 3), none, none, some (.iload 6, 2), none, some (.iconst (-1), 1), some (.if_icmp .eq 16, 3), none, none, some (.iload 7, 2), none, some (.invokestatic 285, 3), none, none, some (.iload 6, 2), none, some (.invokestatic 285, 3), none, none, some (.if_icmp .ge 29, 3), none, none, some (.aload_n 0, 1), some (.iload_n 2, 1), some (.iload_n 3, 1), some (.invokevirtual 313, 3), none, none, some (.iconst (-1), 1), some (.if_icmp .eq 19, 3), none, none, some (.aload_n 0, 1), some (.iload 4, 2), none, some (.iload 5, 2), none, some (.invokevirtual 313, 3), none, none, some (.iconst (-1), 1), some (.if_icmp .ne 7, 3), none, none, some (.iconst 1, 1), some (.goto 4, 3), none, none, some (.iconst 0, 1), some (.istore 8, 2), none, some (.iload 8, 2), none, some (.ifCond .eq 8, 3), none, none, some (.iload 7, 2), none, some (.goto 5, 3), none, none, some (.iload 6, 2), none, some (.istore 6, 2), none, some (.iinc 7 1, 3), none, none, some (.goto (-131), 3), none, none, some (.iload 6, 2), none, some (.ireturn, 1)]
theorem aX12_sieve_ok : qm_tabok cX12_sieve aX12_sieve = true := by decide +kernel
def mX12_sieve : qm_M := ((some .int), (fun k => qm_lk k pfRX12), (fun k => qm_lk k pcRX12), (fun k => qm_lk k [(313, 0, 3, wX12_slipsBy), (285, 2, 1, wX12_ones), (92, 2, 2, wX12_has), (269, 0, 2, wX12_of), (310, 2, 2, wX12_isSize), (301, 0, 2, wX12_hand)]), qm_tab aX12_sieve)
set_option maxRecDepth 20000 in
set_option maxHeartbeats 2000000 in
theorem rX12_sieve_124 {K39 : Nat → Int32 → Int32 → Int32 → Int32 → Int32 → Int32 → qm_H → Option (Int32 × qm_H)} (H39 : ∀ {a0 : Nat} {x2 : Int32} {x3 : Int32} {x4 : Int32} {x5 : Int32} {x6 : Int32} {x7 : Int32} {xd1 : Int32} {d8 : Option qm_V} {h : qm_H} {r : Int32 × qm_H}, K39 a0 x2 x3 x4 x5 x6 x7 h = some r → qm_Ret mX12_sieve (39, [some (qm_r 0 12 a0), some (qm_i xd1), some (qm_i x2), some (qm_i x3), some (qm_i x4), some (qm_i x5), some (qm_i x6), some (qm_i x7), d8], [], h) (qm_Gi r)) {a0 : Nat} {x2 : Int32} {x3 : Int32} {x4 : Int32} {x5 : Int32} {x6 : Int32} {x7 : Int32} {xd1 : Int32} {xd8 : Int32} {h : qm_H} {r : Int32 × qm_H} (ho : qX12_sieve_124 K39 a0 x2 x3 x4 x5 x6 x7 h = some r) : qm_Ret mX12_sieve (124, [some (qm_r 0 12 a0), some (qm_i xd1), some (qm_i x2), some (qm_i x3), some (qm_i x4), some (qm_i x5), some (qm_i x6), some (qm_i x7), some (qm_i xd8)], [], h) (qm_Gi r) := by
  unfold qX12_sieve_124 at ho
  refine qm_Ret.sts 3 (f' := (127, [some (qm_r 0 12 a0), some (qm_i xd1), some (qm_i x2), some (qm_i x3), some (qm_i x4), some (qm_i x5), some (qm_i x6), some (qm_i x7), some (qm_i xd8)], [qm_i x3, qm_i x2, qm_r 0 12 a0], h)) rfl ?_
  obtain ⟨r2, h1, hr, ho⟩ := qm_b2e ho
  refine qm_Ret.call (X := wX12_slipsBy [qm_r 0 12 a0, qm_i x2, qm_i x3] h) (o1 := (some (qm_i r2), h1)) (qm_mp (G := qm_Gi) hr) rfl ?_
  show qm_Ret _ (130, [some (qm_r 0 12 a0), some (qm_i xd1), some (qm_i x2), some (qm_i x3), some (qm_i x4), some (qm_i x5), some (qm_i x6), some (qm_i x7), some (qm_i xd8)], [qm_i r2], h1) _
  refine qm_Ret.sts 1 (f' := (131, [some (qm_r 0 12 a0), some (qm_i xd1), some (qm_i x2), some (qm_i x3), some (qm_i x4), some (qm_i x5), some (qm_i x6), some (qm_i x7), some (qm_i xd8)], [qm_i (-1 : Int32), qm_i r2], h1)) rfl ?_
  refine qm_Ret.eq (t := 150) (e := 134) rfl (fun hc => ?_) (fun hc => ?_)
  · rw [if_pos hc] at ho
    refine qm_Ret.sts 3 (f' := (155, [some (qm_r 0 12 a0), some (qm_i xd1), some (qm_i x2), some (qm_i x3), some (qm_i x4), some (qm_i x5), some (qm_i x6), some (qm_i x7), some (qm_i (0 : Int32))], [qm_i (0 : Int32)], h1)) rfl ?_
    refine qm_Ret.eq (t := 163) (e := 158) rfl (fun hc => ?_) (fun hc => ?_)
    · rw [if_pos hc] at ho
      refine qm_Ret.sts 4 (f' := (39, [some (qm_r 0 12 a0), some (qm_i xd1), some (qm_i x2), some (qm_i x3), some (qm_i x4), some (qm_i x5), some (qm_i x6), some (qm_i (x7 + (1 : Int32))), some (qm_i (0 : Int32))], [], h1)) rfl ?_
      exact H39 ho
    · rw [if_neg hc] at ho
      refine qm_Ret.sts 5 (f' := (39, [some (qm_r 0 12 a0), some (qm_i xd1), some (qm_i x2), some (qm_i x3), some (qm_i x4), some (qm_i x5), some (qm_i x7), some (qm_i (x7 + (1 : Int32))), some (qm_i (0 : Int32))], [], h1)) rfl ?_
      exact H39 ho
  · rw [if_neg hc] at ho
    refine qm_Ret.sts 3 (f' := (139, [some (qm_r 0 12 a0), some (qm_i xd1), some (qm_i x2), some (qm_i x3), some (qm_i x4), some (qm_i x5), some (qm_i x6), some (qm_i x7), some (qm_i xd8)], [qm_i x5, qm_i x4, qm_r 0 12 a0], h1)) rfl ?_
    obtain ⟨r4, h3, hr, ho⟩ := qm_b2e ho
    refine qm_Ret.call (X := wX12_slipsBy [qm_r 0 12 a0, qm_i x4, qm_i x5] h1) (o1 := (some (qm_i r4), h3)) (qm_mp (G := qm_Gi) hr) rfl ?_
    show qm_Ret _ (142, [some (qm_r 0 12 a0), some (qm_i xd1), some (qm_i x2), some (qm_i x3), some (qm_i x4), some (qm_i x5), some (qm_i x6), some (qm_i x7), some (qm_i xd8)], [qm_i r4], h3) _
    refine qm_Ret.sts 1 (f' := (143, [some (qm_r 0 12 a0), some (qm_i xd1), some (qm_i x2), some (qm_i x3), some (qm_i x4), some (qm_i x5), some (qm_i x6), some (qm_i x7), some (qm_i xd8)], [qm_i (-1 : Int32), qm_i r4], h3)) rfl ?_
    refine qm_Ret.ne (t := 150) (e := 146) rfl (fun hc => ?_) (fun hc => ?_)
    · rw [if_pos hc] at ho
      refine qm_Ret.sts 4 (f' := (155, [some (qm_r 0 12 a0), some (qm_i xd1), some (qm_i x2), some (qm_i x3), some (qm_i x4), some (qm_i x5), some (qm_i x6), some (qm_i x7), some (qm_i (1 : Int32))], [qm_i (1 : Int32)], h3)) rfl ?_
      refine qm_Ret.eq (t := 163) (e := 158) rfl (fun hc => ?_) (fun hc => ?_)
      · rw [if_pos hc] at ho
        refine qm_Ret.sts 4 (f' := (39, [some (qm_r 0 12 a0), some (qm_i xd1), some (qm_i x2), some (qm_i x3), some (qm_i x4), some (qm_i x5), some (qm_i x6), some (qm_i (x7 + (1 : Int32))), some (qm_i (1 : Int32))], [], h3)) rfl ?_
        exact H39 ho
      · rw [if_neg hc] at ho
        refine qm_Ret.sts 5 (f' := (39, [some (qm_r 0 12 a0), some (qm_i xd1), some (qm_i x2), some (qm_i x3), some (qm_i x4), some (qm_i x5), some (qm_i x7), some (qm_i (x7 + (1 : Int32))), some (qm_i (1 : Int32))], [], h3)) rfl ?_
        exact H39 ho
    · rw [if_neg hc] at ho
      refine qm_Ret.sts 3 (f' := (155, [some (qm_r 0 12 a0), some (qm_i xd1), some (qm_i x2), some (qm_i x3), some (qm_i x4), some (qm_i x5), some (qm_i x6), some (qm_i x7), some (qm_i (0 : Int32))], [qm_i (0 : Int32)], h3)) rfl ?_
      refine qm_Ret.eq (t := 163) (e := 158) rfl (fun hc => ?_) (fun hc => ?_)
      · rw [if_pos hc] at ho
        refine qm_Ret.sts 4 (f' := (39, [some (qm_r 0 12 a0), some (qm_i xd1), some (qm_i x2), some (qm_i x3), some (qm_i x4), some (qm_i x5), some (qm_i x6), some (qm_i (x7 + (1 : Int32))), some (qm_i (0 : Int32))], [], h3)) rfl ?_
        exact H39 ho
      · rw [if_neg hc] at ho
        refine qm_Ret.sts 5 (f' := (39, [some (qm_r 0 12 a0), some (qm_i xd1), some (qm_i x2), some (qm_i x3), some (qm_i x4), some (qm_i x5), some (qm_i x7), some (qm_i (x7 + (1 : Int32))), some (qm_i (0 : Int32))], [], h3)) rfl ?_
        exact H39 ho
set_option maxRecDepth 20000 in
set_option maxHeartbeats 2000000 in
theorem rX12_sieve_53 {K39 : Nat → Int32 → Int32 → Int32 → Int32 → Int32 → Int32 → qm_H → Option (Int32 × qm_H)} (H39 : ∀ {a0 : Nat} {x2 : Int32} {x3 : Int32} {x4 : Int32} {x5 : Int32} {x6 : Int32} {x7 : Int32} {xd1 : Int32} {d8 : Option qm_V} {h : qm_H} {r : Int32 × qm_H}, K39 a0 x2 x3 x4 x5 x6 x7 h = some r → qm_Ret mX12_sieve (39, [some (qm_r 0 12 a0), some (qm_i xd1), some (qm_i x2), some (qm_i x3), some (qm_i x4), some (qm_i x5), some (qm_i x6), some (qm_i x7), d8], [], h) (qm_Gi r)) : ∀ {fuel : Nat} {a0 : Nat} {x2 : Int32} {x3 : Int32} {x4 : Int32} {x5 : Int32} {x6 : Int32} {x7 : Int32} {x8 : Int32} {xd1 : Int32} {h : qm_H} {r : Int32 × qm_H}, qX12_sieve_53 K39 fuel a0 x2 x3 x4 x5 x6 x7 x8 h = some r → qm_Ret mX12_sieve (53, [some (qm_r 0 12 a0), some (qm_i xd1), some (qm_i x2), some (qm_i x3), some (qm_i x4), some (qm_i x5), some (qm_i x6), some (qm_i x7), some (qm_i x8)], [], h) (qm_Gi r) := by
  intro fuel
  induction fuel with
  | zero => intros; rename_i ho; cases ho
  | succ n ih =>
    intro a0 x2 x3 x4 x5 x6 x7 x8 xd1 h r ho
    unfold qX12_sieve_53 at ho
    refine qm_Ret.sts 3 (f' := (59, [some (qm_r 0 12 a0), some (qm_i xd1), some (qm_i x2), some (qm_i x3), some (qm_i x4), some (qm_i x5), some (qm_i x6), some (qm_i x7), some (qm_i x8)], [qm_i (h.1 a0 26), qm_i x8], h)) rfl ?_
    refine qm_Ret.ge (t := 105) (e := 62) rfl (fun hc => ?_) (fun hc => ?_)
    · rw [if_pos hc] at ho
      refine qm_Ret.sts 5 (f' := (72, [some (qm_r 0 12 a0), some (qm_i xd1), some (qm_i x2), some (qm_i x3), some (qm_i x4), some (qm_i x5), some (qm_i x6), some (qm_i x7), some (qm_i x8)], [qm_i x8, qm_i x7, qm_i x8, qm_r 1 8 (a0 + 14)], h)) rfl ?_
      obtain ⟨r6, h5, hr, ho⟩ := qm_b2e ho
      refine qm_Ret.call (X := wX12_has [qm_i x7, qm_i x8] h) (o1 := (some (qm_i r6), h5)) (qm_mp (G := qm_Gi) hr) rfl ?_
      show qm_Ret _ (75, [some (qm_r 0 12 a0), some (qm_i xd1), some (qm_i x2), some (qm_i x3), some (qm_i x4), some (qm_i x5), some (qm_i x6), some (qm_i x7), some (qm_i x8)], [qm_i r6, qm_i x8, qm_r 1 8 (a0 + 14)], h5) _
      refine qm_Ret.eq (t := 89) (e := 78) rfl (fun hc => ?_) (fun hc => ?_)
      · rw [if_pos hc] at ho
        refine qm_Ret.sts 4 (f' := (95, [some (qm_r 0 12 a0), some (qm_i xd1), some (qm_i x2), some (qm_i x3), some (qm_i x4), some (qm_i x5), some (qm_i x6), some (qm_i x7), some (qm_i x8)], [qm_i ((35 : Int32) + x8), qm_r 0 12 a0, qm_i x8, qm_r 1 8 (a0 + 14)], h5)) rfl ?_
        obtain ⟨r8, h7, hr, ho⟩ := qm_b2e ho
        refine qm_Ret.call (X := wX12_of [qm_r 0 12 a0, qm_i ((35 : Int32) + x8)] h5) (o1 := (some (qm_i r8), h7)) (qm_mp (G := qm_Gi) hr) rfl ?_
        show qm_Ret _ (98, [some (qm_r 0 12 a0), some (qm_i xd1), some (qm_i x2), some (qm_i x3), some (qm_i x4), some (qm_i x5), some (qm_i x6), some (qm_i x7), some (qm_i x8)], [qm_i r8, qm_i x8, qm_r 1 8 (a0 + 14)], h7) _
        obtain ⟨hg, ho⟩ := qm_ifn ho
        refine qm_Ret.gn (f1 := (99, [some (qm_r 0 12 a0), some (qm_i xd1), some (qm_i x2), some (qm_i x3), some (qm_i x4), some (qm_i x5), some (qm_i x6), some (qm_i x7), some (qm_i x8)], [], (qm_seti h7 (a0 + 14) (x8).toNatClampNeg r8))) hg rfl ?_
        refine qm_Ret.lets (F := fun h9 => (99, [some (qm_r 0 12 a0), some (qm_i xd1), some (qm_i x2), some (qm_i x3), some (qm_i x4), some (qm_i x5), some (qm_i x6), some (qm_i x7), some (qm_i x8)], [], h9)) (G := qm_Gi) ho (fun h9 ho => ?_)
        refine qm_Ret.sts 2 (f' := (53, [some (qm_r 0 12 a0), some (qm_i xd1), some (qm_i x2), some (qm_i x3), some (qm_i x4), some (qm_i x5), some (qm_i x6), some (qm_i x7), some (qm_i (x8 + (1 : Int32)))], [], h9)) rfl ?_
        exact ih ho
      · rw [if_neg hc] at ho
        refine qm_Ret.sts 7 (f' := (98, [some (qm_r 0 12 a0), some (qm_i xd1), some (qm_i x2), some (qm_i x3), some (qm_i x4), some (qm_i x5), some (qm_i x6), some (qm_i x7), some (qm_i x8)], [qm_i ((qm_ishl (1 : Int32) (h5.1 a0 25)) - (1 : Int32)), qm_i x8, qm_r 1 8 (a0 + 14)], h5)) rfl ?_
        obtain ⟨hg, ho⟩ := qm_ifn ho
        refine qm_Ret.gn (f1 := (99, [some (qm_r 0 12 a0), some (qm_i xd1), some (qm_i x2), some (qm_i x3), some (qm_i x4), some (qm_i x5), some (qm_i x6), some (qm_i x7), some (qm_i x8)], [], (qm_seti h5 (a0 + 14) (x8).toNatClampNeg ((qm_ishl (1 : Int32) (h5.1 a0 25)) - (1 : Int32))))) hg rfl ?_
        refine qm_Ret.lets (F := fun h10 => (99, [some (qm_r 0 12 a0), some (qm_i xd1), some (qm_i x2), some (qm_i x3), some (qm_i x4), some (qm_i x5), some (qm_i x6), some (qm_i x7), some (qm_i x8)], [], h10)) (G := qm_Gi) ho (fun h10 ho => ?_)
        refine qm_Ret.sts 2 (f' := (53, [some (qm_r 0 12 a0), some (qm_i xd1), some (qm_i x2), some (qm_i x3), some (qm_i x4), some (qm_i x5), some (qm_i x6), some (qm_i x7), some (qm_i (x8 + (1 : Int32)))], [], h10)) rfl ?_
        exact ih ho
    · rw [if_neg hc] at ho
      refine qm_Ret.sts 2 (f' := (108, [some (qm_r 0 12 a0), some (qm_i xd1), some (qm_i x2), some (qm_i x3), some (qm_i x4), some (qm_i x5), some (qm_i x6), some (qm_i x7), some (qm_i x8)], [qm_i (-1 : Int32), qm_i x6], h)) rfl ?_
      refine qm_Ret.eq (t := 124) (e := 111) rfl (fun hc => ?_) (fun hc => ?_)
      · rw [if_pos hc] at ho
        exact rX12_sieve_124 H39 ho
      · rw [if_neg hc] at ho
        refine qm_Ret.sts 1 (f' := (113, [some (qm_r 0 12 a0), some (qm_i xd1), some (qm_i x2), some (qm_i x3), some (qm_i x4), some (qm_i x5), some (qm_i x6), some (qm_i x7), some (qm_i x8)], [qm_i x7], h)) rfl ?_
        obtain ⟨r2, h1, hr, ho⟩ := qm_b2e ho
        refine qm_Ret.call (X := wX12_ones [qm_i x7] h) (o1 := (some (qm_i r2), h1)) (qm_mp (G := qm_Gi) hr) rfl ?_
        show qm_Ret _ (116, [some (qm_r 0 12 a0), some (qm_i xd1), some (qm_i x2), some (qm_i x3), some (qm_i x4), some (qm_i x5), some (qm_i x6), some (qm_i x7), some (qm_i x8)], [qm_i r2], h1) _
        refine qm_Ret.sts 1 (f' := (118, [some (qm_r 0 12 a0), some (qm_i xd1), some (qm_i x2), some (qm_i x3), some (qm_i x4), some (qm_i x5), some (qm_i x6), some (qm_i x7), some (qm_i x8)], [qm_i x6, qm_i r2], h1)) rfl ?_
        obtain ⟨r4, h3, hr, ho⟩ := qm_b2e ho
        refine qm_Ret.call (X := wX12_ones [qm_i x6] h1) (o1 := (some (qm_i r4), h3)) (qm_mp (G := qm_Gi) hr) rfl ?_
        show qm_Ret _ (121, [some (qm_r 0 12 a0), some (qm_i xd1), some (qm_i x2), some (qm_i x3), some (qm_i x4), some (qm_i x5), some (qm_i x6), some (qm_i x7), some (qm_i x8)], [qm_i r4, qm_i r2], h3) _
        refine qm_Ret.ge (t := 150) (e := 124) rfl (fun hc => ?_) (fun hc => ?_)
        · rw [if_pos hc] at ho
          exact rX12_sieve_124 H39 ho
        · rw [if_neg hc] at ho
          refine qm_Ret.sts 3 (f' := (155, [some (qm_r 0 12 a0), some (qm_i xd1), some (qm_i x2), some (qm_i x3), some (qm_i x4), some (qm_i x5), some (qm_i x6), some (qm_i x7), some (qm_i (0 : Int32))], [qm_i (0 : Int32)], h3)) rfl ?_
          refine qm_Ret.eq (t := 163) (e := 158) rfl (fun hc => ?_) (fun hc => ?_)
          · rw [if_pos hc] at ho
            refine qm_Ret.sts 4 (f' := (39, [some (qm_r 0 12 a0), some (qm_i xd1), some (qm_i x2), some (qm_i x3), some (qm_i x4), some (qm_i x5), some (qm_i x6), some (qm_i (x7 + (1 : Int32))), some (qm_i (0 : Int32))], [], h3)) rfl ?_
            exact H39 ho
          · rw [if_neg hc] at ho
            refine qm_Ret.sts 5 (f' := (39, [some (qm_r 0 12 a0), some (qm_i xd1), some (qm_i x2), some (qm_i x3), some (qm_i x4), some (qm_i x5), some (qm_i x7), some (qm_i (x7 + (1 : Int32))), some (qm_i (0 : Int32))], [], h3)) rfl ?_
            exact H39 ho
set_option maxRecDepth 20000 in
set_option maxHeartbeats 2000000 in
theorem rX12_sieve_39   : ∀ {fuel : Nat} {a0 : Nat} {x2 : Int32} {x3 : Int32} {x4 : Int32} {x5 : Int32} {x6 : Int32} {x7 : Int32} {xd1 : Int32} {d8 : Option qm_V} {h : qm_H} {r : Int32 × qm_H}, qX12_sieve_39  fuel a0 x2 x3 x4 x5 x6 x7 h = some r → qm_Ret mX12_sieve (39, [some (qm_r 0 12 a0), some (qm_i xd1), some (qm_i x2), some (qm_i x3), some (qm_i x4), some (qm_i x5), some (qm_i x6), some (qm_i x7), d8], [], h) (qm_Gi r) := by
  intro fuel
  induction fuel with
  | zero => intros; rename_i ho; cases ho
  | succ n ih =>
    intro a0 x2 x3 x4 x5 x6 x7 xd1 d8 h r ho
    unfold qX12_sieve_39 at ho
    refine qm_Ret.sts 5 (f' := (47, [some (qm_r 0 12 a0), some (qm_i xd1), some (qm_i x2), some (qm_i x3), some (qm_i x4), some (qm_i x5), some (qm_i x6), some (qm_i x7), d8], [qm_i (qm_ishl (1 : Int32) (h.1 a0 26)), qm_i x7], h)) rfl ?_
    refine qm_Ret.ge (t := 173) (e := 50) rfl (fun hc => ?_) (fun hc => ?_)
    · rw [if_pos hc] at ho
      refine qm_Ret.sts 2 (f' := (53, [some (qm_r 0 12 a0), some (qm_i xd1), some (qm_i x2), some (qm_i x3), some (qm_i x4), some (qm_i x5), some (qm_i x6), some (qm_i x7), some (qm_i (0 : Int32))], [], h)) rfl ?_
      exact rX12_sieve_53 (ih) ho
    · rw [if_neg hc] at ho
      cases ho
      exact qm_Ret.ret 2 rfl
set_option maxRecDepth 20000 in
set_option maxHeartbeats 2000000 in
theorem rX12_sieve_0   {a0 : Nat} {x1 : Int32} {x2 : Int32} {x3 : Int32} {x4 : Int32} {x5 : Int32} {h : qm_H} {r : Int32 × qm_H} (ho : qX12_sieve  a0 x1 x2 x3 x4 x5 h = some r) : qm_Ret mX12_sieve (0, [some (qm_r 0 12 a0), some (qm_i x1), some (qm_i x2), some (qm_i x3), some (qm_i x4), some (qm_i x5), none, none, none], [], h) (qm_Gi r) := by
  unfold qX12_sieve at ho
  refine qm_Ret.sts 3 (f' := (5, [some (qm_r 0 12 a0), some (qm_i x1), some (qm_i x2), some (qm_i x3), some (qm_i x4), some (qm_i x5), none, none, none], [], (qm_seti h a0 0 (0 : Int32)))) rfl ?_
  refine qm_Ret.lets (F := fun h1 => (5, [some (qm_r 0 12 a0), some (qm_i x1), some (qm_i x2), some (qm_i x3), some (qm_i x4), some (qm_i x5), none, none, none], [], h1)) (G := qm_Gi) ho (fun h1 ho => ?_)
  refine qm_Ret.sts 2 (f' := (7, [some (qm_r 0 12 a0), some (qm_i x1), some (qm_i x2), some (qm_i x3), some (qm_i x4), some (qm_i x5), none, none, none], [qm_i x3, qm_i x2], h1)) rfl ?_
  obtain ⟨r3, h2, hr, ho⟩ := qm_b2e ho
  refine qm_Ret.call (X := wX12_isSize [qm_i x2, qm_i x3] h1) (o1 := (some (qm_i r3), h2)) (qm_mp (G := qm_Gi) hr) rfl ?_
  show qm_Ret _ (10, [some (qm_r 0 12 a0), some (qm_i x1), some (qm_i x2), some (qm_i x3), some (qm_i x4), some (qm_i x5), none, none, none], [qm_i r3], h2) _
  refine qm_Ret.eq (t := 31) (e := 13) rfl (fun hc => ?_) (fun hc => ?_)
  · rw [if_pos hc] at ho
    cases ho
    exact qm_Ret.ret 2 rfl
  · rw [if_neg hc] at ho
    refine qm_Ret.sts 2 (f' := (17, [some (qm_r 0 12 a0), some (qm_i x1), some (qm_i x2), some (qm_i x3), some (qm_i x4), some (qm_i x5), none, none, none], [qm_i x5, qm_i x4], h2)) rfl ?_
    obtain ⟨r5, h4, hr, ho⟩ := qm_b2e ho
    refine qm_Ret.call (X := wX12_isSize [qm_i x4, qm_i x5] h2) (o1 := (some (qm_i r5), h4)) (qm_mp (G := qm_Gi) hr) rfl ?_
    show qm_Ret _ (20, [some (qm_r 0 12 a0), some (qm_i x1), some (qm_i x2), some (qm_i x3), some (qm_i x4), some (qm_i x5), none, none, none], [qm_i r5], h4) _
    refine qm_Ret.eq (t := 31) (e := 23) rfl (fun hc => ?_) (fun hc => ?_)
    · rw [if_pos hc] at ho
      cases ho
      exact qm_Ret.ret 2 rfl
    · rw [if_neg hc] at ho
      refine qm_Ret.sts 2 (f' := (25, [some (qm_r 0 12 a0), some (qm_i x1), some (qm_i x2), some (qm_i x3), some (qm_i x4), some (qm_i x5), none, none, none], [qm_i x1, qm_r 0 12 a0], h4)) rfl ?_
      obtain ⟨r7, h6, hr, ho⟩ := qm_b2e ho
      refine qm_Ret.call (X := wX12_hand [qm_r 0 12 a0, qm_i x1] h4) (o1 := (some (qm_i r7), h6)) (qm_mp (G := qm_Gi) hr) rfl ?_
      show qm_Ret _ (28, [some (qm_r 0 12 a0), some (qm_i x1), some (qm_i x2), some (qm_i x3), some (qm_i x4), some (qm_i x5), none, none, none], [qm_i r7], h6) _
      refine qm_Ret.ne (t := 33) (e := 31) rfl (fun hc => ?_) (fun hc => ?_)
      · rw [if_pos hc] at ho
        cases ho
        exact qm_Ret.ret 2 rfl
      · rw [if_neg hc] at ho
        refine qm_Ret.sts 4 (f' := (39, [some (qm_r 0 12 a0), some (qm_i x1), some (qm_i x2), some (qm_i x3), some (qm_i x4), some (qm_i x5), some (qm_i (-1 : Int32)), some (qm_i (0 : Int32)), none], [], h6)) rfl ?_
        exact rX12_sieve_39 ho
theorem cX12_sieve_ok : ∀ q ∈ ([(313, 0, 3, wX12_slipsBy), (285, 2, 1, wX12_ones), (92, 2, 2, wX12_has), (269, 0, 2, wX12_of), (310, 2, 2, wX12_isSize), (301, 0, 2, wX12_hand)] : List (Nat × Nat × Nat × qm_C)), qm_CallOK RX12 4 95 q.2.1 q.1 q.2.2.1 q.2.2.2 := List.forall_mem_cons.mpr ⟨Or.inl ⟨yX12_slipsBy, cX12_slipsBy, 4, (some .int), 3, 72, _, sX12_slipsBy, ⟨by decide, by decide⟩, ⟨jX12_slipsBy, kRX12_313, uRX12⟩, ⟨by decide, by decide, rfl⟩, Or.inl ⟨rfl, rfl, iX12_slipsBy, recvX12_slipsBy⟩⟩, List.forall_mem_cons.mpr ⟨Or.inl ⟨yX12_ones, cX12_ones, 3, (some .int), 1, 21, _, sX12_ones, ⟨by decide, by decide⟩, ⟨jX12_ones, kRX12_285, uRX12⟩, ⟨by decide, by decide, rfl⟩, Or.inr (Or.inl ⟨rfl, rfl, iX12_ones⟩)⟩, List.forall_mem_cons.mpr ⟨Or.inl ⟨yX12_has, cX12_has, 2, (some .boolean), 0, 0, _, sX12_has, ⟨by decide, by decide⟩, ⟨jX12_has, kRX12_92, uRX12⟩, ⟨by decide, by decide, rfl⟩, Or.inr (Or.inl ⟨rfl, rfl, iX12_has⟩)⟩, List.forall_mem_cons.mpr ⟨Or.inl ⟨yX12_of, cX12_of, 2, (some .int), 0, 0, _, sX12_of, ⟨by decide, by decide⟩, ⟨jX12_of, kRX12_269, uRX12⟩, ⟨by decide, by decide, rfl⟩, Or.inl ⟨rfl, rfl, iX12_of, recvX12_of⟩⟩, List.forall_mem_cons.mpr ⟨Or.inl ⟨yX12_isSize, cX12_isSize, 2, (some .boolean), 1, 22, _, sX12_isSize, ⟨by decide, by decide⟩, ⟨jX12_isSize, kRX12_310, uRX12⟩, ⟨by decide, by decide, rfl⟩, Or.inr (Or.inl ⟨rfl, rfl, iX12_isSize⟩)⟩, List.forall_mem_cons.mpr ⟨Or.inl ⟨yX12_hand, cX12_hand, 3, (some .boolean), 2, 44, _, sX12_hand, ⟨by decide, by decide⟩, ⟨jX12_hand, kRX12_301, uRX12⟩, ⟨by decide, by decide, rfl⟩, Or.inl ⟨rfl, rfl, iX12_hand, recvX12_hand⟩⟩, fun _ h => absurd h List.not_mem_nil⟩⟩⟩⟩⟩⟩
theorem sX12_sieve : qm_Snd yX12_sieve cX12_sieve 9 (some .int) 4 95 wX12_sieve := qm_met (fld := fun k => qm_lk k pfRX12) (con := fun k => qm_lk k pcRX12) (call := fun k => qm_lk k [(313, 0, 3, wX12_slipsBy), (285, 2, 1, wX12_ones), (92, 2, 2, wX12_has), (269, 0, 2, wX12_of), (310, 2, 2, wX12_isSize), (301, 0, 2, wX12_hand)]) (tab := qm_tab aX12_sieve) (plainFor_of_name (by decide)) (qm_fld_ok pfRX12_ok) (qm_con_ok pcRX12_ok) (fun idx kd n f hc => cX12_sieve_ok (idx, kd, n, f) (qm_lk_mem hc)) (qm_tab_ok aX12_sieve_ok) (fun vs h o hw => by
  unfold wX12_sieve at hw
  split at hw
  · obtain ⟨r, hr, rfl⟩ := Option.map_eq_some_iff.mp hw
    exact ⟨Nat.le_of_ble_eq_true rfl, rX12_sieve_0 (hr)⟩
  · cases hw)
theorem recvX12_sieve : ∀ vs h o, wX12_sieve vs h = some o → ∃ ci a rest, vs = qm_r 0 ci a :: rest ∧ qm_R ci = yX12_sieve.cls := by
  intro vs h o hw
  unfold wX12_sieve at hw
  split at hw
  · exact ⟨_, _, _, rfl, rfl⟩
  · cases hw
-- RX12 next(II)I
theorem jX12_next : Jvm.Cond.code yX12_next cX12_next 3 (some .int) ∈ qm_all := List.mem_filter.mpr ⟨by decide +kernel, rfl⟩
theorem iX12_next : Jvm.Cond.instanceMethod yX12_next ∈ qm_all ∧ Jvm.Cond.selects yX12_next.cls yX12_next yX12_next ∈ qm_all := ⟨List.mem_filter.mpr ⟨by decide +kernel, rfl⟩, List.mem_filter.mpr ⟨by decide +kernel, rfl⟩⟩
def wX12_next : qm_C := fun vs h => match vs with
  | [.inr (.inr (some (0, 12, p0))), .inl p1, .inl p2] => (qX12_next p0 p1 p2 h).map qm_Gi
  | _ => none
def aX12_next : List (Option (Instr × Nat)) := [some (.iload_n 2, 1), some (.tableswitch 93 0 2 #[27, 46, 69], 27), none, none, none, none, none, none, none, none, none, none, none, none, none, none, none, none, none, none, none, none, none, none, none, none, none, none, some (.iload_n 1, 1), some (.aload_n 0, 1), some (.getfield 273, 3), none, none, some (.if_icmp .ge 7, 3), none, none, some (.iconst (-1), 1), some (.goto 9, 3), none, none, some (.iload_n 1, 1), some (.aload_n 0, 1), some (.getfield 273, 3), none, none, some (.isub, 1), some (.ireturn, 1), some (.iload_n 1, 1), some (.aload_n 0, 1), some (.getfield 273, 3), none, none, some (.irem, 1), some (.iconst 1, 1), some (.iadd, 1), some (.aload_n 0, 1), some (.getfield 273, 3), none, none, some (.if_icmp .ne 7, 3), none, none, some (.iconst (-1), 1), some (.goto 6, 3), none, none, some (.iload_n 1, 1), some (.iconst 1, 1), some (.iadd, 1), some (.ireturn, 1), some (.iload_n 1, 1), some (.aload_n 0, 1), some (.getfield 273, 3), none, none, some (.iadd, 1), some (.aload_n 0, 1), some (.getfield 279, 3), none, none, some (.if_icmp .lt 7, 3), none, none, some (.iconst (-1), 1), some (.goto 9, 3), none, none, some (.iload_n 1, 1), some (.aload_n 0, 1), some (.getfield 273, 3), none, none, some (.iadd, 1), some (.ireturn, 1), some (.iload_n 1, 1), some (.aload_n 0, 1), some (.getfield 273, 3), none, none, some (.irem, 1), some (.ifCond .ne 7, 3), none, none, some (.iconst (-1), 1), some (.goto 6, 3), none, none, some (.iload_n 1, 1), some (.iconst 1, 1), some (.isub, 1), some (.ireturn, 1)]
theorem aX12_next_ok : qm_tabok cX12_next aX12_next = true := by decide +kernel
def mX12_next : qm_M := ((some .int), (fun k => qm_lk k pfRX12), (fun k => qm_lk k pcRX12), (fun k => qm_lk k []), qm_tab aX12_next)
set_option maxRecDepth 20000 in
set_option maxHeartbeats 2000000 in
theorem rX12_next_0   {a0 : Nat} {x1 : Int32} {x2 : Int32} {h : qm_H} {r : Int32 × qm_H} (ho : qX12_next  a0 x1 x2 h = some r) : qm_Ret mX12_next (0, [some (qm_r 0 12 a0), some (qm_i x1), some (qm_i x2)], [], h) (qm_Gi r) := by
  unfold qX12_next at ho
  refine qm_Ret.sts 1 (f' := (1, [some (qm_r 0 12 a0), some (qm_i x1), some (qm_i x2)], [qm_i x2], h)) rfl ?_
  by_cases hc0 : x2 = (0 : Int32)
  · rw [if_pos hc0] at ho
    refine qm_Ret.sw (z := (0 : Int32)) (f1 := (28, [some (qm_r 0 12 a0), some (qm_i x1), some (qm_i x2)], [], h)) hc0 rfl rfl ?_
    refine qm_Ret.sts 3 (f' := (33, [some (qm_r 0 12 a0), some (qm_i x1), some (qm_i x2)], [qm_i (h.1 a0 25), qm_i x1], h)) rfl ?_
    refine qm_Ret.ge (t := 40) (e := 36) rfl (fun hc => ?_) (fun hc => ?_)
    · rw [if_pos hc] at ho
      cases ho
      exact qm_Ret.ret 3 rfl
    · rw [if_neg hc] at ho
      cases ho
      exact qm_Ret.ret 5 rfl
  · rw [if_neg hc0] at ho
    by_cases hc1 : x2 = (1 : Int32)
    · rw [if_pos hc1] at ho
      refine qm_Ret.sw (z := (1 : Int32)) (f1 := (47, [some (qm_r 0 12 a0), some (qm_i x1), some (qm_i x2)], [], h)) hc1 rfl rfl ?_
      refine qm_Ret.sts 3 (f' := (52, [some (qm_r 0 12 a0), some (qm_i x1), some (qm_i x2)], [qm_i (h.1 a0 25), qm_i x1], h)) rfl ?_
      obtain ⟨hg, ho⟩ := qm_ifn ho
      refine qm_Ret.gn (f1 := (53, [some (qm_r 0 12 a0), some (qm_i x1), some (qm_i x2)], [qm_i (qm_irem x1 (h.1 a0 25))], h)) hg rfl ?_
      refine qm_Ret.sts 4 (f' := (59, [some (qm_r 0 12 a0), some (qm_i x1), some (qm_i x2)], [qm_i (h.1 a0 25), qm_i ((qm_irem x1 (h.1 a0 25)) + (1 : Int32))], h)) rfl ?_
      refine qm_Ret.ne (t := 66) (e := 62) rfl (fun hc => ?_) (fun hc => ?_)
      · rw [if_pos hc] at ho
        cases ho
        exact qm_Ret.ret 3 rfl
      · rw [if_neg hc] at ho
        cases ho
        exact qm_Ret.ret 4 rfl
    · rw [if_neg hc1] at ho
      by_cases hc2 : x2 = (2 : Int32)
      · rw [if_pos hc2] at ho
        refine qm_Ret.sw (z := (2 : Int32)) (f1 := (70, [some (qm_r 0 12 a0), some (qm_i x1), some (qm_i x2)], [], h)) hc2 rfl rfl ?_
        refine qm_Ret.sts 6 (f' := (80, [some (qm_r 0 12 a0), some (qm_i x1), some (qm_i x2)], [qm_i (h.1 a0 27), qm_i (x1 + (h.1 a0 25))], h)) rfl ?_
        refine qm_Ret.lt (t := 87) (e := 83) rfl (fun hc => ?_) (fun hc => ?_)
        · rw [if_pos hc] at ho
          cases ho
          exact qm_Ret.ret 5 rfl
        · rw [if_neg hc] at ho
          cases ho
          exact qm_Ret.ret 3 rfl
      · rw [if_neg hc2] at ho
        have nhc0 := lv_neT hc0 (show (0 : Int32).toInt = 0 by decide)
        have nhc1 := lv_neT hc1 (show (1 : Int32).toInt = 1 by decide)
        have nhc2 := lv_neT hc2 (show (2 : Int32).toInt = 2 by decide)
        refine qm_Ret.swd (d := 93) (lo := 0) (hi := 2) (pc := 1) (by omega) (by decide) rfl ?_
        show qm_Ret _ (94, [some (qm_r 0 12 a0), some (qm_i x1), some (qm_i x2)], [], h) _
        refine qm_Ret.sts 3 (f' := (99, [some (qm_r 0 12 a0), some (qm_i x1), some (qm_i x2)], [qm_i (h.1 a0 25), qm_i x1], h)) rfl ?_
        obtain ⟨hg, ho⟩ := qm_ifn ho
        refine qm_Ret.gn (f1 := (100, [some (qm_r 0 12 a0), some (qm_i x1), some (qm_i x2)], [qm_i (qm_irem x1 (h.1 a0 25))], h)) hg rfl ?_
        refine qm_Ret.ne (t := 107) (e := 103) rfl (fun hc => ?_) (fun hc => ?_)
        · rw [if_pos hc] at ho
          cases ho
          exact qm_Ret.ret 3 rfl
        · rw [if_neg hc] at ho
          cases ho
          exact qm_Ret.ret 4 rfl
theorem cX12_next_ok : ∀ q ∈ ([] : List (Nat × Nat × Nat × qm_C)), qm_CallOK RX12 0 0 q.2.1 q.1 q.2.2.1 q.2.2.2 := fun _ h => absurd h List.not_mem_nil
theorem sX12_next : qm_Snd yX12_next cX12_next 3 (some .int) 0 0 wX12_next := qm_met (fld := fun k => qm_lk k pfRX12) (con := fun k => qm_lk k pcRX12) (call := fun k => qm_lk k []) (tab := qm_tab aX12_next) (plainFor_of_name (by decide)) (qm_fld_ok pfRX12_ok) (qm_con_ok pcRX12_ok) (fun idx kd n f hc => cX12_next_ok (idx, kd, n, f) (qm_lk_mem hc)) (qm_tab_ok aX12_next_ok) (fun vs h o hw => by
  unfold wX12_next at hw
  split at hw
  · obtain ⟨r, hr, rfl⟩ := Option.map_eq_some_iff.mp hw
    exact ⟨Nat.le_of_ble_eq_true rfl, rX12_next_0 (hr)⟩
  · cases hw)
theorem recvX12_next : ∀ vs h o, wX12_next vs h = some o → ∃ ci a rest, vs = qm_r 0 ci a :: rest ∧ qm_R ci = yX12_next.cls := by
  intro vs h o hw
  unfold wX12_next at hw
  split at hw
  · exact ⟨_, _, _, rfl, rfl⟩
  · cases hw
