-- RX12 costs(I)I
theorem jX12_costs : Jvm.Cond.code yX12_costs cX12_costs 2 (some .int) ∈ qm_all := List.mem_filter.mpr ⟨by decide +kernel, rfl⟩
theorem iX12_costs : Jvm.Cond.instanceMethod yX12_costs ∈ qm_all ∧ Jvm.Cond.selects yX12_costs.cls yX12_costs yX12_costs ∈ qm_all := ⟨List.mem_filter.mpr ⟨by decide +kernel, rfl⟩, List.mem_filter.mpr ⟨by decide +kernel, rfl⟩⟩
def wX12_costs : qm_C := fun vs h => match vs with
  | [.inr (.inr (some (0, 12, p0))), .inl p1] => (qX12_costs p0 p1 h).map qm_Gi
  | _ => none
def aX12_costs : List (Option (Instr × Nat)) := [some (.aload_n 0, 1), some (.iload_n 1, 1), some (.invokevirtual 288, 3), none, none, some (.ifCond .eq 7, 3), none, none, some (.iconst 0, 1), some (.goto 12, 3), none, none, some (.sipush 256, 3), none, none, some (.aload_n 0, 1), some (.iload_n 1, 1), some (.invokevirtual 291, 3), none, none, some (.imul, 1), some (.iconst 1, 1), some (.iadd, 1), some (.ireturn, 1)]
theorem aX12_costs_ok : qm_tabok cX12_costs aX12_costs = true := by decide +kernel
def mX12_costs : qm_M := ((some .int), (fun k => qm_lk k pfRX12), (fun k => qm_lk k pcRX12), (fun k => qm_lk k [(288, 0, 2, wX12_isOpen), (291, 0, 2, wX12_strength)]), qm_tab aX12_costs)
set_option maxRecDepth 20000 in
set_option maxHeartbeats 2000000 in
theorem rX12_costs_0   {a0 : Nat} {x1 : Int32} {h : qm_H} {r : Int32 × qm_H} (ho : qX12_costs  a0 x1 h = some r) : qm_Ret mX12_costs (0, [some (qm_r 0 12 a0), some (qm_i x1)], [], h) (qm_Gi r) := by
  unfold qX12_costs at ho
  refine qm_Ret.sts 2 (f' := (2, [some (qm_r 0 12 a0), some (qm_i x1)], [qm_i x1, qm_r 0 12 a0], h)) rfl ?_
  obtain ⟨r2, h1, hr, ho⟩ := qm_b2e ho
  refine qm_Ret.call (X := wX12_isOpen [qm_r 0 12 a0, qm_i x1] h) (o1 := (some (qm_i r2), h1)) (qm_mp (G := qm_Gi) hr) rfl ?_
  show qm_Ret _ (5, [some (qm_r 0 12 a0), some (qm_i x1)], [qm_i r2], h1) _
  refine qm_Ret.eq (t := 12) (e := 8) rfl (fun hc => ?_) (fun hc => ?_)
  · rw [if_pos hc] at ho
    refine qm_Ret.sts 3 (f' := (17, [some (qm_r 0 12 a0), some (qm_i x1)], [qm_i x1, qm_r 0 12 a0, qm_i (256 : Int32)], h1)) rfl ?_
    obtain ⟨r4, h3, hr, ho⟩ := qm_b2e ho
    refine qm_Ret.call (X := wX12_strength [qm_r 0 12 a0, qm_i x1] h1) (o1 := (some (qm_i r4), h3)) (qm_mp (G := qm_Gi) hr) rfl ?_
    show qm_Ret _ (20, [some (qm_r 0 12 a0), some (qm_i x1)], [qm_i r4, qm_i (256 : Int32)], h3) _
    cases ho
    exact qm_Ret.ret 4 rfl
  · rw [if_neg hc] at ho
    cases ho
    exact qm_Ret.ret 5 rfl
theorem cX12_costs_ok : ∀ q ∈ ([(288, 0, 2, wX12_isOpen), (291, 0, 2, wX12_strength)] : List (Nat × Nat × Nat × qm_C)), qm_CallOK RX12 2 45 q.2.1 q.1 q.2.2.1 q.2.2.2 := List.forall_mem_cons.mpr ⟨Or.inl ⟨yX12_isOpen, cX12_isOpen, 2, (some .boolean), 1, 21, _, sX12_isOpen, ⟨by decide, by decide⟩, ⟨jX12_isOpen, kRX12_288, uRX12⟩, ⟨by decide, by decide, rfl⟩, Or.inl ⟨rfl, rfl, iX12_isOpen, recvX12_isOpen⟩⟩, List.forall_mem_cons.mpr ⟨Or.inl ⟨yX12_strength, cX12_strength, 5, (some .int), 1, 21, _, sX12_strength, ⟨by decide, by decide⟩, ⟨jX12_strength, kRX12_291, uRX12⟩, ⟨by decide, by decide, rfl⟩, Or.inl ⟨rfl, rfl, iX12_strength, recvX12_strength⟩⟩, fun _ h => absurd h List.not_mem_nil⟩⟩
theorem sX12_costs : qm_Snd yX12_costs cX12_costs 2 (some .int) 2 45 wX12_costs := qm_met (fld := fun k => qm_lk k pfRX12) (con := fun k => qm_lk k pcRX12) (call := fun k => qm_lk k [(288, 0, 2, wX12_isOpen), (291, 0, 2, wX12_strength)]) (tab := qm_tab aX12_costs) (plainFor_of_name (by decide)) (qm_fld_ok pfRX12_ok) (qm_con_ok pcRX12_ok) (fun idx kd n f hc => cX12_costs_ok (idx, kd, n, f) (qm_lk_mem hc)) (qm_tab_ok aX12_costs_ok) (fun vs h o hw => by
  unfold wX12_costs at hw
  split at hw
  · obtain ⟨r, hr, rfl⟩ := Option.map_eq_some_iff.mp hw
    exact ⟨Nat.le_of_ble_eq_true rfl, rX12_costs_0 (hr)⟩
  · cases hw)
theorem recvX12_costs : ∀ vs h o, wX12_costs vs h = some o → ∃ ci a rest, vs = qm_r 0 ci a :: rest ∧ qm_R ci = yX12_costs.cls := by
  intro vs h o hw
  unfold wX12_costs at hw
  split at hw
  · exact ⟨_, _, _, rfl, rfl⟩
  · cases hw
-- RX12 findSoon(I)V
theorem jX12_findSoon : Jvm.Cond.code yX12_findSoon cX12_findSoon 6 none ∈ qm_all := List.mem_filter.mpr ⟨by decide +kernel, rfl⟩
theorem iX12_findSoon : Jvm.Cond.instanceMethod yX12_findSoon ∈ qm_all ∧ Jvm.Cond.selects yX12_findSoon.cls yX12_findSoon yX12_findSoon ∈ qm_all := ⟨List.mem_filter.mpr ⟨by decide +kernel, rfl⟩, List.mem_filter.mpr ⟨by decide +kernel, rfl⟩⟩
def wX12_findSoon : qm_C := fun vs h => match vs with
  | [.inr (.inr (some (0, 12, p0))), .inl p1] => (qX12_findSoon p0 p1 h).map qm_Gv
  | _ => none
def aX12_findSoon : List (Option (Instr × Nat)) := [some (.iconst 0, 1), some (.istore_n 2, 1), some (.iload_n 2, 1), some (.aload_n 0, 1), some (.getfield 279, 3), none, none, some (.if_icmp .ge 31, 3), none, none, some (.aload_n 0, 1), some (.getfield 63, 3), none, none, some (.iload_n 2, 1), some (.iload_n 2, 1), some (.iload_n 1, 1), some (.if_icmp .ne 11, 3), none, none, some (.aload_n 0, 1), some (.iload_n 2, 1), some (.invokevirtual 387, 3), none, none, some (.goto 6, 3), none, none, some (.ldc_w 390, 3), none, none, some (.iastore, 1), some (.iinc 2 1, 3), none, none, some (.goto (-33), 3), none, none, some (.iconst 1, 1), some (.istore_n 2, 1), some (.iload_n 2, 1), some (.ifCond .eq 96, 3), none, none, some (.iconst 0, 1), some (.istore_n 2, 1), some (.iconst 0, 1), some (.istore_n 3, 1), some (.iload_n 3, 1), some (.iconst 4, 1), some (.aload_n 0, 1), some (.getfield 279, 3), none, none, some (.imul, 1), some (.if_icmp .ge 79, 3), none, none, some (.aload_n 0, 1), some (.iload_n 3, 1), some (.iconst 4, 1), some (.idiv, 1), some (.iload_n 3, 1), some (.iconst 4, 1), some (.irem, 1), some (.invokevirtual 391, 3), none, none, some (.istore 4, 2), none, some (.iload 4, 2), none, some (.iconst (-1), 1), some (.if_icmp .ne 9, 3), none, none, some (.ldc_w 390, 3), none, none, some (.goto 18, 3), none, none, some (.aload_n 0, 1), some (.getfield 63, 3), none, none, some (.iload_n 3, 1), some (.iconst 4, 1), some (.idiv, 1), some (.iaload, 1), some (.aload_n 0, 1), some (.iload 4, 2), none, some (.invokevirtual 387, 3), none, none, some (.iadd, 1), some (.istore 5, 2), none, some (.iload 4, 2), none, some (.iconst (-1), 1), some (.if_icmp .eq 26, 3), none, none, some (.iload 5, 2), none, some (.aload_n 0, 1), some (.getfield 63, 3), none, none, some (.iload 4, 2), none, some (.iaload, 1), some (.if_icmp .ge 14, 3), none, none, some (.aload_n 0, 1), some (.getfield 63, 3), none, none, some (.iload 4, 2), none, some (.iload 5, 2), none, some (.iastore, 1), some (.iconst 1, 1), some (.istore_n 2, 1), some (.iinc 3 1, 3), none, none, some (.goto (-83), 3), none, none, some (.goto (-94), 3), none, none, some (.return_, 1)]
theorem aX12_findSoon_ok : qm_tabok cX12_findSoon aX12_findSoon = true := by decide +kernel
def mX12_findSoon : qm_M := (none, (fun k => qm_lk k pfRX12), (fun k => qm_lk k pcRX12), (fun k => qm_lk k [(391, 0, 3, wX12_next), (387, 0, 2, wX12_costs)]), qm_tab aX12_findSoon)
set_option maxRecDepth 20000 in
set_option maxHeartbeats 2000000 in
theorem rX12_findSoon_97 {K40 : Nat → Int32 → qm_H → Option (qm_H)} {K48 : Nat → Int32 → Int32 → qm_H → Option (qm_H)} (H40 : ∀ {a0 : Nat} {x2 : Int32} {xd1 : Int32} {d3 : Option qm_V} {d4 : Option qm_V} {d5 : Option qm_V} {h : qm_H} {r : qm_H}, K40 a0 x2 h = some r → qm_Ret mX12_findSoon (40, [some (qm_r 0 12 a0), some (qm_i xd1), some (qm_i x2), d3, d4, d5], [], h) (qm_Gv r)) (H48 : ∀ {a0 : Nat} {x2 : Int32} {x3 : Int32} {xd1 : Int32} {d4 : Option qm_V} {d5 : Option qm_V} {h : qm_H} {r : qm_H}, K48 a0 x2 x3 h = some r → qm_Ret mX12_findSoon (48, [some (qm_r 0 12 a0), some (qm_i xd1), some (qm_i x2), some (qm_i x3), d4, d5], [], h) (qm_Gv r)) {a0 : Nat} {x2 : Int32} {x3 : Int32} {x4 : Int32} {xs0 : Int32} {xd1 : Int32} {d5 : Option qm_V} {h : qm_H} {r : qm_H} (ho : qX12_findSoon_97 K40 K48 a0 x2 x3 x4 xs0 h = some r) : qm_Ret mX12_findSoon (97, [some (qm_r 0 12 a0), some (qm_i xd1), some (qm_i x2), some (qm_i x3), some (qm_i x4), d5], [qm_i xs0], h) (qm_Gv r) := by
  unfold qX12_findSoon_97 at ho
  refine qm_Ret.sts 3 (f' := (102, [some (qm_r 0 12 a0), some (qm_i xd1), some (qm_i x2), some (qm_i x3), some (qm_i x4), some (qm_i xs0)], [qm_i (-1 : Int32), qm_i x4], h)) rfl ?_
  refine qm_Ret.eq (t := 128) (e := 105) rfl (fun hc => ?_) (fun hc => ?_)
  · rw [if_pos hc] at ho
    refine qm_Ret.sts 2 (f' := (48, [some (qm_r 0 12 a0), some (qm_i xd1), some (qm_i x2), some (qm_i (x3 + (1 : Int32))), some (qm_i x4), some (qm_i xs0)], [], h)) rfl ?_
    exact H48 ho
  · rw [if_neg hc] at ho
    refine qm_Ret.sts 4 (f' := (113, [some (qm_r 0 12 a0), some (qm_i xd1), some (qm_i x2), some (qm_i x3), some (qm_i x4), some (qm_i xs0)], [qm_i x4, qm_r 1 64 (a0 + 18), qm_i xs0], h)) rfl ?_
    obtain ⟨hg, ho⟩ := qm_ifn ho
    refine qm_Ret.gn (f1 := (114, [some (qm_r 0 12 a0), some (qm_i xd1), some (qm_i x2), some (qm_i x3), some (qm_i x4), some (qm_i xs0)], [qm_i (h.1 (a0 + 18) (x4).toNatClampNeg), qm_i xs0], h)) hg rfl ?_
    refine qm_Ret.ge (t := 128) (e := 117) rfl (fun hc => ?_) (fun hc => ?_)
    · rw [if_pos hc] at ho
      refine qm_Ret.sts 4 (f' := (125, [some (qm_r 0 12 a0), some (qm_i xd1), some (qm_i x2), some (qm_i x3), some (qm_i x4), some (qm_i xs0)], [qm_i xs0, qm_i x4, qm_r 1 64 (a0 + 18)], h)) rfl ?_
      obtain ⟨hg, ho⟩ := qm_ifn ho
      refine qm_Ret.gn (f1 := (126, [some (qm_r 0 12 a0), some (qm_i xd1), some (qm_i x2), some (qm_i x3), some (qm_i x4), some (qm_i xs0)], [], (qm_seti h (a0 + 18) (x4).toNatClampNeg xs0))) hg rfl ?_
      refine qm_Ret.lets (F := fun h1 => (126, [some (qm_r 0 12 a0), some (qm_i xd1), some (qm_i x2), some (qm_i x3), some (qm_i x4), some (qm_i xs0)], [], h1)) (G := qm_Gv) ho (fun h1 ho => ?_)
      refine qm_Ret.sts 4 (f' := (48, [some (qm_r 0 12 a0), some (qm_i xd1), some (qm_i (1 : Int32)), some (qm_i (x3 + (1 : Int32))), some (qm_i x4), some (qm_i xs0)], [], h1)) rfl ?_
      exact H48 ho
    · rw [if_neg hc] at ho
      refine qm_Ret.sts 2 (f' := (48, [some (qm_r 0 12 a0), some (qm_i xd1), some (qm_i x2), some (qm_i (x3 + (1 : Int32))), some (qm_i x4), some (qm_i xs0)], [], h)) rfl ?_
      exact H48 ho
set_option maxRecDepth 20000 in
set_option maxHeartbeats 2000000 in
theorem rX12_findSoon_48 {K40 : Nat → Int32 → qm_H → Option (qm_H)} (H40 : ∀ {a0 : Nat} {x2 : Int32} {xd1 : Int32} {d3 : Option qm_V} {d4 : Option qm_V} {d5 : Option qm_V} {h : qm_H} {r : qm_H}, K40 a0 x2 h = some r → qm_Ret mX12_findSoon (40, [some (qm_r 0 12 a0), some (qm_i xd1), some (qm_i x2), d3, d4, d5], [], h) (qm_Gv r)) : ∀ {fuel : Nat} {a0 : Nat} {x2 : Int32} {x3 : Int32} {xd1 : Int32} {d4 : Option qm_V} {d5 : Option qm_V} {h : qm_H} {r : qm_H}, qX12_findSoon_48 K40 fuel a0 x2 x3 h = some r → qm_Ret mX12_findSoon (48, [some (qm_r 0 12 a0), some (qm_i xd1), some (qm_i x2), some (qm_i x3), d4, d5], [], h) (qm_Gv r) := by
  intro fuel
  induction fuel with
  | zero => intros; rename_i ho; cases ho
  | succ n ih =>
    intro a0 x2 x3 xd1 d4 d5 h r ho
    unfold qX12_findSoon_48 at ho
    refine qm_Ret.sts 5 (f' := (55, [some (qm_r 0 12 a0), some (qm_i xd1), some (qm_i x2), some (qm_i x3), d4, d5], [qm_i ((4 : Int32) * (h.1 a0 27)), qm_i x3], h)) rfl ?_
    refine qm_Ret.ge (t := 134) (e := 58) rfl (fun hc => ?_) (fun hc => ?_)
    · rw [if_pos hc] at ho
      refine qm_Ret.sts 7 (f' := (65, [some (qm_r 0 12 a0), some (qm_i xd1), some (qm_i x2), some (qm_i x3), d4, d5], [qm_i (qm_irem x3 (4 : Int32)), qm_i (x3 / (4 : Int32)), qm_r 0 12 a0], h)) rfl ?_
      obtain ⟨r2, h1, hr, ho⟩ := qm_b2e ho
      refine qm_Ret.call (X := wX12_next [qm_r 0 12 a0, qm_i (x3 / (4 : Int32)), qm_i (qm_irem x3 (4 : Int32))] h) (o1 := (some (qm_i r2), h1)) (qm_mp (G := qm_Gi) hr) rfl ?_
      show qm_Ret _ (68, [some (qm_r 0 12 a0), some (qm_i xd1), some (qm_i x2), some (qm_i x3), d4, d5], [qm_i r2], h1) _
      refine qm_Ret.sts 3 (f' := (73, [some (qm_r 0 12 a0), some (qm_i xd1), some (qm_i x2), some (qm_i x3), some (qm_i r2), d5], [qm_i (-1 : Int32), qm_i r2], h1)) rfl ?_
      refine qm_Ret.ne (t := 82) (e := 76) rfl (fun hc => ?_) (fun hc => ?_)
      · rw [if_pos hc] at ho
        refine qm_Ret.sts 2 (f' := (97, [some (qm_r 0 12 a0), some (qm_i xd1), some (qm_i x2), some (qm_i x3), some (qm_i r2), d5], [qm_i (1000000 : Int32)], h1)) rfl ?_
        exact rX12_findSoon_97 H40 (ih) ho
      · rw [if_neg hc] at ho
        refine qm_Ret.sts 5 (f' := (89, [some (qm_r 0 12 a0), some (qm_i xd1), some (qm_i x2), some (qm_i x3), some (qm_i r2), d5], [qm_i (x3 / (4 : Int32)), qm_r 1 64 (a0 + 18)], h1)) rfl ?_
        obtain ⟨hg, ho⟩ := qm_ifn ho
        refine qm_Ret.gn (f1 := (90, [some (qm_r 0 12 a0), some (qm_i xd1), some (qm_i x2), some (qm_i x3), some (qm_i r2), d5], [qm_i (h1.1 (a0 + 18) (x3 / (4 : Int32)).toNatClampNeg)], h1)) hg rfl ?_
        refine qm_Ret.sts 2 (f' := (93, [some (qm_r 0 12 a0), some (qm_i xd1), some (qm_i x2), some (qm_i x3), some (qm_i r2), d5], [qm_i r2, qm_r 0 12 a0, qm_i (h1.1 (a0 + 18) (x3 / (4 : Int32)).toNatClampNeg)], h1)) rfl ?_
        obtain ⟨r4, h3, hr, ho⟩ := qm_b2e ho
        refine qm_Ret.call (X := wX12_costs [qm_r 0 12 a0, qm_i r2] h1) (o1 := (some (qm_i r4), h3)) (qm_mp (G := qm_Gi) hr) rfl ?_
        show qm_Ret _ (96, [some (qm_r 0 12 a0), some (qm_i xd1), some (qm_i x2), some (qm_i x3), some (qm_i r2), d5], [qm_i r4, qm_i (h1.1 (a0 + 18) (x3 / (4 : Int32)).toNatClampNeg)], h3) _
        refine qm_Ret.sts 1 (f' := (97, [some (qm_r 0 12 a0), some (qm_i xd1), some (qm_i x2), some (qm_i x3), some (qm_i r2), d5], [qm_i ((h1.1 (a0 + 18) (x3 / (4 : Int32)).toNatClampNeg) + r4)], h3)) rfl ?_
        exact rX12_findSoon_97 H40 (ih) ho
    · rw [if_neg hc] at ho
      refine qm_Ret.sts 1 (f' := (40, [some (qm_r 0 12 a0), some (qm_i xd1), some (qm_i x2), some (qm_i x3), d4, d5], [], h)) rfl ?_
      exact H40 ho
set_option maxRecDepth 20000 in
set_option maxHeartbeats 2000000 in
theorem rX12_findSoon_40   : ∀ {fuel : Nat} {a0 : Nat} {x2 : Int32} {xd1 : Int32} {d3 : Option qm_V} {d4 : Option qm_V} {d5 : Option qm_V} {h : qm_H} {r : qm_H}, qX12_findSoon_40  fuel a0 x2 h = some r → qm_Ret mX12_findSoon (40, [some (qm_r 0 12 a0), some (qm_i xd1), some (qm_i x2), d3, d4, d5], [], h) (qm_Gv r) := by
  intro fuel
  induction fuel with
  | zero => intros; rename_i ho; cases ho
  | succ n ih =>
    intro a0 x2 xd1 d3 d4 d5 h r ho
    unfold qX12_findSoon_40 at ho
    refine qm_Ret.sts 1 (f' := (41, [some (qm_r 0 12 a0), some (qm_i xd1), some (qm_i x2), d3, d4, d5], [qm_i x2], h)) rfl ?_
    refine qm_Ret.eq (t := 137) (e := 44) rfl (fun hc => ?_) (fun hc => ?_)
    · rw [if_pos hc] at ho
      cases ho
      exact qm_Ret.ret 1 rfl
    · rw [if_neg hc] at ho
      refine qm_Ret.sts 4 (f' := (48, [some (qm_r 0 12 a0), some (qm_i xd1), some (qm_i (0 : Int32)), some (qm_i (0 : Int32)), d4, d5], [], h)) rfl ?_
      exact rX12_findSoon_48 (ih) ho
set_option maxRecDepth 20000 in
set_option maxHeartbeats 2000000 in
theorem rX12_findSoon_2   : ∀ {fuel : Nat} {a0 : Nat} {x1 : Int32} {x2 : Int32} {h : qm_H} {r : qm_H}, qX12_findSoon_2  fuel a0 x1 x2 h = some r → qm_Ret mX12_findSoon (2, [some (qm_r 0 12 a0), some (qm_i x1), some (qm_i x2), none, none, none], [], h) (qm_Gv r) := by
  intro fuel
  induction fuel with
  | zero => intros; rename_i ho; cases ho
  | succ n ih =>
    intro a0 x1 x2 h r ho
    unfold qX12_findSoon_2 at ho
    refine qm_Ret.sts 3 (f' := (7, [some (qm_r 0 12 a0), some (qm_i x1), some (qm_i x2), none, none, none], [qm_i (h.1 a0 27), qm_i x2], h)) rfl ?_
    refine qm_Ret.ge (t := 38) (e := 10) rfl (fun hc => ?_) (fun hc => ?_)
    · rw [if_pos hc] at ho
      refine qm_Ret.sts 5 (f' := (17, [some (qm_r 0 12 a0), some (qm_i x1), some (qm_i x2), none, none, none], [qm_i x1, qm_i x2, qm_i x2, qm_r 1 64 (a0 + 18)], h)) rfl ?_
      refine qm_Ret.ne (t := 28) (e := 20) rfl (fun hc => ?_) (fun hc => ?_)
      · rw [if_pos hc] at ho
        refine qm_Ret.sts 2 (f' := (22, [some (qm_r 0 12 a0), some (qm_i x1), some (qm_i x2), none, none, none], [qm_i x2, qm_r 0 12 a0, qm_i x2, qm_r 1 64 (a0 + 18)], h)) rfl ?_
        obtain ⟨r3, h2, hr, ho⟩ := qm_b2e ho
        refine qm_Ret.call (X := wX12_costs [qm_r 0 12 a0, qm_i x2] h) (o1 := (some (qm_i r3), h2)) (qm_mp (G := qm_Gi) hr) rfl ?_
        show qm_Ret _ (25, [some (qm_r 0 12 a0), some (qm_i x1), some (qm_i x2), none, none, none], [qm_i r3, qm_i x2, qm_r 1 64 (a0 + 18)], h2) _
        refine qm_Ret.sts 1 (f' := (31, [some (qm_r 0 12 a0), some (qm_i x1), some (qm_i x2), none, none, none], [qm_i r3, qm_i x2, qm_r 1 64 (a0 + 18)], h2)) rfl ?_
        obtain ⟨hg, ho⟩ := qm_ifn ho
        refine qm_Ret.gn (f1 := (32, [some (qm_r 0 12 a0), some (qm_i x1), some (qm_i x2), none, none, none], [], (qm_seti h2 (a0 + 18) (x2).toNatClampNeg r3))) hg rfl ?_
        refine qm_Ret.lets (F := fun h4 => (32, [some (qm_r 0 12 a0), some (qm_i x1), some (qm_i x2), none, none, none], [], h4)) (G := qm_Gv) ho (fun h4 ho => ?_)
        refine qm_Ret.sts 2 (f' := (2, [some (qm_r 0 12 a0), some (qm_i x1), some (qm_i (x2 + (1 : Int32))), none, none, none], [], h4)) rfl ?_
        exact ih ho
      · rw [if_neg hc] at ho
        refine qm_Ret.sts 1 (f' := (31, [some (qm_r 0 12 a0), some (qm_i x1), some (qm_i x2), none, none, none], [qm_i (1000000 : Int32), qm_i x2, qm_r 1 64 (a0 + 18)], h)) rfl ?_
        obtain ⟨hg, ho⟩ := qm_ifn ho
        refine qm_Ret.gn (f1 := (32, [some (qm_r 0 12 a0), some (qm_i x1), some (qm_i x2), none, none, none], [], (qm_seti h (a0 + 18) (x2).toNatClampNeg (1000000 : Int32)))) hg rfl ?_
        refine qm_Ret.lets (F := fun h1 => (32, [some (qm_r 0 12 a0), some (qm_i x1), some (qm_i x2), none, none, none], [], h1)) (G := qm_Gv) ho (fun h1 ho => ?_)
        refine qm_Ret.sts 2 (f' := (2, [some (qm_r 0 12 a0), some (qm_i x1), some (qm_i (x2 + (1 : Int32))), none, none, none], [], h1)) rfl ?_
        exact ih ho
    · rw [if_neg hc] at ho
      refine qm_Ret.sts 2 (f' := (40, [some (qm_r 0 12 a0), some (qm_i x1), some (qm_i (1 : Int32)), none, none, none], [], h)) rfl ?_
      exact rX12_findSoon_40 ho
set_option maxRecDepth 20000 in
set_option maxHeartbeats 2000000 in
theorem rX12_findSoon_0   {a0 : Nat} {x1 : Int32} {h : qm_H} {r : qm_H} (ho : qX12_findSoon  a0 x1 h = some r) : qm_Ret mX12_findSoon (0, [some (qm_r 0 12 a0), some (qm_i x1), none, none, none, none], [], h) (qm_Gv r) := by
  unfold qX12_findSoon at ho
  refine qm_Ret.sts 2 (f' := (2, [some (qm_r 0 12 a0), some (qm_i x1), some (qm_i (0 : Int32)), none, none, none], [], h)) rfl ?_
  exact rX12_findSoon_2 ho
theorem cX12_findSoon_ok : ∀ q ∈ ([(391, 0, 3, wX12_next), (387, 0, 2, wX12_costs)] : List (Nat × Nat × Nat × qm_C)), qm_CallOK RX12 3 66 q.2.1 q.1 q.2.2.1 q.2.2.2 := List.forall_mem_cons.mpr ⟨Or.inl ⟨yX12_next, cX12_next, 3, (some .int), 0, 0, _, sX12_next, ⟨by decide, by decide⟩, ⟨jX12_next, kRX12_391, uRX12⟩, ⟨by decide, by decide, rfl⟩, Or.inl ⟨rfl, rfl, iX12_next, recvX12_next⟩⟩, List.forall_mem_cons.mpr ⟨Or.inl ⟨yX12_costs, cX12_costs, 2, (some .int), 2, 45, _, sX12_costs, ⟨by decide, by decide⟩, ⟨jX12_costs, kRX12_387, uRX12⟩, ⟨by decide, by decide, rfl⟩, Or.inl ⟨rfl, rfl, iX12_costs, recvX12_costs⟩⟩, fun _ h => absurd h List.not_mem_nil⟩⟩
theorem sX12_findSoon : qm_Snd yX12_findSoon cX12_findSoon 6 none 3 66 wX12_findSoon := qm_met (fld := fun k => qm_lk k pfRX12) (con := fun k => qm_lk k pcRX12) (call := fun k => qm_lk k [(391, 0, 3, wX12_next), (387, 0, 2, wX12_costs)]) (tab := qm_tab aX12_findSoon) (plainFor_of_name (by decide)) (qm_fld_ok pfRX12_ok) (qm_con_ok pcRX12_ok) (fun idx kd n f hc => cX12_findSoon_ok (idx, kd, n, f) (qm_lk_mem hc)) (qm_tab_ok aX12_findSoon_ok) (fun vs h o hw => by
  unfold wX12_findSoon at hw
  split at hw
  · obtain ⟨r, hr, rfl⟩ := Option.map_eq_some_iff.mp hw
    exact ⟨Nat.le_of_ble_eq_true rfl, rX12_findSoon_0 (hr)⟩
  · cases hw)
theorem recvX12_findSoon : ∀ vs h o, wX12_findSoon vs h = some o → ∃ ci a rest, vs = qm_r 0 ci a :: rest ∧ qm_R ci = yX12_findSoon.cls := by
  intro vs h o hw
  unfold wX12_findSoon at hw
  split at hw
  · exact ⟨_, _, _, rfl, rfl⟩
  · cases hw
-- RX12 isEdge(I)Z
theorem jX12_isEdge : Jvm.Cond.code yX12_isEdge cX12_isEdge 2 (some .boolean) ∈ qm_all := List.mem_filter.mpr ⟨by decide +kernel, rfl⟩
theorem iX12_isEdge : Jvm.Cond.instanceMethod yX12_isEdge ∈ qm_all ∧ Jvm.Cond.selects yX12_isEdge.cls yX12_isEdge yX12_isEdge ∈ qm_all := ⟨List.mem_filter.mpr ⟨by decide +kernel, rfl⟩, List.mem_filter.mpr ⟨by decide +kernel, rfl⟩⟩
def wX12_isEdge : qm_C := fun vs h => match vs with
  | [.inr (.inr (some (0, 12, p0))), .inl p1] => (qX12_isEdge p0 p1 h).map qm_Gi
  | _ => none
def aX12_isEdge : List (Option (Instr × Nat)) := [some (.iload_n 1, 1), some (.aload_n 0, 1), some (.getfield 273, 3), none, none, some (.if_icmp .lt 40, 3), none, none, some (.iload_n 1, 1), some (.aload_n 0, 1), some (.getfield 279, 3), none, none, some (.aload_n 0, 1), some (.getfield 273, 3), none, none, some (.isub, 1), some (.if_icmp .ge 27, 3), none, none, some (.iload_n 1, 1), some (.aload_n 0, 1), some (.getfield 273, 3), none, none, some (.irem, 1), some (.ifCond .eq 18, 3), none, none, some (.iload_n 1, 1), some (.aload_n 0, 1), some (.getfield 273, 3), none, none, some (.irem, 1), some (.aload_n 0, 1), some (.getfield 273, 3), none, none, some (.iconst 1, 1), some (.isub, 1), some (.if_icmp .ne 7, 3), none, none, some (.iconst 1, 1), some (.goto 4, 3), none, none, some (.iconst 0, 1), some (.ireturn, 1)]
theorem aX12_isEdge_ok : qm_tabok cX12_isEdge aX12_isEdge = true := by decide +kernel
def mX12_isEdge : qm_M := ((some .boolean), (fun k => qm_lk k pfRX12), (fun k => qm_lk k pcRX12), (fun k => qm_lk k []), qm_tab aX12_isEdge)
set_option maxRecDepth 20000 in
set_option maxHeartbeats 2000000 in
theorem rX12_isEdge_0   {a0 : Nat} {x1 : Int32} {h : qm_H} {r : Int32 × qm_H} (ho : qX12_isEdge  a0 x1 h = some r) : qm_Ret mX12_isEdge (0, [some (qm_r 0 12 a0), some (qm_i x1)], [], h) (qm_Gi r) := by
  unfold qX12_isEdge at ho
  refine qm_Ret.sts 3 (f' := (5, [some (qm_r 0 12 a0), some (qm_i x1)], [qm_i (h.1 a0 25), qm_i x1], h)) rfl ?_
  refine qm_Ret.lt (t := 45) (e := 8) rfl (fun hc => ?_) (fun hc => ?_)
  · rw [if_pos hc] at ho
    cases ho
    exact qm_Ret.ret 3 rfl
  · rw [if_neg hc] at ho
    refine qm_Ret.sts 6 (f' := (18, [some (qm_r 0 12 a0), some (qm_i x1)], [qm_i ((h.1 a0 27) - (h.1 a0 25)), qm_i x1], h)) rfl ?_
    refine qm_Ret.ge (t := 45) (e := 21) rfl (fun hc => ?_) (fun hc => ?_)
    · rw [if_pos hc] at ho
      refine qm_Ret.sts 3 (f' := (26, [some (qm_r 0 12 a0), some (qm_i x1)], [qm_i (h.1 a0 25), qm_i x1], h)) rfl ?_
      obtain ⟨hg, ho⟩ := qm_ifn ho
      refine qm_Ret.gn (f1 := (27, [some (qm_r 0 12 a0), some (qm_i x1)], [qm_i (qm_irem x1 (h.1 a0 25))], h)) hg rfl ?_
      refine qm_Ret.eq (t := 45) (e := 30) rfl (fun hc => ?_) (fun hc => ?_)
      · rw [if_pos hc] at ho
        cases ho
        exact qm_Ret.ret 3 rfl
      · rw [if_neg hc] at ho
        refine qm_Ret.sts 3 (f' := (35, [some (qm_r 0 12 a0), some (qm_i x1)], [qm_i (h.1 a0 25), qm_i x1], h)) rfl ?_
        obtain ⟨hg, ho⟩ := qm_ifn ho
        refine qm_Ret.gn (f1 := (36, [some (qm_r 0 12 a0), some (qm_i x1)], [qm_i (qm_irem x1 (h.1 a0 25))], h)) hg rfl ?_
        refine qm_Ret.sts 4 (f' := (42, [some (qm_r 0 12 a0), some (qm_i x1)], [qm_i ((h.1 a0 25) - (1 : Int32)), qm_i (qm_irem x1 (h.1 a0 25))], h)) rfl ?_
        refine qm_Ret.ne (t := 49) (e := 45) rfl (fun hc => ?_) (fun hc => ?_)
        · rw [if_pos hc] at ho
          cases ho
          exact qm_Ret.ret 3 rfl
        · rw [if_neg hc] at ho
          cases ho
          exact qm_Ret.ret 2 rfl
    · rw [if_neg hc] at ho
      cases ho
      exact qm_Ret.ret 3 rfl
theorem cX12_isEdge_ok : ∀ q ∈ ([] : List (Nat × Nat × Nat × qm_C)), qm_CallOK RX12 0 0 q.2.1 q.1 q.2.2.1 q.2.2.2 := fun _ h => absurd h List.not_mem_nil
theorem sX12_isEdge : qm_Snd yX12_isEdge cX12_isEdge 2 (some .boolean) 0 0 wX12_isEdge := qm_met (fld := fun k => qm_lk k pfRX12) (con := fun k => qm_lk k pcRX12) (call := fun k => qm_lk k []) (tab := qm_tab aX12_isEdge) (plainFor_of_name (by decide)) (qm_fld_ok pfRX12_ok) (qm_con_ok pcRX12_ok) (fun idx kd n f hc => cX12_isEdge_ok (idx, kd, n, f) (qm_lk_mem hc)) (qm_tab_ok aX12_isEdge_ok) (fun vs h o hw => by
  unfold wX12_isEdge at hw
  split at hw
  · obtain ⟨r, hr, rfl⟩ := Option.map_eq_some_iff.mp hw
    exact ⟨Nat.le_of_ble_eq_true rfl, rX12_isEdge_0 (hr)⟩
  · cases hw)
theorem recvX12_isEdge : ∀ vs h o, wX12_isEdge vs h = some o → ∃ ci a rest, vs = qm_r 0 ci a :: rest ∧ qm_R ci = yX12_isEdge.cls := by
  intro vs h o hw
  unfold wX12_isEdge at hw
  split at hw
  · exact ⟨_, _, _, rfl, rfl⟩
  · cases hw
-- RX12 escape(IIZ)I
theorem jX12_escape : Jvm.Cond.code yX12_escape cX12_escape 6 (some .int) ∈ qm_all := List.mem_filter.mpr ⟨by decide +kernel, rfl⟩
theorem iX12_escape : Jvm.Cond.instanceMethod yX12_escape ∈ qm_all ∧ Jvm.Cond.selects yX12_escape.cls yX12_escape yX12_escape ∈ qm_all := ⟨List.mem_filter.mpr ⟨by decide +kernel, rfl⟩, List.mem_filter.mpr ⟨by decide +kernel, rfl⟩⟩
def wX12_escape : qm_C := fun vs h => match vs with
  | [.inr (.inr (some (0, 12, p0))), .inl p1, .inl p2, .inl p3] => (qX12_escape p0 p1 p2 p3 h).map qm_Gi
  | _ => none
def aX12_escape : List (Option (Instr × Nat)) := [some (.aload_n 0, 1), some (.iconst 0, 1), some (.putfield 88, 3), none, none, some (.aload_n 0, 1), some (.iload_n 1, 1), some (.invokevirtual 301, 3), none, none, some (.ifCond .eq 11, 3), none, none, some (.aload_n 0, 1), some (.iload_n 2, 1), some (.invokevirtual 394, 3), none, none, some (.ifCond .ne 5, 3), none, none, some (.iconst (-1), 1), some (.ireturn, 1), some (.aload_n 0, 1), some (.iload_n 2, 1), some (.invokevirtual 397, 3), none, none, some (.ldc_w 390, 3), none, none, some (.istore 4, 2), none, some (.iconst 0, 1), some (.istore 5, 2), none, some (.iload 5, 2), none, some (.aload_n 0, 1), some (.getfield 279, 3), none, none, some (.if_icmp .ge 37, 3), none, none, some (.aload_n 0, 1), some (.iload 5, 2), none, some (.invokevirtual 400, 3), none, none, some (.ifCond .eq 18, 3), none, none, some (.iload 4, 2), none, some (.aload_n 0, 1), some (.getfield 63, 3), none, none, some (.iload 5, 2), none, some (.iaload, 1), some (.invokestatic 335, 3), none, none, some (.goto 5, 3), none, none, some (.iload 4, 2), none, some (.istore 4, 2), none, some (.iinc 5 1, 3), none, none, some (.goto (-40), 3), none, none, some (.iload_n 3, 1), some (.ifCond .eq 12, 3), none, none, some (.iload 4, 2), none, some (.sipush 256, 3), none, none, some (.irem, 1), some (.goto 9, 3), none, none, some (.iload 4, 2), none, some (.sipush 256, 3), none, none, some (.idiv, 1), some (.ireturn, 1)]
theorem aX12_escape_ok : qm_tabok cX12_escape aX12_escape = true := by decide +kernel
def mX12_escape : qm_M := ((some .int), (fun k => qm_lk k pfRX12), (fun k => qm_lk k pcRX12), (fun k => qm_lk k [(400, 0, 2, wX12_isEdge), (335, 2, 2, wX12_lesser), (301, 0, 2, wX12_hand), (394, 0, 2, wX12_isCell), (397, 0, 2, wX12_findSoon)]), qm_tab aX12_escape)
set_option maxRecDepth 20000 in
set_option maxHeartbeats 2000000 in
theorem rX12_escape_36   : ∀ {fuel : Nat} {a0 : Nat} {x3 : Int32} {x4 : Int32} {x5 : Int32} {xd1 : Int32} {xd2 : Int32} {h : qm_H} {r : Int32 × qm_H}, qX12_escape_36  fuel a0 x3 x4 x5 h = some r → qm_Ret mX12_escape (36, [some (qm_r 0 12 a0), some (qm_i xd1), some (qm_i xd2), some (qm_i x3), some (qm_i x4), some (qm_i x5)], [], h) (qm_Gi r) := by
  intro fuel
  induction fuel with
  | zero => intros; rename_i ho; cases ho
  | succ n ih =>
    intro a0 x3 x4 x5 xd1 xd2 h r ho
    unfold qX12_escape_36 at ho
    refine qm_Ret.sts 3 (f' := (42, [some (qm_r 0 12 a0), some (qm_i xd1), some (qm_i xd2), some (qm_i x3), some (qm_i x4), some (qm_i x5)], [qm_i (h.1 a0 27), qm_i x5], h)) rfl ?_
    refine qm_Ret.ge (t := 79) (e := 45) rfl (fun hc => ?_) (fun hc => ?_)
    · rw [if_pos hc] at ho
      refine qm_Ret.sts 2 (f' := (48, [some (qm_r 0 12 a0), some (qm_i xd1), some (qm_i xd2), some (qm_i x3), some (qm_i x4), some (qm_i x5)], [qm_i x5, qm_r 0 12 a0], h)) rfl ?_
      obtain ⟨r2, h1, hr, ho⟩ := qm_b2e ho
      refine qm_Ret.call (X := wX12_isEdge [qm_r 0 12 a0, qm_i x5] h) (o1 := (some (qm_i r2), h1)) (qm_mp (G := qm_Gi) hr) rfl ?_
      show qm_Ret _ (51, [some (qm_r 0 12 a0), some (qm_i xd1), some (qm_i xd2), some (qm_i x3), some (qm_i x4), some (qm_i x5)], [qm_i r2], h1) _
      refine qm_Ret.eq (t := 69) (e := 54) rfl (fun hc => ?_) (fun hc => ?_)
      · rw [if_pos hc] at ho
        refine qm_Ret.sts 4 (f' := (36, [some (qm_r 0 12 a0), some (qm_i xd1), some (qm_i xd2), some (qm_i x3), some (qm_i x4), some (qm_i (x5 + (1 : Int32)))], [], h1)) rfl ?_
        exact ih ho
      · rw [if_neg hc] at ho
        refine qm_Ret.sts 4 (f' := (62, [some (qm_r 0 12 a0), some (qm_i xd1), some (qm_i xd2), some (qm_i x3), some (qm_i x4), some (qm_i x5)], [qm_i x5, qm_r 1 64 (a0 + 18), qm_i x4], h1)) rfl ?_
        obtain ⟨hg, ho⟩ := qm_ifn ho
        refine qm_Ret.gn (f1 := (63, [some (qm_r 0 12 a0), some (qm_i xd1), some (qm_i xd2), some (qm_i x3), some (qm_i x4), some (qm_i x5)], [qm_i (h1.1 (a0 + 18) (x5).toNatClampNeg), qm_i x4], h1)) hg rfl ?_
        obtain ⟨r4, h3, hr, ho⟩ := qm_b2e ho
        refine qm_Ret.call (X := wX12_lesser [qm_i x4, qm_i (h1.1 (a0 + 18) (x5).toNatClampNeg)] h1) (o1 := (some (qm_i r4), h3)) (qm_mp (G := qm_Gi) hr) rfl ?_
        show qm_Ret _ (66, [some (qm_r 0 12 a0), some (qm_i xd1), some (qm_i xd2), some (qm_i x3), some (qm_i x4), some (qm_i x5)], [qm_i r4], h3) _
        refine qm_Ret.sts 4 (f' := (36, [some (qm_r 0 12 a0), some (qm_i xd1), some (qm_i xd2), some (qm_i x3), some (qm_i r4), some (qm_i (x5 + (1 : Int32)))], [], h3)) rfl ?_
        exact ih ho
    · rw [if_neg hc] at ho
      refine qm_Ret.sts 1 (f' := (80, [some (qm_r 0 12 a0), some (qm_i xd1), some (qm_i xd2), some (qm_i x3), some (qm_i x4), some (qm_i x5)], [qm_i x3], h)) rfl ?_
      refine qm_Ret.eq (t := 92) (e := 83) rfl (fun hc => ?_) (fun hc => ?_)
      · rw [if_pos hc] at ho
        cases ho
        exact qm_Ret.ret 4 rfl
      · rw [if_neg hc] at ho
        cases ho
        exact qm_Ret.ret 5 rfl
set_option maxRecDepth 20000 in
set_option maxHeartbeats 2000000 in
theorem rX12_escape_0   {a0 : Nat} {x1 : Int32} {x2 : Int32} {x3 : Int32} {h : qm_H} {r : Int32 × qm_H} (ho : qX12_escape  a0 x1 x2 x3 h = some r) : qm_Ret mX12_escape (0, [some (qm_r 0 12 a0), some (qm_i x1), some (qm_i x2), some (qm_i x3), none, none], [], h) (qm_Gi r) := by
  unfold qX12_escape at ho
  refine qm_Ret.sts 3 (f' := (5, [some (qm_r 0 12 a0), some (qm_i x1), some (qm_i x2), some (qm_i x3), none, none], [], (qm_seti h a0 0 (0 : Int32)))) rfl ?_
  refine qm_Ret.lets (F := fun h1 => (5, [some (qm_r 0 12 a0), some (qm_i x1), some (qm_i x2), some (qm_i x3), none, none], [], h1)) (G := qm_Gi) ho (fun h1 ho => ?_)
  refine qm_Ret.sts 2 (f' := (7, [some (qm_r 0 12 a0), some (qm_i x1), some (qm_i x2), some (qm_i x3), none, none], [qm_i x1, qm_r 0 12 a0], h1)) rfl ?_
  obtain ⟨r3, h2, hr, ho⟩ := qm_b2e ho
  refine qm_Ret.call (X := wX12_hand [qm_r 0 12 a0, qm_i x1] h1) (o1 := (some (qm_i r3), h2)) (qm_mp (G := qm_Gi) hr) rfl ?_
  show qm_Ret _ (10, [some (qm_r 0 12 a0), some (qm_i x1), some (qm_i x2), some (qm_i x3), none, none], [qm_i r3], h2) _
  refine qm_Ret.eq (t := 21) (e := 13) rfl (fun hc => ?_) (fun hc => ?_)
  · rw [if_pos hc] at ho
    cases ho
    exact qm_Ret.ret 2 rfl
  · rw [if_neg hc] at ho
    refine qm_Ret.sts 2 (f' := (15, [some (qm_r 0 12 a0), some (qm_i x1), some (qm_i x2), some (qm_i x3), none, none], [qm_i x2, qm_r 0 12 a0], h2)) rfl ?_
    obtain ⟨r5, h4, hr, ho⟩ := qm_b2e ho
    refine qm_Ret.call (X := wX12_isCell [qm_r 0 12 a0, qm_i x2] h2) (o1 := (some (qm_i r5), h4)) (qm_mp (G := qm_Gi) hr) rfl ?_
    show qm_Ret _ (18, [some (qm_r 0 12 a0), some (qm_i x1), some (qm_i x2), some (qm_i x3), none, none], [qm_i r5], h4) _
    refine qm_Ret.ne (t := 23) (e := 21) rfl (fun hc => ?_) (fun hc => ?_)
    · rw [if_pos hc] at ho
      cases ho
      exact qm_Ret.ret 2 rfl
    · rw [if_neg hc] at ho
      refine qm_Ret.sts 2 (f' := (25, [some (qm_r 0 12 a0), some (qm_i x1), some (qm_i x2), some (qm_i x3), none, none], [qm_i x2, qm_r 0 12 a0], h4)) rfl ?_
      obtain ⟨h6, hr, ho⟩ := qm_bd ho
      refine qm_Ret.call (X := wX12_findSoon [qm_r 0 12 a0, qm_i x2] h4) (o1 := (none, h6)) (qm_mp (G := qm_Gv) hr) rfl ?_
      show qm_Ret _ (28, [some (qm_r 0 12 a0), some (qm_i x1), some (qm_i x2), some (qm_i x3), none, none], [], h6) _
      refine qm_Ret.sts 4 (f' := (36, [some (qm_r 0 12 a0), some (qm_i x1), some (qm_i x2), some (qm_i x3), some (qm_i (1000000 : Int32)), some (qm_i (0 : Int32))], [], h6)) rfl ?_
      exact rX12_escape_36 ho
theorem cX12_escape_ok : ∀ q ∈ ([(400, 0, 2, wX12_isEdge), (335, 2, 2, wX12_lesser), (301, 0, 2, wX12_hand), (394, 0, 2, wX12_isCell), (397, 0, 2, wX12_findSoon)] : List (Nat × Nat × Nat × qm_C)), qm_CallOK RX12 4 91 q.2.1 q.1 q.2.2.1 q.2.2.2 := List.forall_mem_cons.mpr ⟨Or.inl ⟨yX12_isEdge, cX12_isEdge, 2, (some .boolean), 0, 0, _, sX12_isEdge, ⟨by decide, by decide⟩, ⟨jX12_isEdge, kRX12_400, uRX12⟩, ⟨by decide, by decide, rfl⟩, Or.inl ⟨rfl, rfl, iX12_isEdge, recvX12_isEdge⟩⟩, List.forall_mem_cons.mpr ⟨Or.inl ⟨yX12_lesser, cX12_lesser, 2, (some .int), 0, 0, _, sX12_lesser, ⟨by decide, by decide⟩, ⟨jX12_lesser, kRX12_335, uRX12⟩, ⟨by decide, by decide, rfl⟩, Or.inr (Or.inl ⟨rfl, rfl, iX12_lesser⟩)⟩, List.forall_mem_cons.mpr ⟨Or.inl ⟨yX12_hand, cX12_hand, 3, (some .boolean), 2, 44, _, sX12_hand, ⟨by decide, by decide⟩, ⟨jX12_hand, kRX12_301, uRX12⟩, ⟨by decide, by decide, rfl⟩, Or.inl ⟨rfl, rfl, iX12_hand, recvX12_hand⟩⟩, List.forall_mem_cons.mpr ⟨Or.inl ⟨yX12_isCell, cX12_isCell, 2, (some .boolean), 1, 22, _, sX12_isCell, ⟨by decide, by decide⟩, ⟨jX12_isCell, kRX12_394, uRX12⟩, ⟨by decide, by decide, rfl⟩, Or.inl ⟨rfl, rfl, iX12_isCell, recvX12_isCell⟩⟩, List.forall_mem_cons.mpr ⟨Or.inl ⟨yX12_findSoon, cX12_findSoon, 6, none, 3, 66, _, sX12_findSoon, ⟨by decide, by decide⟩, ⟨jX12_findSoon, kRX12_397, uRX12⟩, ⟨by decide, by decide, rfl⟩, Or.inl ⟨rfl, rfl, iX12_findSoon, recvX12_findSoon⟩⟩, fun _ h => absurd h List.not_mem_nil⟩⟩⟩⟩⟩
theorem sX12_escape : qm_Snd yX12_escape cX12_escape 6 (some .int) 4 91 wX12_escape := qm_met (fld := fun k => qm_lk k pfRX12) (con := fun k => qm_lk k pcRX12) (call := fun k => qm_lk k [(400, 0, 2, wX12_isEdge), (335, 2, 2, wX12_lesser), (301, 0, 2, wX12_hand), (394, 0, 2, wX12_isCell), (397, 0, 2, wX12_findSoon)]) (tab := qm_tab aX12_escape) (plainFor_of_name (by decide)) (qm_fld_ok pfRX12_ok) (qm_con_ok pcRX12_ok) (fun idx kd n f hc => cX12_escape_ok (idx, kd, n, f) (qm_lk_mem hc)) (qm_tab_ok aX12_escape_ok) (fun vs h o hw => by
  unfold wX12_escape at hw
  split at hw
  · obtain ⟨r, hr, rfl⟩ := Option.map_eq_some_iff.mp hw
    exact ⟨Nat.le_of_ble_eq_true rfl, rX12_escape_0 (hr)⟩
  · cases hw)
theorem recvX12_escape : ∀ vs h o, wX12_escape vs h = some o → ∃ ci a rest, vs = qm_r 0 ci a :: rest ∧ qm_R ci = yX12_escape.cls := by
  intro vs h o hw
  unfold wX12_escape at hw
  split at hw
  · exact ⟨_, _, _, rfl, rfl⟩
  · cases hw
-- RX12 findHoles()V
theorem jX12_findHoles : Jvm.Cond.code yX12_findHoles cX12_findHoles 4 none ∈ qm_all := List.mem_filter.mpr ⟨by decide +kernel, rfl⟩
theorem iX12_findHoles : Jvm.Cond.instanceMethod yX12_findHoles ∈ qm_all ∧ Jvm.Cond.selects yX12_findHoles.cls yX12_findHoles yX12_findHoles ∈ qm_all := ⟨List.mem_filter.mpr ⟨by decide +kernel, rfl⟩, List.mem_filter.mpr ⟨by decide +kernel, rfl⟩⟩
def wX12_findHoles : qm_C := fun vs h => match vs with
  | [.inr (.inr (some (0, 12, p0)))] => (qX12_findHoles p0 h).map qm_Gv
  | _ => none
def aX12_findHoles : List (Option (Instr × Nat)) := [some (.iconst 0, 1), some (.istore_n 1, 1), some (.iload_n 1, 1), some (.aload_n 0, 1), some (.getfield 279, 3), none, none, some (.if_icmp .ge 28, 3), none, none, some (.aload_n 0, 1), some (.getfield 66, 3), none, none, some (.iload_n 1, 1), some (.aload_n 0, 1), some (.iload_n 1, 1), some (.invokevirtual 288, 3), none, none, some (.ifCond .eq 7, 3), none, none, some (.iload_n 1, 1), some (.goto 4, 3), none, none, some (.iconst (-1), 1), some (.iastore, 1), some (.iinc 1 1, 3), none, none, some (.goto (-30), 3), none, none, some (.iconst 1, 1), some (.istore_n 1, 1), some (.iload_n 1, 1), some (.ifCond .eq 97, 3), none, none, some (.iconst 0, 1), some (.istore_n 1, 1), some (.iconst 0, 1), some (.istore_n 2, 1), some (.iload_n 2, 1), some (.iconst 4, 1), some (.aload_n 0, 1), some (.getfield 279, 3), none, none, some (.imul, 1), some (.if_icmp .ge 80, 3), none, none, some (.aload_n 0, 1), some (.iload_n 2, 1), some (.iconst 4, 1), some (.idiv, 1), some (.iload_n 2, 1), some (.iconst 4, 1), some (.irem, 1), some (.invokevirtual 391, 3), none, none, some (.istore_n 3, 1), some (.iload_n 3, 1), some (.iconst (-1), 1), some (.if_icmp .eq 58, 3), none, none, some (.aload_n 0, 1), some (.getfield 66, 3), none, none, some (.iload_n 3, 1), some (.iaload, 1), some (.iconst (-1), 1), some (.if_icmp .eq 48, 3), none, none, some (.aload_n 0, 1), some (.getfield 66, 3), none, none, some (.iload_n 2, 1), some (.iconst 4, 1), some (.idiv, 1), some (.iaload, 1), some (.iconst (-1), 1), some (.if_icmp .eq 36, 3), none, none, some (.aload_n 0, 1), some (.getfield 66, 3), none, none, some (.iload_n 2, 1), some (.iconst 4, 1), some (.idiv, 1), some (.iaload, 1), some (.aload_n 0, 1), some (.getfield 66, 3), none, none, some (.iload_n 3, 1), some (.iaload, 1), some (.if_icmp .ge 19, 3), none, none, some (.aload_n 0, 1), some (.getfield 66, 3), none, none, some (.iload_n 3, 1), some (.aload_n 0, 1), some (.getfield 66, 3), none, none, some (.iload_n 2, 1), some (.iconst 4, 1), some (.idiv, 1), some (.iaload, 1), some (.iastore, 1), some (.iconst 1, 1), some (.istore_n 1, 1), some (.iinc 2 1, 3), none, none, some (.goto (-84), 3), none, none, some (.goto (-95), 3), none, none, some (.return_, 1)]
theorem aX12_findHoles_ok : qm_tabok cX12_findHoles aX12_findHoles = true := by decide +kernel
def mX12_findHoles : qm_M := (none, (fun k => qm_lk k pfRX12), (fun k => qm_lk k pcRX12), (fun k => qm_lk k [(391, 0, 3, wX12_next), (288, 0, 2, wX12_isOpen)]), qm_tab aX12_findHoles)
set_option maxRecDepth 20000 in
set_option maxHeartbeats 2000000 in
theorem rX12_findHoles_45 {K37 : Nat → Int32 → qm_H → Option (qm_H)} (H37 : ∀ {a0 : Nat} {x1 : Int32} {d2 : Option qm_V} {d3 : Option qm_V} {h : qm_H} {r : qm_H}, K37 a0 x1 h = some r → qm_Ret mX12_findHoles (37, [some (qm_r 0 12 a0), some (qm_i x1), d2, d3], [], h) (qm_Gv r)) : ∀ {fuel : Nat} {a0 : Nat} {x1 : Int32} {x2 : Int32} {d3 : Option qm_V} {h : qm_H} {r : qm_H}, qX12_findHoles_45 K37 fuel a0 x1 x2 h = some r → qm_Ret mX12_findHoles (45, [some (qm_r 0 12 a0), some (qm_i x1), some (qm_i x2), d3], [], h) (qm_Gv r) := by
  intro fuel
  induction fuel with
  | zero => intros; rename_i ho; cases ho
  | succ n ih =>
    intro a0 x1 x2 d3 h r ho
    unfold qX12_findHoles_45 at ho
    refine qm_Ret.sts 5 (f' := (52, [some (qm_r 0 12 a0), some (qm_i x1), some (qm_i x2), d3], [qm_i ((4 : Int32) * (h.1 a0 27)), qm_i x2], h)) rfl ?_
    refine qm_Ret.ge (t := 132) (e := 55) rfl (fun hc => ?_) (fun hc => ?_)
    · rw [if_pos hc] at ho
      refine qm_Ret.sts 7 (f' := (62, [some (qm_r 0 12 a0), some (qm_i x1), some (qm_i x2), d3], [qm_i (qm_irem x2 (4 : Int32)), qm_i (x2 / (4 : Int32)), qm_r 0 12 a0], h)) rfl ?_
      obtain ⟨r2, h1, hr, ho⟩ := qm_b2e ho
      refine qm_Ret.call (X := wX12_next [qm_r 0 12 a0, qm_i (x2 / (4 : Int32)), qm_i (qm_irem x2 (4 : Int32))] h) (o1 := (some (qm_i r2), h1)) (qm_mp (G := qm_Gi) hr) rfl ?_
      show qm_Ret _ (65, [some (qm_r 0 12 a0), some (qm_i x1), some (qm_i x2), d3], [qm_i r2], h1) _
      refine qm_Ret.sts 3 (f' := (68, [some (qm_r 0 12 a0), some (qm_i x1), some (qm_i x2), some (qm_i r2)], [qm_i (-1 : Int32), qm_i r2], h1)) rfl ?_
      refine qm_Ret.eq (t := 126) (e := 71) rfl (fun hc => ?_) (fun hc => ?_)
      · rw [if_pos hc] at ho
        refine qm_Ret.sts 2 (f' := (45, [some (qm_r 0 12 a0), some (qm_i x1), some (qm_i (x2 + (1 : Int32))), some (qm_i r2)], [], h1)) rfl ?_
        exact ih ho
      · rw [if_neg hc] at ho
        refine qm_Ret.sts 3 (f' := (76, [some (qm_r 0 12 a0), some (qm_i x1), some (qm_i x2), some (qm_i r2)], [qm_i r2, qm_r 1 64 (a0 + 19)], h1)) rfl ?_
        obtain ⟨hg, ho⟩ := qm_ifn ho
        refine qm_Ret.gn (f1 := (77, [some (qm_r 0 12 a0), some (qm_i x1), some (qm_i x2), some (qm_i r2)], [qm_i (h1.1 (a0 + 19) (r2).toNatClampNeg)], h1)) hg rfl ?_
        refine qm_Ret.sts 1 (f' := (78, [some (qm_r 0 12 a0), some (qm_i x1), some (qm_i x2), some (qm_i r2)], [qm_i (-1 : Int32), qm_i (h1.1 (a0 + 19) (r2).toNatClampNeg)], h1)) rfl ?_
        refine qm_Ret.eq (t := 126) (e := 81) rfl (fun hc => ?_) (fun hc => ?_)
        · rw [if_pos hc] at ho
          refine qm_Ret.sts 2 (f' := (45, [some (qm_r 0 12 a0), some (qm_i x1), some (qm_i (x2 + (1 : Int32))), some (qm_i r2)], [], h1)) rfl ?_
          exact ih ho
        · rw [if_neg hc] at ho
          refine qm_Ret.sts 5 (f' := (88, [some (qm_r 0 12 a0), some (qm_i x1), some (qm_i x2), some (qm_i r2)], [qm_i (x2 / (4 : Int32)), qm_r 1 64 (a0 + 19)], h1)) rfl ?_
          obtain ⟨hg, ho⟩ := qm_ifn ho
          refine qm_Ret.gn (f1 := (89, [some (qm_r 0 12 a0), some (qm_i x1), some (qm_i x2), some (qm_i r2)], [qm_i (h1.1 (a0 + 19) (x2 / (4 : Int32)).toNatClampNeg)], h1)) hg rfl ?_
          refine qm_Ret.sts 1 (f' := (90, [some (qm_r 0 12 a0), some (qm_i x1), some (qm_i x2), some (qm_i r2)], [qm_i (-1 : Int32), qm_i (h1.1 (a0 + 19) (x2 / (4 : Int32)).toNatClampNeg)], h1)) rfl ?_
          refine qm_Ret.eq (t := 126) (e := 93) rfl (fun hc => ?_) (fun hc => ?_)
          · rw [if_pos hc] at ho
            refine qm_Ret.sts 2 (f' := (45, [some (qm_r 0 12 a0), some (qm_i x1), some (qm_i (x2 + (1 : Int32))), some (qm_i r2)], [], h1)) rfl ?_
            exact ih ho
          · rw [if_neg hc] at ho
            refine qm_Ret.sts 5 (f' := (100, [some (qm_r 0 12 a0), some (qm_i x1), some (qm_i x2), some (qm_i r2)], [qm_i (x2 / (4 : Int32)), qm_r 1 64 (a0 + 19)], h1)) rfl ?_
            obtain ⟨hg, ho⟩ := qm_ifn ho
            refine qm_Ret.gn (f1 := (101, [some (qm_r 0 12 a0), some (qm_i x1), some (qm_i x2), some (qm_i r2)], [qm_i (h1.1 (a0 + 19) (x2 / (4 : Int32)).toNatClampNeg)], h1)) hg rfl ?_
            refine qm_Ret.sts 3 (f' := (106, [some (qm_r 0 12 a0), some (qm_i x1), some (qm_i x2), some (qm_i r2)], [qm_i r2, qm_r 1 64 (a0 + 19), qm_i (h1.1 (a0 + 19) (x2 / (4 : Int32)).toNatClampNeg)], h1)) rfl ?_
            obtain ⟨hg, ho⟩ := qm_ifn ho
            refine qm_Ret.gn (f1 := (107, [some (qm_r 0 12 a0), some (qm_i x1), some (qm_i x2), some (qm_i r2)], [qm_i (h1.1 (a0 + 19) (r2).toNatClampNeg), qm_i (h1.1 (a0 + 19) (x2 / (4 : Int32)).toNatClampNeg)], h1)) hg rfl ?_
            refine qm_Ret.ge (t := 126) (e := 110) rfl (fun hc => ?_) (fun hc => ?_)
            · rw [if_pos hc] at ho
              refine qm_Ret.sts 8 (f' := (122, [some (qm_r 0 12 a0), some (qm_i x1), some (qm_i x2), some (qm_i r2)], [qm_i (x2 / (4 : Int32)), qm_r 1 64 (a0 + 19), qm_i r2, qm_r 1 64 (a0 + 19)], h1)) rfl ?_
              obtain ⟨hg, ho⟩ := qm_ifn ho
              refine qm_Ret.gn (f1 := (123, [some (qm_r 0 12 a0), some (qm_i x1), some (qm_i x2), some (qm_i r2)], [qm_i (h1.1 (a0 + 19) (x2 / (4 : Int32)).toNatClampNeg), qm_i r2, qm_r 1 64 (a0 + 19)], h1)) hg rfl ?_
              obtain ⟨hg, ho⟩ := qm_ifn ho
              refine qm_Ret.gn (f1 := (124, [some (qm_r 0 12 a0), some (qm_i x1), some (qm_i x2), some (qm_i r2)], [], (qm_seti h1 (a0 + 19) (r2).toNatClampNeg (h1.1 (a0 + 19) (x2 / (4 : Int32)).toNatClampNeg)))) hg rfl ?_
              refine qm_Ret.lets (F := fun h3 => (124, [some (qm_r 0 12 a0), some (qm_i x1), some (qm_i x2), some (qm_i r2)], [], h3)) (G := qm_Gv) ho (fun h3 ho => ?_)
              refine qm_Ret.sts 4 (f' := (45, [some (qm_r 0 12 a0), some (qm_i (1 : Int32)), some (qm_i (x2 + (1 : Int32))), some (qm_i r2)], [], h3)) rfl ?_
              exact ih ho
            · rw [if_neg hc] at ho
              refine qm_Ret.sts 2 (f' := (45, [some (qm_r 0 12 a0), some (qm_i x1), some (qm_i (x2 + (1 : Int32))), some (qm_i r2)], [], h1)) rfl ?_
              exact ih ho
    · rw [if_neg hc] at ho
      refine qm_Ret.sts 1 (f' := (37, [some (qm_r 0 12 a0), some (qm_i x1), some (qm_i x2), d3], [], h)) rfl ?_
      exact H37 ho
set_option maxRecDepth 20000 in
set_option maxHeartbeats 2000000 in
theorem rX12_findHoles_37   : ∀ {fuel : Nat} {a0 : Nat} {x1 : Int32} {d2 : Option qm_V} {d3 : Option qm_V} {h : qm_H} {r : qm_H}, qX12_findHoles_37  fuel a0 x1 h = some r → qm_Ret mX12_findHoles (37, [some (qm_r 0 12 a0), some (qm_i x1), d2, d3], [], h) (qm_Gv r) := by
  intro fuel
  induction fuel with
  | zero => intros; rename_i ho; cases ho
  | succ n ih =>
    intro a0 x1 d2 d3 h r ho
    unfold qX12_findHoles_37 at ho
    refine qm_Ret.sts 1 (f' := (38, [some (qm_r 0 12 a0), some (qm_i x1), d2, d3], [qm_i x1], h)) rfl ?_
    refine qm_Ret.eq (t := 135) (e := 41) rfl (fun hc => ?_) (fun hc => ?_)
    · rw [if_pos hc] at ho
      cases ho
      exact qm_Ret.ret 1 rfl
    · rw [if_neg hc] at ho
      refine qm_Ret.sts 4 (f' := (45, [some (qm_r 0 12 a0), some (qm_i (0 : Int32)), some (qm_i (0 : Int32)), d3], [], h)) rfl ?_
      exact rX12_findHoles_45 (ih) ho
set_option maxRecDepth 20000 in
set_option maxHeartbeats 2000000 in
theorem rX12_findHoles_2   : ∀ {fuel : Nat} {a0 : Nat} {x1 : Int32} {h : qm_H} {r : qm_H}, qX12_findHoles_2  fuel a0 x1 h = some r → qm_Ret mX12_findHoles (2, [some (qm_r 0 12 a0), some (qm_i x1), none, none], [], h) (qm_Gv r) := by
  intro fuel
  induction fuel with
  | zero => intros; rename_i ho; cases ho
  | succ n ih =>
    intro a0 x1 h r ho
    unfold qX12_findHoles_2 at ho
    refine qm_Ret.sts 3 (f' := (7, [some (qm_r 0 12 a0), some (qm_i x1), none, none], [qm_i (h.1 a0 27), qm_i x1], h)) rfl ?_
    refine qm_Ret.ge (t := 35) (e := 10) rfl (fun hc => ?_) (fun hc => ?_)
    · rw [if_pos hc] at ho
      refine qm_Ret.sts 5 (f' := (17, [some (qm_r 0 12 a0), some (qm_i x1), none, none], [qm_i x1, qm_r 0 12 a0, qm_i x1, qm_r 1 64 (a0 + 19)], h)) rfl ?_
      obtain ⟨r2, h1, hr, ho⟩ := qm_b2e ho
      refine qm_Ret.call (X := wX12_isOpen [qm_r 0 12 a0, qm_i x1] h) (o1 := (some (qm_i r2), h1)) (qm_mp (G := qm_Gi) hr) rfl ?_
      show qm_Ret _ (20, [some (qm_r 0 12 a0), some (qm_i x1), none, none], [qm_i r2, qm_i x1, qm_r 1 64 (a0 + 19)], h1) _
      refine qm_Ret.eq (t := 27) (e := 23) rfl (fun hc => ?_) (fun hc => ?_)
      · rw [if_pos hc] at ho
        refine qm_Ret.sts 1 (f' := (28, [some (qm_r 0 12 a0), some (qm_i x1), none, none], [qm_i (-1 : Int32), qm_i x1, qm_r 1 64 (a0 + 19)], h1)) rfl ?_
        obtain ⟨hg, ho⟩ := qm_ifn ho
        refine qm_Ret.gn (f1 := (29, [some (qm_r 0 12 a0), some (qm_i x1), none, none], [], (qm_seti h1 (a0 + 19) (x1).toNatClampNeg (-1 : Int32)))) hg rfl ?_
        refine qm_Ret.lets (F := fun h3 => (29, [some (qm_r 0 12 a0), some (qm_i x1), none, none], [], h3)) (G := qm_Gv) ho (fun h3 ho => ?_)
        refine qm_Ret.sts 2 (f' := (2, [some (qm_r 0 12 a0), some (qm_i (x1 + (1 : Int32))), none, none], [], h3)) rfl ?_
        exact ih ho
      · rw [if_neg hc] at ho
        refine qm_Ret.sts 2 (f' := (28, [some (qm_r 0 12 a0), some (qm_i x1), none, none], [qm_i x1, qm_i x1, qm_r 1 64 (a0 + 19)], h1)) rfl ?_
        obtain ⟨hg, ho⟩ := qm_ifn ho
        refine qm_Ret.gn (f1 := (29, [some (qm_r 0 12 a0), some (qm_i x1), none, none], [], (qm_seti h1 (a0 + 19) (x1).toNatClampNeg x1))) hg rfl ?_
        refine qm_Ret.lets (F := fun h4 => (29, [some (qm_r 0 12 a0), some (qm_i x1), none, none], [], h4)) (G := qm_Gv) ho (fun h4 ho => ?_)
        refine qm_Ret.sts 2 (f' := (2, [some (qm_r 0 12 a0), some (qm_i (x1 + (1 : Int32))), none, none], [], h4)) rfl ?_
        exact ih ho
    · rw [if_neg hc] at ho
      refine qm_Ret.sts 2 (f' := (37, [some (qm_r 0 12 a0), some (qm_i (1 : Int32)), none, none], [], h)) rfl ?_
      exact rX12_findHoles_37 ho
set_option maxRecDepth 20000 in
set_option maxHeartbeats 2000000 in
theorem rX12_findHoles_0   {a0 : Nat} {h : qm_H} {r : qm_H} (ho : qX12_findHoles  a0 h = some r) : qm_Ret mX12_findHoles (0, [some (qm_r 0 12 a0), none, none, none], [], h) (qm_Gv r) := by
  unfold qX12_findHoles at ho
  refine qm_Ret.sts 2 (f' := (2, [some (qm_r 0 12 a0), some (qm_i (0 : Int32)), none, none], [], h)) rfl ?_
  exact rX12_findHoles_2 ho
theorem cX12_findHoles_ok : ∀ q ∈ ([(391, 0, 3, wX12_next), (288, 0, 2, wX12_isOpen)] : List (Nat × Nat × Nat × qm_C)), qm_CallOK RX12 2 42 q.2.1 q.1 q.2.2.1 q.2.2.2 := List.forall_mem_cons.mpr ⟨Or.inl ⟨yX12_next, cX12_next, 3, (some .int), 0, 0, _, sX12_next, ⟨by decide, by decide⟩, ⟨jX12_next, kRX12_391, uRX12⟩, ⟨by decide, by decide, rfl⟩, Or.inl ⟨rfl, rfl, iX12_next, recvX12_next⟩⟩, List.forall_mem_cons.mpr ⟨Or.inl ⟨yX12_isOpen, cX12_isOpen, 2, (some .boolean), 1, 21, _, sX12_isOpen, ⟨by decide, by decide⟩, ⟨jX12_isOpen, kRX12_288, uRX12⟩, ⟨by decide, by decide, rfl⟩, Or.inl ⟨rfl, rfl, iX12_isOpen, recvX12_isOpen⟩⟩, fun _ h => absurd h List.not_mem_nil⟩⟩
theorem sX12_findHoles : qm_Snd yX12_findHoles cX12_findHoles 4 none 2 42 wX12_findHoles := qm_met (fld := fun k => qm_lk k pfRX12) (con := fun k => qm_lk k pcRX12) (call := fun k => qm_lk k [(391, 0, 3, wX12_next), (288, 0, 2, wX12_isOpen)]) (tab := qm_tab aX12_findHoles) (plainFor_of_name (by decide)) (qm_fld_ok pfRX12_ok) (qm_con_ok pcRX12_ok) (fun idx kd n f hc => cX12_findHoles_ok (idx, kd, n, f) (qm_lk_mem hc)) (qm_tab_ok aX12_findHoles_ok) (fun vs h o hw => by
  unfold wX12_findHoles at hw
  split at hw
  · obtain ⟨r, hr, rfl⟩ := Option.map_eq_some_iff.mp hw
    exact ⟨Nat.le_of_ble_eq_true rfl, rX12_findHoles_0 (hr)⟩
  · cases hw)
theorem recvX12_findHoles : ∀ vs h o, wX12_findHoles vs h = some o → ∃ ci a rest, vs = qm_r 0 ci a :: rest ∧ qm_R ci = yX12_findHoles.cls := by
  intro vs h o hw
  unfold wX12_findHoles at hw
  split at hw
  · exact ⟨_, _, _, rfl, rfl⟩
  · cases hw
-- RX12 sizeOf(I)I
theorem jX12_sizeOf : Jvm.Cond.code yX12_sizeOf cX12_sizeOf 4 (some .int) ∈ qm_all := List.mem_filter.mpr ⟨by decide +kernel, rfl⟩
theorem iX12_sizeOf : Jvm.Cond.instanceMethod yX12_sizeOf ∈ qm_all ∧ Jvm.Cond.selects yX12_sizeOf.cls yX12_sizeOf yX12_sizeOf ∈ qm_all := ⟨List.mem_filter.mpr ⟨by decide +kernel, rfl⟩, List.mem_filter.mpr ⟨by decide +kernel, rfl⟩⟩
def wX12_sizeOf : qm_C := fun vs h => match vs with
  | [.inr (.inr (some (0, 12, p0))), .inl p1] => (qX12_sizeOf p0 p1 h).map qm_Gi
  | _ => none
def aX12_sizeOf : List (Option (Instr × Nat)) := [some (.iconst 0, 1), some (.istore_n 2, 1), some (.iconst 0, 1), some (.istore_n 3, 1), some (.iload_n 3, 1), some (.aload_n 0, 1), some (.getfield 279, 3), none, none, some (.if_icmp .ge 27, 3), none, none, some (.iload_n 2, 1), some (.aload_n 0, 1), some (.getfield 66, 3), none, none, some (.iload_n 3, 1), some (.iaload, 1), some (.iload_n 1, 1), some (.if_icmp .ne 7, 3), none, none, some (.iconst 1, 1), some (.goto 4, 3), none, none, some (.iconst 0, 1), some (.iadd, 1), some (.istore_n 2, 1), some (.iinc 3 1, 3), none, none, some (.goto (-29), 3), none, none, some (.iload_n 2, 1), some (.ireturn, 1)]
theorem aX12_sizeOf_ok : qm_tabok cX12_sizeOf aX12_sizeOf = true := by decide +kernel
def mX12_sizeOf : qm_M := ((some .int), (fun k => qm_lk k pfRX12), (fun k => qm_lk k pcRX12), (fun k => qm_lk k []), qm_tab aX12_sizeOf)
set_option maxRecDepth 20000 in
set_option maxHeartbeats 2000000 in
theorem rX12_sizeOf_4   : ∀ {fuel : Nat} {a0 : Nat} {x1 : Int32} {x2 : Int32} {x3 : Int32} {h : qm_H} {r : Int32 × qm_H}, qX12_sizeOf_4  fuel a0 x1 x2 x3 h = some r → qm_Ret mX12_sizeOf (4, [some (qm_r 0 12 a0), some (qm_i x1), some (qm_i x2), some (qm_i x3)], [], h) (qm_Gi r) := by
  intro fuel
  induction fuel with
  | zero => intros; rename_i ho; cases ho
  | succ n ih =>
    intro a0 x1 x2 x3 h r ho
    unfold qX12_sizeOf_4 at ho
    refine qm_Ret.sts 3 (f' := (9, [some (qm_r 0 12 a0), some (qm_i x1), some (qm_i x2), some (qm_i x3)], [qm_i (h.1 a0 27), qm_i x3], h)) rfl ?_
    refine qm_Ret.ge (t := 36) (e := 12) rfl (fun hc => ?_) (fun hc => ?_)
    · rw [if_pos hc] at ho
      refine qm_Ret.sts 4 (f' := (18, [some (qm_r 0 12 a0), some (qm_i x1), some (qm_i x2), some (qm_i x3)], [qm_i x3, qm_r 1 64 (a0 + 19), qm_i x2], h)) rfl ?_
      obtain ⟨hg, ho⟩ := qm_ifn ho
      refine qm_Ret.gn (f1 := (19, [some (qm_r 0 12 a0), some (qm_i x1), some (qm_i x2), some (qm_i x3)], [qm_i (h.1 (a0 + 19) (x3).toNatClampNeg), qm_i x2], h)) hg rfl ?_
      refine qm_Ret.sts 1 (f' := (20, [some (qm_r 0 12 a0), some (qm_i x1), some (qm_i x2), some (qm_i x3)], [qm_i x1, qm_i (h.1 (a0 + 19) (x3).toNatClampNeg), qm_i x2], h)) rfl ?_
      refine qm_Ret.ne (t := 27) (e := 23) rfl (fun hc => ?_) (fun hc => ?_)
      · rw [if_pos hc] at ho
        refine qm_Ret.sts 3 (f' := (29, [some (qm_r 0 12 a0), some (qm_i x1), some (qm_i x2), some (qm_i x3)], [qm_i (x2 + (1 : Int32))], h)) rfl ?_
        refine qm_Ret.lets (F := fun v2 => (29, [some (qm_r 0 12 a0), some (qm_i x1), some (qm_i x2), some (qm_i x3)], [qm_i v2], h)) (G := qm_Gi) ho (fun v2 ho => ?_)
        refine qm_Ret.sts 3 (f' := (4, [some (qm_r 0 12 a0), some (qm_i x1), some (qm_i v2), some (qm_i (x3 + (1 : Int32)))], [], h)) rfl ?_
        exact ih ho
      · rw [if_neg hc] at ho
        refine qm_Ret.sts 2 (f' := (29, [some (qm_r 0 12 a0), some (qm_i x1), some (qm_i x2), some (qm_i x3)], [qm_i (x2 + (0 : Int32))], h)) rfl ?_
        refine qm_Ret.lets (F := fun v1 => (29, [some (qm_r 0 12 a0), some (qm_i x1), some (qm_i x2), some (qm_i x3)], [qm_i v1], h)) (G := qm_Gi) ho (fun v1 ho => ?_)
        refine qm_Ret.sts 3 (f' := (4, [some (qm_r 0 12 a0), some (qm_i x1), some (qm_i v1), some (qm_i (x3 + (1 : Int32)))], [], h)) rfl ?_
        exact ih ho
    · rw [if_neg hc] at ho
      cases ho
      exact qm_Ret.ret 2 rfl
set_option maxRecDepth 20000 in
set_option maxHeartbeats 2000000 in
theorem rX12_sizeOf_0   {a0 : Nat} {x1 : Int32} {h : qm_H} {r : Int32 × qm_H} (ho : qX12_sizeOf  a0 x1 h = some r) : qm_Ret mX12_sizeOf (0, [some (qm_r 0 12 a0), some (qm_i x1), none, none], [], h) (qm_Gi r) := by
  unfold qX12_sizeOf at ho
  refine qm_Ret.sts 4 (f' := (4, [some (qm_r 0 12 a0), some (qm_i x1), some (qm_i (0 : Int32)), some (qm_i (0 : Int32))], [], h)) rfl ?_
  exact rX12_sizeOf_4 ho
theorem cX12_sizeOf_ok : ∀ q ∈ ([] : List (Nat × Nat × Nat × qm_C)), qm_CallOK RX12 0 0 q.2.1 q.1 q.2.2.1 q.2.2.2 := fun _ h => absurd h List.not_mem_nil
theorem sX12_sizeOf : qm_Snd yX12_sizeOf cX12_sizeOf 4 (some .int) 0 0 wX12_sizeOf := qm_met (fld := fun k => qm_lk k pfRX12) (con := fun k => qm_lk k pcRX12) (call := fun k => qm_lk k []) (tab := qm_tab aX12_sizeOf) (plainFor_of_name (by decide)) (qm_fld_ok pfRX12_ok) (qm_con_ok pcRX12_ok) (fun idx kd n f hc => cX12_sizeOf_ok (idx, kd, n, f) (qm_lk_mem hc)) (qm_tab_ok aX12_sizeOf_ok) (fun vs h o hw => by
  unfold wX12_sizeOf at hw
  split at hw
  · obtain ⟨r, hr, rfl⟩ := Option.map_eq_some_iff.mp hw
    exact ⟨Nat.le_of_ble_eq_true rfl, rX12_sizeOf_0 (hr)⟩
  · cases hw)
theorem recvX12_sizeOf : ∀ vs h o, wX12_sizeOf vs h = some o → ∃ ci a rest, vs = qm_r 0 ci a :: rest ∧ qm_R ci = yX12_sizeOf.cls := by
  intro vs h o hw
  unfold wX12_sizeOf at hw
  split at hw
  · exact ⟨_, _, _, rfl, rfl⟩
  · cases hw
-- RX12 largestGap()I
theorem jX12_largestGap : Jvm.Cond.code yX12_largestGap cX12_largestGap 4 (some .int) ∈ qm_all := List.mem_filter.mpr ⟨by decide +kernel, rfl⟩
theorem iX12_largestGap : Jvm.Cond.instanceMethod yX12_largestGap ∈ qm_all ∧ Jvm.Cond.selects yX12_largestGap.cls yX12_largestGap yX12_largestGap ∈ qm_all := ⟨List.mem_filter.mpr ⟨by decide +kernel, rfl⟩, List.mem_filter.mpr ⟨by decide +kernel, rfl⟩⟩
def wX12_largestGap : qm_C := fun vs h => match vs with
  | [.inr (.inr (some (0, 12, p0)))] => (qX12_largestGap p0 h).map qm_Gi
  | _ => none
def aX12_largestGap : List (Option (Instr × Nat)) := [some (.iconst 0, 1), some (.istore_n 1, 1), some (.iconst 1, 1), some (.istore_n 2, 1), some (.iload_n 2, 1), some (.aload_n 0, 1), some (.getfield 273, 3), none, none, some (.if_icmp .gt 47, 3), none, none, some (.iconst 1, 1), some (.istore_n 3, 1), some (.iload_n 3, 1), some (.aload_n 0, 1), some (.getfield 276, 3), none, none, some (.if_icmp .gt 31, 3), none, none, some (.aload_n 0, 1), some (.iload_n 2, 1), some (.iload_n 3, 1), some (.invokevirtual 313, 3), none, none, some (.iconst (-1), 1), some (.if_icmp .ne 7, 3), none, none, some (.iload_n 1, 1), some (.goto 10, 3), none, none, some (.iload_n 1, 1), some (.iload_n 2, 1), some (.iload_n 3, 1), some (.imul, 1), some (.invokestatic 161, 3), none, none, some (.istore_n 1, 1), some (.iinc 3 1, 3), none, none, some (.goto (-33), 3), none, none, some (.iinc 2 1, 3), none, none, some (.goto (-49), 3), none, none, some (.iload_n 1, 1), some (.ireturn, 1)]
theorem aX12_largestGap_ok : qm_tabok cX12_largestGap aX12_largestGap = true := by decide +kernel
def mX12_largestGap : qm_M := ((some .int), (fun k => qm_lk k pfRX12), (fun k => qm_lk k pcRX12), (fun k => qm_lk k [(313, 0, 3, wX12_slipsBy), (161, 2, 2, wX12_greater)]), qm_tab aX12_largestGap)
set_option maxRecDepth 20000 in
set_option maxHeartbeats 2000000 in
theorem rX12_largestGap_14 {K4 : Nat → Int32 → Int32 → qm_H → Option (Int32 × qm_H)} (H4 : ∀ {a0 : Nat} {x1 : Int32} {x2 : Int32} {d3 : Option qm_V} {h : qm_H} {r : Int32 × qm_H}, K4 a0 x1 x2 h = some r → qm_Ret mX12_largestGap (4, [some (qm_r 0 12 a0), some (qm_i x1), some (qm_i x2), d3], [], h) (qm_Gi r)) : ∀ {fuel : Nat} {a0 : Nat} {x1 : Int32} {x2 : Int32} {x3 : Int32} {h : qm_H} {r : Int32 × qm_H}, qX12_largestGap_14 K4 fuel a0 x1 x2 x3 h = some r → qm_Ret mX12_largestGap (14, [some (qm_r 0 12 a0), some (qm_i x1), some (qm_i x2), some (qm_i x3)], [], h) (qm_Gi r) := by
  intro fuel
  induction fuel with
  | zero => intros; rename_i ho; cases ho
  | succ n ih =>
    intro a0 x1 x2 x3 h r ho
    unfold qX12_largestGap_14 at ho
    refine qm_Ret.sts 3 (f' := (19, [some (qm_r 0 12 a0), some (qm_i x1), some (qm_i x2), some (qm_i x3)], [qm_i (h.1 a0 26), qm_i x3], h)) rfl ?_
    refine qm_Ret.gt (t := 50) (e := 22) rfl (fun hc => ?_) (fun hc => ?_)
    · rw [if_pos hc] at ho
      refine qm_Ret.sts 2 (f' := (4, [some (qm_r 0 12 a0), some (qm_i x1), some (qm_i (x2 + (1 : Int32))), some (qm_i x3)], [], h)) rfl ?_
      exact H4 ho
    · rw [if_neg hc] at ho
      refine qm_Ret.sts 3 (f' := (25, [some (qm_r 0 12 a0), some (qm_i x1), some (qm_i x2), some (qm_i x3)], [qm_i x3, qm_i x2, qm_r 0 12 a0], h)) rfl ?_
      obtain ⟨r2, h1, hr, ho⟩ := qm_b2e ho
      refine qm_Ret.call (X := wX12_slipsBy [qm_r 0 12 a0, qm_i x2, qm_i x3] h) (o1 := (some (qm_i r2), h1)) (qm_mp (G := qm_Gi) hr) rfl ?_
      show qm_Ret _ (28, [some (qm_r 0 12 a0), some (qm_i x1), some (qm_i x2), some (qm_i x3)], [qm_i r2], h1) _
      refine qm_Ret.sts 1 (f' := (29, [some (qm_r 0 12 a0), some (qm_i x1), some (qm_i x2), some (qm_i x3)], [qm_i (-1 : Int32), qm_i r2], h1)) rfl ?_
      refine qm_Ret.ne (t := 36) (e := 32) rfl (fun hc => ?_) (fun hc => ?_)
      · rw [if_pos hc] at ho
        refine qm_Ret.sts 5 (f' := (14, [some (qm_r 0 12 a0), some (qm_i x1), some (qm_i x2), some (qm_i (x3 + (1 : Int32)))], [], h1)) rfl ?_
        exact ih ho
      · rw [if_neg hc] at ho
        refine qm_Ret.sts 4 (f' := (40, [some (qm_r 0 12 a0), some (qm_i x1), some (qm_i x2), some (qm_i x3)], [qm_i (x2 * x3), qm_i x1], h1)) rfl ?_
        obtain ⟨r4, h3, hr, ho⟩ := qm_b2e ho
        refine qm_Ret.call (X := wX12_greater [qm_i x1, qm_i (x2 * x3)] h1) (o1 := (some (qm_i r4), h3)) (qm_mp (G := qm_Gi) hr) rfl ?_
        show qm_Ret _ (43, [some (qm_r 0 12 a0), some (qm_i x1), some (qm_i x2), some (qm_i x3)], [qm_i r4], h3) _
        refine qm_Ret.sts 3 (f' := (14, [some (qm_r 0 12 a0), some (qm_i r4), some (qm_i x2), some (qm_i (x3 + (1 : Int32)))], [], h3)) rfl ?_
        exact ih ho
set_option maxRecDepth 20000 in
set_option maxHeartbeats 2000000 in
theorem rX12_largestGap_4   : ∀ {fuel : Nat} {a0 : Nat} {x1 : Int32} {x2 : Int32} {d3 : Option qm_V} {h : qm_H} {r : Int32 × qm_H}, qX12_largestGap_4  fuel a0 x1 x2 h = some r → qm_Ret mX12_largestGap (4, [some (qm_r 0 12 a0), some (qm_i x1), some (qm_i x2), d3], [], h) (qm_Gi r) := by
  intro fuel
  induction fuel with
  | zero => intros; rename_i ho; cases ho
  | succ n ih =>
    intro a0 x1 x2 d3 h r ho
    unfold qX12_largestGap_4 at ho
    refine qm_Ret.sts 3 (f' := (9, [some (qm_r 0 12 a0), some (qm_i x1), some (qm_i x2), d3], [qm_i (h.1 a0 25), qm_i x2], h)) rfl ?_
    refine qm_Ret.gt (t := 56) (e := 12) rfl (fun hc => ?_) (fun hc => ?_)
    · rw [if_pos hc] at ho
      cases ho
      exact qm_Ret.ret 2 rfl
    · rw [if_neg hc] at ho
      refine qm_Ret.sts 2 (f' := (14, [some (qm_r 0 12 a0), some (qm_i x1), some (qm_i x2), some (qm_i (1 : Int32))], [], h)) rfl ?_
      exact rX12_largestGap_14 (ih) ho
set_option maxRecDepth 20000 in
set_option maxHeartbeats 2000000 in
theorem rX12_largestGap_0   {a0 : Nat} {h : qm_H} {r : Int32 × qm_H} (ho : qX12_largestGap  a0 h = some r) : qm_Ret mX12_largestGap (0, [some (qm_r 0 12 a0), none, none, none], [], h) (qm_Gi r) := by
  unfold qX12_largestGap at ho
  refine qm_Ret.sts 4 (f' := (4, [some (qm_r 0 12 a0), some (qm_i (0 : Int32)), some (qm_i (1 : Int32)), none], [], h)) rfl ?_
  exact rX12_largestGap_4 ho
theorem cX12_largestGap_ok : ∀ q ∈ ([(313, 0, 3, wX12_slipsBy), (161, 2, 2, wX12_greater)] : List (Nat × Nat × Nat × qm_C)), qm_CallOK RX12 4 95 q.2.1 q.1 q.2.2.1 q.2.2.2 := List.forall_mem_cons.mpr ⟨Or.inl ⟨yX12_slipsBy, cX12_slipsBy, 4, (some .int), 3, 72, _, sX12_slipsBy, ⟨by decide, by decide⟩, ⟨jX12_slipsBy, kRX12_313, uRX12⟩, ⟨by decide, by decide, rfl⟩, Or.inl ⟨rfl, rfl, iX12_slipsBy, recvX12_slipsBy⟩⟩, List.forall_mem_cons.mpr ⟨Or.inl ⟨yX12_greater, cX12_greater, 2, (some .int), 0, 0, _, sX12_greater, ⟨by decide, by decide⟩, ⟨jX12_greater, kRX12_161, uRX12⟩, ⟨by decide, by decide, rfl⟩, Or.inr (Or.inl ⟨rfl, rfl, iX12_greater⟩)⟩, fun _ h => absurd h List.not_mem_nil⟩⟩
theorem sX12_largestGap : qm_Snd yX12_largestGap cX12_largestGap 4 (some .int) 4 95 wX12_largestGap := qm_met (fld := fun k => qm_lk k pfRX12) (con := fun k => qm_lk k pcRX12) (call := fun k => qm_lk k [(313, 0, 3, wX12_slipsBy), (161, 2, 2, wX12_greater)]) (tab := qm_tab aX12_largestGap) (plainFor_of_name (by decide)) (qm_fld_ok pfRX12_ok) (qm_con_ok pcRX12_ok) (fun idx kd n f hc => cX12_largestGap_ok (idx, kd, n, f) (qm_lk_mem hc)) (qm_tab_ok aX12_largestGap_ok) (fun vs h o hw => by
  unfold wX12_largestGap at hw
  split at hw
  · obtain ⟨r, hr, rfl⟩ := Option.map_eq_some_iff.mp hw
    exact ⟨Nat.le_of_ble_eq_true rfl, rX12_largestGap_0 (hr)⟩
  · cases hw)
theorem recvX12_largestGap : ∀ vs h o, wX12_largestGap vs h = some o → ∃ ci a rest, vs = qm_r 0 ci a :: rest ∧ qm_R ci = yX12_largestGap.cls := by
  intro vs h o hw
  unfold wX12_largestGap at hw
  split at hw
  · exact ⟨_, _, _, rfl, rfl⟩
  · cases hw
-- RX12 holes(II)I
theorem jX12_holes : Jvm.Cond.code yX12_holes cX12_holes 6 (some .int) ∈ qm_all := List.mem_filter.mpr ⟨by decide +kernel, rfl⟩
theorem iX12_holes : Jvm.Cond.instanceMethod yX12_holes ∈ qm_all ∧ Jvm.Cond.selects yX12_holes.cls yX12_holes yX12_holes ∈ qm_all := ⟨List.mem_filter.mpr ⟨by decide +kernel, rfl⟩, List.mem_filter.mpr ⟨by decide +kernel, rfl⟩⟩
def wX12_holes : qm_C := fun vs h => match vs with
  | [.inr (.inr (some (0, 12, p0))), .inl p1, .inl p2] => (qX12_holes p0 p1 p2 h).map qm_Gi
  | _ => none
def aX12_holes : List (Option (Instr × Nat)) := [some (.aload_n 0, 1), some (.iconst 0, 1), some (.putfield 88, 3), none, none, some (.aload_n 0, 1), some (.iload_n 1, 1), some (.invokevirtual 301, 3), none, none, some (.ifCond .eq 12, 3), none, none, some (.iload_n 2, 1), some (.iconst 0, 1), some (.iconst 2, 1), some (.invokestatic 100, 3), none, none, some (.ifCond .ne 5, 3), none, none, some (.iconst (-1), 1), some (.ireturn, 1), some (.iload_n 2, 1), some (.iconst 2, 1), some (.if_icmp .ne 8, 3), none, none, some (.aload_n 0, 1), some (.invokevirtual 403, 3), none, none, some (.ireturn, 1), some (.aload_n 0, 1), some (.invokevirtual 406, 3), none, none, some (.iconst 0, 1), some (.istore_n 3, 1), some (.iconst 0, 1), some (.istore 4, 2), none, some (.iconst 0, 1), some (.istore 5, 2), none, some (.iload 5, 2), none, some (.aload_n 0, 1), some (.getfield 279, 3), none, none, some (.if_icmp .ge 59, 3), none, none, some (.iload_n 3, 1), some (.aload_n 0, 1), some (.getfield 66, 3), none, none, some (.iload 5, 2), none, some (.iaload, 1), some (.iload 5, 2), none, some (.if_icmp .ne 7, 3), none, none, some (.iconst 1, 1), some (.goto 4, 3), none, none, some (.iconst 0, 1), some (.iadd, 1), some (.istore_n 3, 1), some (.aload_n 0, 1), some (.getfield 66, 3), none, none, some (.iload 5, 2), none, some (.iaload, 1), some (.iload 5, 2), none, some (.if_icmp .ne 17, 3), none, none, some (.iload 4, 2), none, some (.aload_n 0, 1), some (.iload 5, 2), none, some (.invokevirtual 409, 3), none, none, some (.invokestatic 161, 3), none, none, some (.goto 5, 3), none, none, some (.iload 4, 2), none, some (.istore 4, 2), none, some (.iinc 5 1, 3), none, none, some (.goto (-62), 3), none, none, some (.iload_n 2, 1), some (.ifCond .ne 7, 3), none, none, some (.iload_n 3, 1), some (.goto 5, 3), none, none, some (.iload 4, 2), none, some (.ireturn, 1)]
theorem aX12_holes_ok : qm_tabok cX12_holes aX12_holes = true := by decide +kernel
def mX12_holes : qm_M := ((some .int), (fun k => qm_lk k pfRX12), (fun k => qm_lk k pcRX12), (fun k => qm_lk k [(409, 0, 2, wX12_sizeOf), (161, 2, 2, wX12_greater), (301, 0, 2, wX12_hand), (100, 2, 3, wX12_in), (406, 0, 1, wX12_findHoles), (403, 0, 1, wX12_largestGap)]), qm_tab aX12_holes)
set_option maxRecDepth 20000 in
set_option maxHeartbeats 2000000 in
theorem rX12_holes_73 {K46 : Nat → Int32 → Int32 → Int32 → Int32 → qm_H → Option (Int32 × qm_H)} (H46 : ∀ {a0 : Nat} {x2 : Int32} {x3 : Int32} {x4 : Int32} {x5 : Int32} {xd1 : Int32} {h : qm_H} {r : Int32 × qm_H}, K46 a0 x2 x3 x4 x5 h = some r → qm_Ret mX12_holes (46, [some (qm_r 0 12 a0), some (qm_i xd1), some (qm_i x2), some (qm_i x3), some (qm_i x4), some (qm_i x5)], [], h) (qm_Gi r)) {a0 : Nat} {x2 : Int32} {x4 : Int32} {x5 : Int32} {xs0 : Int32} {xs1 : Int32} {xd1 : Int32} {xd3 : Int32} {h : qm_H} {r : Int32 × qm_H} (ho : qX12_holes_73 K46 a0 x2 x4 x5 xs0 xs1 h = some r) : qm_Ret mX12_holes (73, [some (qm_r 0 12 a0), some (qm_i xd1), some (qm_i x2), some (qm_i xd3), some (qm_i x4), some (qm_i x5)], [qm_i xs0, qm_i xs1], h) (qm_Gi r) := by
  unfold qX12_holes_73 at ho
  refine qm_Ret.sts 5 (f' := (81, [some (qm_r 0 12 a0), some (qm_i xd1), some (qm_i x2), some (qm_i (xs1 + xs0)), some (qm_i x4), some (qm_i x5)], [qm_i x5, qm_r 1 64 (a0 + 19)], h)) rfl ?_
  obtain ⟨hg, ho⟩ := qm_ifn ho
  refine qm_Ret.gn (f1 := (82, [some (qm_r 0 12 a0), some (qm_i xd1), some (qm_i x2), some (qm_i (xs1 + xs0)), some (qm_i x4), some (qm_i x5)], [qm_i (h.1 (a0 + 19) (x5).toNatClampNeg)], h)) hg rfl ?_
  refine qm_Ret.sts 1 (f' := (84, [some (qm_r 0 12 a0), some (qm_i xd1), some (qm_i x2), some (qm_i (xs1 + xs0)), some (qm_i x4), some (qm_i x5)], [qm_i x5, qm_i (h.1 (a0 + 19) (x5).toNatClampNeg)], h)) rfl ?_
  refine qm_Ret.ne (t := 101) (e := 87) rfl (fun hc => ?_) (fun hc => ?_)
  · rw [if_pos hc] at ho
    refine qm_Ret.sts 3 (f' := (92, [some (qm_r 0 12 a0), some (qm_i xd1), some (qm_i x2), some (qm_i (xs1 + xs0)), some (qm_i x4), some (qm_i x5)], [qm_i x5, qm_r 0 12 a0, qm_i x4], h)) rfl ?_
    obtain ⟨r2, h1, hr, ho⟩ := qm_b2e ho
    refine qm_Ret.call (X := wX12_sizeOf [qm_r 0 12 a0, qm_i x5] h) (o1 := (some (qm_i r2), h1)) (qm_mp (G := qm_Gi) hr) rfl ?_
    show qm_Ret _ (95, [some (qm_r 0 12 a0), some (qm_i xd1), some (qm_i x2), some (qm_i (xs1 + xs0)), some (qm_i x4), some (qm_i x5)], [qm_i r2, qm_i x4], h1) _
    obtain ⟨r4, h3, hr, ho⟩ := qm_b2e ho
    refine qm_Ret.call (X := wX12_greater [qm_i x4, qm_i r2] h1) (o1 := (some (qm_i r4), h3)) (qm_mp (G := qm_Gi) hr) rfl ?_
    show qm_Ret _ (98, [some (qm_r 0 12 a0), some (qm_i xd1), some (qm_i x2), some (qm_i (xs1 + xs0)), some (qm_i x4), some (qm_i x5)], [qm_i r4], h3) _
    refine qm_Ret.sts 4 (f' := (46, [some (qm_r 0 12 a0), some (qm_i xd1), some (qm_i x2), some (qm_i (xs1 + xs0)), some (qm_i r4), some (qm_i (x5 + (1 : Int32)))], [], h3)) rfl ?_
    exact H46 ho
  · rw [if_neg hc] at ho
    refine qm_Ret.sts 4 (f' := (46, [some (qm_r 0 12 a0), some (qm_i xd1), some (qm_i x2), some (qm_i (xs1 + xs0)), some (qm_i x4), some (qm_i (x5 + (1 : Int32)))], [], h)) rfl ?_
    exact H46 ho
set_option maxRecDepth 20000 in
set_option maxHeartbeats 2000000 in
theorem rX12_holes_46   : ∀ {fuel : Nat} {a0 : Nat} {x2 : Int32} {x3 : Int32} {x4 : Int32} {x5 : Int32} {xd1 : Int32} {h : qm_H} {r : Int32 × qm_H}, qX12_holes_46  fuel a0 x2 x3 x4 x5 h = some r → qm_Ret mX12_holes (46, [some (qm_r 0 12 a0), some (qm_i xd1), some (qm_i x2), some (qm_i x3), some (qm_i x4), some (qm_i x5)], [], h) (qm_Gi r) := by
  intro fuel
  induction fuel with
  | zero => intros; rename_i ho; cases ho
  | succ n ih =>
    intro a0 x2 x3 x4 x5 xd1 h r ho
    unfold qX12_holes_46 at ho
    refine qm_Ret.sts 3 (f' := (52, [some (qm_r 0 12 a0), some (qm_i xd1), some (qm_i x2), some (qm_i x3), some (qm_i x4), some (qm_i x5)], [qm_i (h.1 a0 27), qm_i x5], h)) rfl ?_
    refine qm_Ret.ge (t := 111) (e := 55) rfl (fun hc => ?_) (fun hc => ?_)
    · rw [if_pos hc] at ho
      refine qm_Ret.sts 4 (f' := (62, [some (qm_r 0 12 a0), some (qm_i xd1), some (qm_i x2), some (qm_i x3), some (qm_i x4), some (qm_i x5)], [qm_i x5, qm_r 1 64 (a0 + 19), qm_i x3], h)) rfl ?_
      obtain ⟨hg, ho⟩ := qm_ifn ho
      refine qm_Ret.gn (f1 := (63, [some (qm_r 0 12 a0), some (qm_i xd1), some (qm_i x2), some (qm_i x3), some (qm_i x4), some (qm_i x5)], [qm_i (h.1 (a0 + 19) (x5).toNatClampNeg), qm_i x3], h)) hg rfl ?_
      refine qm_Ret.sts 1 (f' := (65, [some (qm_r 0 12 a0), some (qm_i xd1), some (qm_i x2), some (qm_i x3), some (qm_i x4), some (qm_i x5)], [qm_i x5, qm_i (h.1 (a0 + 19) (x5).toNatClampNeg), qm_i x3], h)) rfl ?_
      refine qm_Ret.ne (t := 72) (e := 68) rfl (fun hc => ?_) (fun hc => ?_)
      · rw [if_pos hc] at ho
        refine qm_Ret.sts 2 (f' := (73, [some (qm_r 0 12 a0), some (qm_i xd1), some (qm_i x2), some (qm_i x3), some (qm_i x4), some (qm_i x5)], [qm_i (1 : Int32), qm_i x3], h)) rfl ?_
        exact rX12_holes_73 (ih) ho
      · rw [if_neg hc] at ho
        refine qm_Ret.sts 1 (f' := (73, [some (qm_r 0 12 a0), some (qm_i xd1), some (qm_i x2), some (qm_i x3), some (qm_i x4), some (qm_i x5)], [qm_i (0 : Int32), qm_i x3], h)) rfl ?_
        exact rX12_holes_73 (ih) ho
    · rw [if_neg hc] at ho
      refine qm_Ret.sts 1 (f' := (112, [some (qm_r 0 12 a0), some (qm_i xd1), some (qm_i x2), some (qm_i x3), some (qm_i x4), some (qm_i x5)], [qm_i x2], h)) rfl ?_
      refine qm_Ret.ne (t := 119) (e := 115) rfl (fun hc => ?_) (fun hc => ?_)
      · rw [if_pos hc] at ho
        cases ho
        exact qm_Ret.ret 3 rfl
      · rw [if_neg hc] at ho
        cases ho
        exact qm_Ret.ret 2 rfl
set_option maxRecDepth 20000 in
set_option maxHeartbeats 2000000 in
theorem rX12_holes_0   {a0 : Nat} {x1 : Int32} {x2 : Int32} {h : qm_H} {r : Int32 × qm_H} (ho : qX12_holes  a0 x1 x2 h = some r) : qm_Ret mX12_holes (0, [some (qm_r 0 12 a0), some (qm_i x1), some (qm_i x2), none, none, none], [], h) (qm_Gi r) := by
  unfold qX12_holes at ho
  refine qm_Ret.sts 3 (f' := (5, [some (qm_r 0 12 a0), some (qm_i x1), some (qm_i x2), none, none, none], [], (qm_seti h a0 0 (0 : Int32)))) rfl ?_
  refine qm_Ret.lets (F := fun h1 => (5, [some (qm_r 0 12 a0), some (qm_i x1), some (qm_i x2), none, none, none], [], h1)) (G := qm_Gi) ho (fun h1 ho => ?_)
  refine qm_Ret.sts 2 (f' := (7, [some (qm_r 0 12 a0), some (qm_i x1), some (qm_i x2), none, none, none], [qm_i x1, qm_r 0 12 a0], h1)) rfl ?_
  obtain ⟨r3, h2, hr, ho⟩ := qm_b2e ho
  refine qm_Ret.call (X := wX12_hand [qm_r 0 12 a0, qm_i x1] h1) (o1 := (some (qm_i r3), h2)) (qm_mp (G := qm_Gi) hr) rfl ?_
  show qm_Ret _ (10, [some (qm_r 0 12 a0), some (qm_i x1), some (qm_i x2), none, none, none], [qm_i r3], h2) _
  refine qm_Ret.eq (t := 22) (e := 13) rfl (fun hc => ?_) (fun hc => ?_)
  · rw [if_pos hc] at ho
    cases ho
    exact qm_Ret.ret 2 rfl
  · rw [if_neg hc] at ho
    refine qm_Ret.sts 3 (f' := (16, [some (qm_r 0 12 a0), some (qm_i x1), some (qm_i x2), none, none, none], [qm_i (2 : Int32), qm_i (0 : Int32), qm_i x2], h2)) rfl ?_
    obtain ⟨r5, h4, hr, ho⟩ := qm_b2e ho
    refine qm_Ret.call (X := wX12_in [qm_i x2, qm_i (0 : Int32), qm_i (2 : Int32)] h2) (o1 := (some (qm_i r5), h4)) (qm_mp (G := qm_Gi) hr) rfl ?_
    show qm_Ret _ (19, [some (qm_r 0 12 a0), some (qm_i x1), some (qm_i x2), none, none, none], [qm_i r5], h4) _
    refine qm_Ret.ne (t := 24) (e := 22) rfl (fun hc => ?_) (fun hc => ?_)
    · rw [if_pos hc] at ho
      cases ho
      exact qm_Ret.ret 2 rfl
    · rw [if_neg hc] at ho
      refine qm_Ret.sts 2 (f' := (26, [some (qm_r 0 12 a0), some (qm_i x1), some (qm_i x2), none, none, none], [qm_i (2 : Int32), qm_i x2], h4)) rfl ?_
      refine qm_Ret.ne (t := 34) (e := 29) rfl (fun hc => ?_) (fun hc => ?_)
      · rw [if_pos hc] at ho
        refine qm_Ret.sts 1 (f' := (30, [some (qm_r 0 12 a0), some (qm_i x1), some (qm_i x2), none, none, none], [qm_r 0 12 a0], h4)) rfl ?_
        obtain ⟨r8, h7, hr, ho⟩ := qm_b2e ho
        refine qm_Ret.call (X := wX12_largestGap [qm_r 0 12 a0] h4) (o1 := (some (qm_i r8), h7)) (qm_mp (G := qm_Gi) hr) rfl ?_
        show qm_Ret _ (33, [some (qm_r 0 12 a0), some (qm_i x1), some (qm_i x2), none, none, none], [qm_i r8], h7) _
        cases ho
        exact qm_Ret.ret 1 rfl
      · rw [if_neg hc] at ho
        refine qm_Ret.sts 1 (f' := (35, [some (qm_r 0 12 a0), some (qm_i x1), some (qm_i x2), none, none, none], [qm_r 0 12 a0], h4)) rfl ?_
        obtain ⟨h6, hr, ho⟩ := qm_bd ho
        refine qm_Ret.call (X := wX12_findHoles [qm_r 0 12 a0] h4) (o1 := (none, h6)) (qm_mp (G := qm_Gv) hr) rfl ?_
        show qm_Ret _ (38, [some (qm_r 0 12 a0), some (qm_i x1), some (qm_i x2), none, none, none], [], h6) _
        refine qm_Ret.sts 6 (f' := (46, [some (qm_r 0 12 a0), some (qm_i x1), some (qm_i x2), some (qm_i (0 : Int32)), some (qm_i (0 : Int32)), some (qm_i (0 : Int32))], [], h6)) rfl ?_
        exact rX12_holes_46 ho
theorem cX12_holes_ok : ∀ q ∈ ([(409, 0, 2, wX12_sizeOf), (161, 2, 2, wX12_greater), (301, 0, 2, wX12_hand), (100, 2, 3, wX12_in), (406, 0, 1, wX12_findHoles), (403, 0, 1, wX12_largestGap)] : List (Nat × Nat × Nat × qm_C)), qm_CallOK RX12 5 118 q.2.1 q.1 q.2.2.1 q.2.2.2 := List.forall_mem_cons.mpr ⟨Or.inl ⟨yX12_sizeOf, cX12_sizeOf, 4, (some .int), 0, 0, _, sX12_sizeOf, ⟨by decide, by decide⟩, ⟨jX12_sizeOf, kRX12_409, uRX12⟩, ⟨by decide, by decide, rfl⟩, Or.inl ⟨rfl, rfl, iX12_sizeOf, recvX12_sizeOf⟩⟩, List.forall_mem_cons.mpr ⟨Or.inl ⟨yX12_greater, cX12_greater, 2, (some .int), 0, 0, _, sX12_greater, ⟨by decide, by decide⟩, ⟨jX12_greater, kRX12_161, uRX12⟩, ⟨by decide, by decide, rfl⟩, Or.inr (Or.inl ⟨rfl, rfl, iX12_greater⟩)⟩, List.forall_mem_cons.mpr ⟨Or.inl ⟨yX12_hand, cX12_hand, 3, (some .boolean), 2, 44, _, sX12_hand, ⟨by decide, by decide⟩, ⟨jX12_hand, kRX12_301, uRX12⟩, ⟨by decide, by decide, rfl⟩, Or.inl ⟨rfl, rfl, iX12_hand, recvX12_hand⟩⟩, List.forall_mem_cons.mpr ⟨Or.inl ⟨yX12_in, cX12_in, 3, (some .boolean), 0, 0, _, sX12_in, ⟨by decide, by decide⟩, ⟨jX12_in, kRX12_100, uRX12⟩, ⟨by decide, by decide, rfl⟩, Or.inr (Or.inl ⟨rfl, rfl, iX12_in⟩)⟩, List.forall_mem_cons.mpr ⟨Or.inl ⟨yX12_findHoles, cX12_findHoles, 4, none, 2, 42, _, sX12_findHoles, ⟨by decide, by decide⟩, ⟨jX12_findHoles, kRX12_406, uRX12⟩, ⟨by decide, by decide, rfl⟩, Or.inl ⟨rfl, rfl, iX12_findHoles, recvX12_findHoles⟩⟩, List.forall_mem_cons.mpr ⟨Or.inl ⟨yX12_largestGap, cX12_largestGap, 4, (some .int), 4, 95, _, sX12_largestGap, ⟨by decide, by decide⟩, ⟨jX12_largestGap, kRX12_403, uRX12⟩, ⟨by decide, by decide, rfl⟩, Or.inl ⟨rfl, rfl, iX12_largestGap, recvX12_largestGap⟩⟩, fun _ h => absurd h List.not_mem_nil⟩⟩⟩⟩⟩⟩
theorem sX12_holes : qm_Snd yX12_holes cX12_holes 6 (some .int) 5 118 wX12_holes := qm_met (fld := fun k => qm_lk k pfRX12) (con := fun k => qm_lk k pcRX12) (call := fun k => qm_lk k [(409, 0, 2, wX12_sizeOf), (161, 2, 2, wX12_greater), (301, 0, 2, wX12_hand), (100, 2, 3, wX12_in), (406, 0, 1, wX12_findHoles), (403, 0, 1, wX12_largestGap)]) (tab := qm_tab aX12_holes) (plainFor_of_name (by decide)) (qm_fld_ok pfRX12_ok) (qm_con_ok pcRX12_ok) (fun idx kd n f hc => cX12_holes_ok (idx, kd, n, f) (qm_lk_mem hc)) (qm_tab_ok aX12_holes_ok) (fun vs h o hw => by
  unfold wX12_holes at hw
  split at hw
  · obtain ⟨r, hr, rfl⟩ := Option.map_eq_some_iff.mp hw
    exact ⟨Nat.le_of_ble_eq_true rfl, rX12_holes_0 (hr)⟩
  · cases hw)
theorem recvX12_holes : ∀ vs h o, wX12_holes vs h = some o → ∃ ci a rest, vs = qm_r 0 ci a :: rest ∧ qm_R ci = yX12_holes.cls := by
  intro vs h o hw
  unfold wX12_holes at hw
  split at hw
  · exact ⟨_, _, _, rfl, rfl⟩
  · cases hw
-- RX12 lastsBy(I)J
theorem jX12_lastsBy : Jvm.Cond.code yX12_lastsBy cX12_lastsBy 5 (some .long) ∈ qm_all := List.mem_filter.mpr ⟨by decide +kernel, rfl⟩
theorem iX12_lastsBy : Jvm.Cond.instanceMethod yX12_lastsBy ∈ qm_all ∧ Jvm.Cond.selects yX12_lastsBy.cls yX12_lastsBy yX12_lastsBy ∈ qm_all := ⟨List.mem_filter.mpr ⟨by decide +kernel, rfl⟩, List.mem_filter.mpr ⟨by decide +kernel, rfl⟩⟩
def wX12_lastsBy : qm_C := fun vs h => match vs with
  | [.inr (.inr (some (0, 12, p0))), .inl p1] => (qX12_lastsBy p0 p1 h).map qm_Gl
  | _ => none
def aX12_lastsBy : List (Option (Instr × Nat)) := [some (.lconst 1, 1), some (.lstore_n 2, 1), some (.iconst 0, 1), some (.istore 4, 2), none, some (.iload 4, 2), none, some (.aload_n 0, 1), some (.getfield 276, 3), none, none, some (.if_icmp .ge 38, 3), none, none, some (.lload_n 2, 1), some (.iload_n 1, 1), some (.iload 4, 2), none, some (.invokestatic 92, 3), none, none, some (.ifCond .eq 9, 3), none, none, some (.ldc2_w 412, 3), none, none, some (.goto 14, 3), none, none, some (.bipush 10, 2), none, some (.aload_n 0, 1), some (.getfield 47, 3), none, none, some (.iload 4, 2), none, some (.iaload, 1), some (.isub, 1), some (.i2l, 1), some (.lmul, 1), some (.lstore_n 2, 1), some (.iinc 4 1, 3), none, none, some (.goto (-41), 3), none, none, some (.lload_n 2, 1), some (.lreturn, 1)]
theorem aX12_lastsBy_ok : qm_tabok cX12_lastsBy aX12_lastsBy = true := by decide +kernel
def mX12_lastsBy : qm_M := ((some .long), (fun k => qm_lk k pfRX12), (fun k => qm_lk k pcRX12), (fun k => qm_lk k [(92, 2, 2, wX12_has)]), qm_tab aX12_lastsBy)
set_option maxRecDepth 20000 in
set_option maxHeartbeats 2000000 in
theorem rX12_lastsBy_5   : ∀ {fuel : Nat} {a0 : Nat} {x1 : Int32} {l2 : Int64} {x4 : Int32} {h : qm_H} {r : Int64 × qm_H}, qX12_lastsBy_5  fuel a0 x1 l2 x4 h = some r → qm_Ret mX12_lastsBy (5, [some (qm_r 0 12 a0), some (qm_i x1), some (qm_l l2), none, some (qm_i x4)], [], h) (qm_Gl r) := by
  intro fuel
  induction fuel with
  | zero => intros; rename_i ho; cases ho
  | succ n ih =>
    intro a0 x1 l2 x4 h r ho
    unfold qX12_lastsBy_5 at ho
    refine qm_Ret.sts 3 (f' := (11, [some (qm_r 0 12 a0), some (qm_i x1), some (qm_l l2), none, some (qm_i x4)], [qm_i (h.1 a0 26), qm_i x4], h)) rfl ?_
    refine qm_Ret.ge (t := 49) (e := 14) rfl (fun hc => ?_) (fun hc => ?_)
    · rw [if_pos hc] at ho
      refine qm_Ret.sts 3 (f' := (18, [some (qm_r 0 12 a0), some (qm_i x1), some (qm_l l2), none, some (qm_i x4)], [qm_i x4, qm_i x1, qm_l l2], h)) rfl ?_
      obtain ⟨r2, h1, hr, ho⟩ := qm_b2e ho
      refine qm_Ret.call (X := wX12_has [qm_i x1, qm_i x4] h) (o1 := (some (qm_i r2), h1)) (qm_mp (G := qm_Gi) hr) rfl ?_
      show qm_Ret _ (21, [some (qm_r 0 12 a0), some (qm_i x1), some (qm_l l2), none, some (qm_i x4)], [qm_i r2, qm_l l2], h1) _
      refine qm_Ret.eq (t := 30) (e := 24) rfl (fun hc => ?_) (fun hc => ?_)
      · rw [if_pos hc] at ho
        refine qm_Ret.sts 4 (f' := (38, [some (qm_r 0 12 a0), some (qm_i x1), some (qm_l l2), none, some (qm_i x4)], [qm_i x4, qm_r 1 16 (a0 + 13), qm_i (10 : Int32), qm_l l2], h1)) rfl ?_
        obtain ⟨hg, ho⟩ := qm_ifn ho
        refine qm_Ret.gn (f1 := (39, [some (qm_r 0 12 a0), some (qm_i x1), some (qm_l l2), none, some (qm_i x4)], [qm_i (h1.1 (a0 + 13) (x4).toNatClampNeg), qm_i (10 : Int32), qm_l l2], h1)) hg rfl ?_
        refine qm_Ret.sts 3 (f' := (42, [some (qm_r 0 12 a0), some (qm_i x1), some (qm_l l2), none, some (qm_i x4)], [qm_l (l2 * (((10 : Int32) - (h1.1 (a0 + 13) (x4).toNatClampNeg))).toInt64)], h1)) rfl ?_
        refine qm_Ret.lets (F := fun v3 => (42, [some (qm_r 0 12 a0), some (qm_i x1), some (qm_l l2), none, some (qm_i x4)], [qm_l v3], h1)) (G := qm_Gl) ho (fun v3 ho => ?_)
        refine qm_Ret.sts 3 (f' := (5, [some (qm_r 0 12 a0), some (qm_i x1), some (qm_l v3), none, some (qm_i (x4 + (1 : Int32)))], [], h1)) rfl ?_
        exact ih ho
      · rw [if_neg hc] at ho
        refine qm_Ret.sts 3 (f' := (42, [some (qm_r 0 12 a0), some (qm_i x1), some (qm_l l2), none, some (qm_i x4)], [qm_l (l2 * (10 : Int64))], h1)) rfl ?_
        refine qm_Ret.lets (F := fun v4 => (42, [some (qm_r 0 12 a0), some (qm_i x1), some (qm_l l2), none, some (qm_i x4)], [qm_l v4], h1)) (G := qm_Gl) ho (fun v4 ho => ?_)
        refine qm_Ret.sts 3 (f' := (5, [some (qm_r 0 12 a0), some (qm_i x1), some (qm_l v4), none, some (qm_i (x4 + (1 : Int32)))], [], h1)) rfl ?_
        exact ih ho
    · rw [if_neg hc] at ho
      cases ho
      exact qm_Ret.ret 2 rfl
set_option maxRecDepth 20000 in
set_option maxHeartbeats 2000000 in
theorem rX12_lastsBy_0   {a0 : Nat} {x1 : Int32} {h : qm_H} {r : Int64 × qm_H} (ho : qX12_lastsBy  a0 x1 h = some r) : qm_Ret mX12_lastsBy (0, [some (qm_r 0 12 a0), some (qm_i x1), none, none, none], [], h) (qm_Gl r) := by
  unfold qX12_lastsBy at ho
  refine qm_Ret.sts 4 (f' := (5, [some (qm_r 0 12 a0), some (qm_i x1), some (qm_l (1 : Int64)), none, some (qm_i (0 : Int32))], [], h)) rfl ?_
  exact rX12_lastsBy_5 ho
theorem cX12_lastsBy_ok : ∀ q ∈ ([(92, 2, 2, wX12_has)] : List (Nat × Nat × Nat × qm_C)), qm_CallOK RX12 1 21 q.2.1 q.1 q.2.2.1 q.2.2.2 := List.forall_mem_cons.mpr ⟨Or.inl ⟨yX12_has, cX12_has, 2, (some .boolean), 0, 0, _, sX12_has, ⟨by decide, by decide⟩, ⟨jX12_has, kRX12_92, uRX12⟩, ⟨by decide, by decide, rfl⟩, Or.inr (Or.inl ⟨rfl, rfl, iX12_has⟩)⟩, fun _ h => absurd h List.not_mem_nil⟩
theorem sX12_lastsBy : qm_Snd yX12_lastsBy cX12_lastsBy 5 (some .long) 1 21 wX12_lastsBy := qm_met (fld := fun k => qm_lk k pfRX12) (con := fun k => qm_lk k pcRX12) (call := fun k => qm_lk k [(92, 2, 2, wX12_has)]) (tab := qm_tab aX12_lastsBy) (plainFor_of_name (by decide)) (qm_fld_ok pfRX12_ok) (qm_con_ok pcRX12_ok) (fun idx kd n f hc => cX12_lastsBy_ok (idx, kd, n, f) (qm_lk_mem hc)) (qm_tab_ok aX12_lastsBy_ok) (fun vs h o hw => by
  unfold wX12_lastsBy at hw
  split at hw
  · obtain ⟨r, hr, rfl⟩ := Option.map_eq_some_iff.mp hw
    exact ⟨Nat.le_of_ble_eq_true rfl, rX12_lastsBy_0 (hr)⟩
  · cases hw)
theorem recvX12_lastsBy : ∀ vs h o, wX12_lastsBy vs h = some o → ∃ ci a rest, vs = qm_r 0 ci a :: rest ∧ qm_R ci = yX12_lastsBy.cls := by
  intro vs h o hw
  unfold wX12_lastsBy at hw
  split at hw
  · exact ⟨_, _, _, rfl, rfl⟩
  · cases hw
