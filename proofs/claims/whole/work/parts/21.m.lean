-- RX9 take(LWillowLaw$Told;)V
theorem jX9_take : Jvm.Cond.code yX9_take cX9_take 3 none ∈ qm_all := List.mem_filter.mpr ⟨by decide +kernel, rfl⟩
theorem iX9_take : Jvm.Cond.instanceMethod yX9_take ∈ qm_all ∧ Jvm.Cond.selects yX9_take.cls yX9_take yX9_take ∈ qm_all := ⟨List.mem_filter.mpr ⟨by decide +kernel, rfl⟩, List.mem_filter.mpr ⟨by decide +kernel, rfl⟩⟩
def wX9_take : qm_C := fun vs h => match vs with
  | [.inr (.inr (some (0, 9, p0))), .inr (.inr (some (0, 9, p1)))] => (qX9_take p0 p1 h).map qm_Gv
  | _ => none
def aX9_take : List (Option (Instr × Nat)) := [some (.aload_n 1, 1), some (.getfield 9, 3), none, none, some (.iconst 0, 1), some (.aload_n 0, 1), some (.getfield 9, 3), none, none, some (.iconst 0, 1), some (.sipush 600, 3), none, none, some (.invokestatic 85, 3), none, none, some (.aload_n 1, 1), some (.getfield 15, 3), none, none, some (.iconst 0, 1), some (.aload_n 0, 1), some (.getfield 15, 3), none, none, some (.iconst 0, 1), some (.iconst 4, 1), some (.invokestatic 85, 3), none, none, some (.aload_n 0, 1), some (.aload_n 1, 1), some (.getfield 51, 3), none, none, some (.putfield 51, 3), none, none, some (.aload_n 0, 1), some (.aload_n 1, 1), some (.getfield 91, 3), none, none, some (.putfield 91, 3), none, none, some (.aload_n 0, 1), some (.aload_n 1, 1), some (.getfield 43, 3), none, none, some (.putfield 43, 3), none, none, some (.iconst 0, 1), some (.istore_n 2, 1), some (.iload_n 2, 1), some (.iconst 2, 1), some (.if_icmp .ge 69, 3), none, none, some (.aload_n 0, 1), some (.getfield 21, 3), none, none, some (.iload_n 2, 1), some (.aaload, 1), some (.aload_n 1, 1), some (.getfield 21, 3), none, none, some (.iload_n 2, 1), some (.aaload, 1), some (.invokevirtual 60, 3), none, none, some (.aload_n 0, 1), some (.getfield 27, 3), none, none, some (.iload_n 2, 1), some (.aaload, 1), some (.aload_n 1, 1), some (.getfield 27, 3), none, none, some (.iload_n 2, 1), some (.aaload, 1), some (.invokevirtual 68, 3), none, none, some (.aload_n 0, 1), some (.getfield 33, 3), none, none, some (.iload_n 2, 1), some (.aaload, 1), some (.aload_n 1, 1), some (.getfield 33, 3), none, none, some (.iload_n 2, 1), some (.aaload, 1), some (.invokevirtual 75, 3), none, none, some (.aload_n 0, 1), some (.getfield 39, 3), none, none, some (.iload_n 2, 1), some (.aaload, 1), some (.aload_n 1, 1), some (.getfield 39, 3), none, none, some (.iload_n 2, 1), some (.aaload, 1), some (.invokevirtual 82, 3), none, none, some (.iinc 2 1, 3), none, none, some (.goto (-68), 3), none, none, some (.return_, 1)]
theorem aX9_take_ok : qm_tabok cX9_take aX9_take = true := by decide +kernel
def mX9_take : qm_M := (none, (fun k => qm_lk k pfRX9), (fun k => qm_lk k pcRX9), (fun k => qm_lk k [(60, 0, 2, wX0_take), (68, 0, 2, wX10_take), (75, 0, 2, wX2_take), (82, 0, 2, wX1_take), (85, 2, 5, qm_cpy)]), qm_tab aX9_take)
set_option maxRecDepth 20000 in
set_option maxHeartbeats 2000000 in
theorem rX9_take_56   : ∀ {fuel : Nat} {a0 : Nat} {a1 : Nat} {x2 : Int32} {h : qm_H} {r : qm_H}, qX9_take_56  fuel a0 a1 x2 h = some r → qm_Ret mX9_take (56, [some (qm_r 0 9 a0), some (qm_r 0 9 a1), some (qm_i x2)], [], h) (qm_Gv r) := by
  intro fuel
  induction fuel with
  | zero => intros; rename_i ho; cases ho
  | succ n ih =>
    intro a0 a1 x2 h r ho
    unfold qX9_take_56 at ho
    refine qm_Ret.sts 2 (f' := (58, [some (qm_r 0 9 a0), some (qm_r 0 9 a1), some (qm_i x2)], [qm_i (2 : Int32), qm_i x2], h)) rfl ?_
    refine qm_Ret.ge (t := 127) (e := 61) rfl (fun hc => ?_) (fun hc => ?_)
    · rw [if_pos hc] at ho
      refine qm_Ret.sts 3 (f' := (66, [some (qm_r 0 9 a0), some (qm_r 0 9 a1), some (qm_i x2)], [qm_i x2, qm_r 5 2 (a0 + 3)], h)) rfl ?_
      obtain ⟨hg, ho⟩ := qm_ifn ho
      refine qm_Ret.gn (f1 := (67, [some (qm_r 0 9 a0), some (qm_r 0 9 a1), some (qm_i x2)], [qm_r 0 0 ((a0 + 3) + 4 + 11 * (x2).toNatClampNeg)], h)) hg rfl ?_
      refine qm_Ret.sts 3 (f' := (72, [some (qm_r 0 9 a0), some (qm_r 0 9 a1), some (qm_i x2)], [qm_i x2, qm_r 5 2 (a1 + 3), qm_r 0 0 ((a0 + 3) + 4 + 11 * (x2).toNatClampNeg)], h)) rfl ?_
      obtain ⟨hg, ho⟩ := qm_ifn ho
      refine qm_Ret.gn (f1 := (73, [some (qm_r 0 9 a0), some (qm_r 0 9 a1), some (qm_i x2)], [qm_r 0 0 ((a1 + 3) + 4 + 11 * (x2).toNatClampNeg), qm_r 0 0 ((a0 + 3) + 4 + 11 * (x2).toNatClampNeg)], h)) hg rfl ?_
      obtain ⟨h1, hr, ho⟩ := qm_bd ho
      refine qm_Ret.call (X := wX0_take [qm_r 0 0 ((a0 + 3) + 4 + 11 * (x2).toNatClampNeg), qm_r 0 0 ((a1 + 3) + 4 + 11 * (x2).toNatClampNeg)] h) (o1 := (none, h1)) (qm_mp (G := qm_Gv) hr) rfl ?_
      show qm_Ret _ (76, [some (qm_r 0 9 a0), some (qm_r 0 9 a1), some (qm_i x2)], [], h1) _
      refine qm_Ret.sts 3 (f' := (81, [some (qm_r 0 9 a0), some (qm_r 0 9 a1), some (qm_i x2)], [qm_i x2, qm_r 9 2 (a0 + 4)], h1)) rfl ?_
      obtain ⟨hg, ho⟩ := qm_ifn ho
      refine qm_Ret.gn (f1 := (82, [some (qm_r 0 9 a0), some (qm_r 0 9 a1), some (qm_i x2)], [qm_r 0 10 ((a0 + 4) + 7 + 11 * (x2).toNatClampNeg)], h1)) hg rfl ?_
      refine qm_Ret.sts 3 (f' := (87, [some (qm_r 0 9 a0), some (qm_r 0 9 a1), some (qm_i x2)], [qm_i x2, qm_r 9 2 (a1 + 4), qm_r 0 10 ((a0 + 4) + 7 + 11 * (x2).toNatClampNeg)], h1)) rfl ?_
      obtain ⟨hg, ho⟩ := qm_ifn ho
      refine qm_Ret.gn (f1 := (88, [some (qm_r 0 9 a0), some (qm_r 0 9 a1), some (qm_i x2)], [qm_r 0 10 ((a1 + 4) + 7 + 11 * (x2).toNatClampNeg), qm_r 0 10 ((a0 + 4) + 7 + 11 * (x2).toNatClampNeg)], h1)) hg rfl ?_
      obtain ⟨h2, hr, ho⟩ := qm_bd ho
      refine qm_Ret.call (X := wX10_take [qm_r 0 10 ((a0 + 4) + 7 + 11 * (x2).toNatClampNeg), qm_r 0 10 ((a1 + 4) + 7 + 11 * (x2).toNatClampNeg)] h1) (o1 := (none, h2)) (qm_mp (G := qm_Gv) hr) rfl ?_
      show qm_Ret _ (91, [some (qm_r 0 9 a0), some (qm_r 0 9 a1), some (qm_i x2)], [], h2) _
      refine qm_Ret.sts 3 (f' := (96, [some (qm_r 0 9 a0), some (qm_r 0 9 a1), some (qm_i x2)], [qm_i x2, qm_r 7 2 (a0 + 5)], h2)) rfl ?_
      obtain ⟨hg, ho⟩ := qm_ifn ho
      refine qm_Ret.gn (f1 := (97, [some (qm_r 0 9 a0), some (qm_r 0 9 a1), some (qm_i x2)], [qm_r 0 2 ((a0 + 5) + 8 + 11 * (x2).toNatClampNeg)], h2)) hg rfl ?_
      refine qm_Ret.sts 3 (f' := (102, [some (qm_r 0 9 a0), some (qm_r 0 9 a1), some (qm_i x2)], [qm_i x2, qm_r 7 2 (a1 + 5), qm_r 0 2 ((a0 + 5) + 8 + 11 * (x2).toNatClampNeg)], h2)) rfl ?_
      obtain ⟨hg, ho⟩ := qm_ifn ho
      refine qm_Ret.gn (f1 := (103, [some (qm_r 0 9 a0), some (qm_r 0 9 a1), some (qm_i x2)], [qm_r 0 2 ((a1 + 5) + 8 + 11 * (x2).toNatClampNeg), qm_r 0 2 ((a0 + 5) + 8 + 11 * (x2).toNatClampNeg)], h2)) hg rfl ?_
      obtain ⟨h3, hr, ho⟩ := qm_bd ho
      refine qm_Ret.call (X := wX2_take [qm_r 0 2 ((a0 + 5) + 8 + 11 * (x2).toNatClampNeg), qm_r 0 2 ((a1 + 5) + 8 + 11 * (x2).toNatClampNeg)] h2) (o1 := (none, h3)) (qm_mp (G := qm_Gv) hr) rfl ?_
      show qm_Ret _ (106, [some (qm_r 0 9 a0), some (qm_r 0 9 a1), some (qm_i x2)], [], h3) _
      refine qm_Ret.sts 3 (f' := (111, [some (qm_r 0 9 a0), some (qm_r 0 9 a1), some (qm_i x2)], [qm_i x2, qm_r 6 2 (a0 + 6)], h3)) rfl ?_
      obtain ⟨hg, ho⟩ := qm_ifn ho
      refine qm_Ret.gn (f1 := (112, [some (qm_r 0 9 a0), some (qm_r 0 9 a1), some (qm_i x2)], [qm_r 0 1 ((a0 + 6) + 10 + 11 * (x2).toNatClampNeg)], h3)) hg rfl ?_
      refine qm_Ret.sts 3 (f' := (117, [some (qm_r 0 9 a0), some (qm_r 0 9 a1), some (qm_i x2)], [qm_i x2, qm_r 6 2 (a1 + 6), qm_r 0 1 ((a0 + 6) + 10 + 11 * (x2).toNatClampNeg)], h3)) rfl ?_
      obtain ⟨hg, ho⟩ := qm_ifn ho
      refine qm_Ret.gn (f1 := (118, [some (qm_r 0 9 a0), some (qm_r 0 9 a1), some (qm_i x2)], [qm_r 0 1 ((a1 + 6) + 10 + 11 * (x2).toNatClampNeg), qm_r 0 1 ((a0 + 6) + 10 + 11 * (x2).toNatClampNeg)], h3)) hg rfl ?_
      obtain ⟨h4, hr, ho⟩ := qm_bd ho
      refine qm_Ret.call (X := wX1_take [qm_r 0 1 ((a0 + 6) + 10 + 11 * (x2).toNatClampNeg), qm_r 0 1 ((a1 + 6) + 10 + 11 * (x2).toNatClampNeg)] h3) (o1 := (none, h4)) (qm_mp (G := qm_Gv) hr) rfl ?_
      show qm_Ret _ (121, [some (qm_r 0 9 a0), some (qm_r 0 9 a1), some (qm_i x2)], [], h4) _
      refine qm_Ret.sts 2 (f' := (56, [some (qm_r 0 9 a0), some (qm_r 0 9 a1), some (qm_i (x2 + (1 : Int32)))], [], h4)) rfl ?_
      exact ih ho
    · rw [if_neg hc] at ho
      cases ho
      exact qm_Ret.ret 1 rfl
set_option maxRecDepth 20000 in
set_option maxHeartbeats 2000000 in
theorem rX9_take_0   {a0 : Nat} {a1 : Nat} {h : qm_H} {r : qm_H} (ho : qX9_take  a0 a1 h = some r) : qm_Ret mX9_take (0, [some (qm_r 0 9 a0), some (qm_r 0 9 a1), none], [], h) (qm_Gv r) := by
  unfold qX9_take at ho
  refine qm_Ret.sts 7 (f' := (13, [some (qm_r 0 9 a0), some (qm_r 0 9 a1), none], [qm_i (600 : Int32), qm_i (0 : Int32), qm_r 2 600 (a0 + 1), qm_i (0 : Int32), qm_r 2 600 (a1 + 1)], h)) rfl ?_
  obtain ⟨h1, hr, ho⟩ := qm_bd ho
  refine qm_Ret.call (X := qm_cpy [qm_r 2 600 (a1 + 1), qm_i (0 : Int32), qm_r 2 600 (a0 + 1), qm_i (0 : Int32), qm_i (600 : Int32)] h) (o1 := (none, h1)) (qm_cpy_ok hr) rfl ?_
  show qm_Ret _ (16, [some (qm_r 0 9 a0), some (qm_r 0 9 a1), none], [], h1) _
  refine qm_Ret.sts 7 (f' := (27, [some (qm_r 0 9 a0), some (qm_r 0 9 a1), none], [qm_i (4 : Int32), qm_i (0 : Int32), qm_r 1 4 (a0 + 2), qm_i (0 : Int32), qm_r 1 4 (a1 + 2)], h1)) rfl ?_
  obtain ⟨h2, hr, ho⟩ := qm_bd ho
  refine qm_Ret.call (X := qm_cpy [qm_r 1 4 (a1 + 2), qm_i (0 : Int32), qm_r 1 4 (a0 + 2), qm_i (0 : Int32), qm_i (4 : Int32)] h1) (o1 := (none, h2)) (qm_cpy_ok hr) rfl ?_
  show qm_Ret _ (30, [some (qm_r 0 9 a0), some (qm_r 0 9 a1), none], [], h2) _
  refine qm_Ret.sts 4 (f' := (38, [some (qm_r 0 9 a0), some (qm_r 0 9 a1), none], [], (qm_seti h2 a0 6 (h2.1 a1 6)))) rfl ?_
  refine qm_Ret.lets (F := fun h3 => (38, [some (qm_r 0 9 a0), some (qm_r 0 9 a1), none], [], h3)) (G := qm_Gv) ho (fun h3 ho => ?_)
  refine qm_Ret.sts 4 (f' := (46, [some (qm_r 0 9 a0), some (qm_r 0 9 a1), none], [], (qm_seti h3 a0 7 (h3.1 a1 7)))) rfl ?_
  refine qm_Ret.lets (F := fun h4 => (46, [some (qm_r 0 9 a0), some (qm_r 0 9 a1), none], [], h4)) (G := qm_Gv) ho (fun h4 ho => ?_)
  refine qm_Ret.sts 4 (f' := (54, [some (qm_r 0 9 a0), some (qm_r 0 9 a1), none], [], (qm_seti h4 a0 8 (h4.1 a1 8)))) rfl ?_
  refine qm_Ret.lets (F := fun h5 => (54, [some (qm_r 0 9 a0), some (qm_r 0 9 a1), none], [], h5)) (G := qm_Gv) ho (fun h5 ho => ?_)
  refine qm_Ret.sts 2 (f' := (56, [some (qm_r 0 9 a0), some (qm_r 0 9 a1), some (qm_i (0 : Int32))], [], h5)) rfl ?_
  exact rX9_take_56 ho
theorem cX9_take_ok : ∀ q ∈ ([(60, 0, 2, wX0_take), (68, 0, 2, wX10_take), (75, 0, 2, wX2_take), (82, 0, 2, wX1_take), (85, 2, 5, qm_cpy)] : List (Nat × Nat × Nat × qm_C)), qm_CallOK RX9 2 81 q.2.1 q.1 q.2.2.1 q.2.2.2 := List.forall_mem_cons.mpr ⟨Or.inl ⟨yX0_take, cX0_take, 2, none, 1, 60, _, sX0_take, ⟨by decide, by decide⟩, ⟨jX0_take, kRX9_60, uRX0⟩, ⟨by decide, by decide, rfl⟩, Or.inl ⟨rfl, rfl, iX0_take, recvX0_take⟩⟩, List.forall_mem_cons.mpr ⟨Or.inl ⟨yX10_take, cX10_take, 2, none, 1, 60, _, sX10_take, ⟨by decide, by decide⟩, ⟨jX10_take, kRX9_68, uRX10⟩, ⟨by decide, by decide, rfl⟩, Or.inl ⟨rfl, rfl, iX10_take, recvX10_take⟩⟩, List.forall_mem_cons.mpr ⟨Or.inl ⟨yX2_take, cX2_take, 2, none, 1, 60, _, sX2_take, ⟨by decide, by decide⟩, ⟨jX2_take, kRX9_75, uRX2⟩, ⟨by decide, by decide, rfl⟩, Or.inl ⟨rfl, rfl, iX2_take, recvX2_take⟩⟩, List.forall_mem_cons.mpr ⟨Or.inl ⟨yX1_take, cX1_take, 2, none, 1, 60, _, sX1_take, ⟨by decide, by decide⟩, ⟨jX1_take, kRX9_82, uRX1⟩, ⟨by decide, by decide, rfl⟩, Or.inl ⟨rfl, rfl, iX1_take, recvX1_take⟩⟩, List.forall_mem_cons.mpr ⟨Or.inr ⟨rfl, rfl, rfl, by decide, by decide, kRX9_85⟩, fun _ h => absurd h List.not_mem_nil⟩⟩⟩⟩⟩
theorem sX9_take : qm_Snd yX9_take cX9_take 3 none 2 81 wX9_take := qm_met (fld := fun k => qm_lk k pfRX9) (con := fun k => qm_lk k pcRX9) (call := fun k => qm_lk k [(60, 0, 2, wX0_take), (68, 0, 2, wX10_take), (75, 0, 2, wX2_take), (82, 0, 2, wX1_take), (85, 2, 5, qm_cpy)]) (tab := qm_tab aX9_take) (plainFor_of_name (by decide)) (qm_fld_ok pfRX9_ok) (qm_con_ok pcRX9_ok) (fun idx kd n f hc => cX9_take_ok (idx, kd, n, f) (qm_lk_mem hc)) (qm_tab_ok aX9_take_ok) (fun vs h o hw => by
  unfold wX9_take at hw
  split at hw
  · obtain ⟨r, hr, rfl⟩ := Option.map_eq_some_iff.mp hw
    exact ⟨Nat.le_of_ble_eq_true rfl, rX9_take_0 (hr)⟩
  · cases hw)
theorem recvX9_take : ∀ vs h o, wX9_take vs h = some o → ∃ ci a rest, vs = qm_r 0 ci a :: rest ∧ qm_R ci = yX9_take.cls := by
  intro vs h o hw
  unfold wX9_take at hw
  split at hw
  · exact ⟨_, _, _, rfl, rfl⟩
  · cases hw
-- RX11 feed(IIIII)I
theorem jX11_feed : Jvm.Cond.code yX11_feed cX11_feed 6 (some .int) ∈ qm_all := List.mem_filter.mpr ⟨by decide +kernel, rfl⟩
theorem iX11_feed : Jvm.Cond.instanceMethod yX11_feed ∈ qm_all ∧ Jvm.Cond.selects yX11_feed.cls yX11_feed yX11_feed ∈ qm_all := ⟨List.mem_filter.mpr ⟨by decide +kernel, rfl⟩, List.mem_filter.mpr ⟨by decide +kernel, rfl⟩⟩
def wX11_feed : qm_C := fun vs h => match vs with
  | [.inr (.inr (some (0, 11, p0))), .inl p1, .inl p2, .inl p3, .inl p4, .inl p5] => (qX11_feed p0 p1 p2 p3 p4 p5 h).map qm_Gi
  | _ => none
def aX11_feed : List (Option (Instr × Nat)) := [some (.aload_n 0, 1), some (.getfield 10, 3), none, none, some (.getfield 61, 3), none, none, some (.sipush 580, 3), none, none, some (.if_icmp .le 5, 3), none, none, some (.iconst (-1), 1), some (.ireturn, 1), some (.aload_n 0, 1), some (.getfield 10, 3), none, none, some (.iload_n 1, 1), some (.invokevirtual 65, 3), none, none, some (.aload_n 0, 1), some (.getfield 10, 3), none, none, some (.iload_n 2, 1), some (.invokevirtual 65, 3), none, none, some (.aload_n 0, 1), some (.getfield 10, 3), none, none, some (.iload_n 3, 1), some (.invokevirtual 65, 3), none, none, some (.aload_n 0, 1), some (.getfield 10, 3), none, none, some (.iload 4, 2), none, some (.invokevirtual 65, 3), none, none, some (.aload_n 0, 1), some (.getfield 10, 3), none, none, some (.iload 5, 2), none, some (.invokevirtual 65, 3), none, none, some (.aload_n 0, 1), some (.getfield 10, 3), none, none, some (.getfield 61, 3), none, none, some (.ireturn, 1)]
theorem aX11_feed_ok : qm_tabok cX11_feed aX11_feed = true := by decide +kernel
def mX11_feed : qm_M := ((some .int), (fun k => qm_lk k pfRX11), (fun k => qm_lk k pcRX11), (fun k => qm_lk k [(65, 0, 2, wX9_put)]), qm_tab aX11_feed)
set_option maxRecDepth 20000 in
set_option maxHeartbeats 2000000 in
theorem rX11_feed_0   {a0 : Nat} {x1 : Int32} {x2 : Int32} {x3 : Int32} {x4 : Int32} {x5 : Int32} {h : qm_H} {r : Int32 × qm_H} (ho : qX11_feed  a0 x1 x2 x3 x4 x5 h = some r) : qm_Ret mX11_feed (0, [some (qm_r 0 11 a0), some (qm_i x1), some (qm_i x2), some (qm_i x3), some (qm_i x4), some (qm_i x5)], [], h) (qm_Gi r) := by
  unfold qX11_feed at ho
  refine qm_Ret.sts 4 (f' := (10, [some (qm_r 0 11 a0), some (qm_i x1), some (qm_i x2), some (qm_i x3), some (qm_i x4), some (qm_i x5)], [qm_i (580 : Int32), qm_i (h.1 (a0 + 1) 6)], h)) rfl ?_
  refine qm_Ret.le (t := 15) (e := 13) rfl (fun hc => ?_) (fun hc => ?_)
  · rw [if_pos hc] at ho
    cases ho
    exact qm_Ret.ret 2 rfl
  · rw [if_neg hc] at ho
    refine qm_Ret.sts 3 (f' := (20, [some (qm_r 0 11 a0), some (qm_i x1), some (qm_i x2), some (qm_i x3), some (qm_i x4), some (qm_i x5)], [qm_i x1, qm_r 0 9 (a0 + 1)], h)) rfl ?_
    obtain ⟨h1, hr, ho⟩ := qm_bd ho
    refine qm_Ret.call (X := wX9_put [qm_r 0 9 (a0 + 1), qm_i x1] h) (o1 := (none, h1)) (qm_mp (G := qm_Gv) hr) rfl ?_
    show qm_Ret _ (23, [some (qm_r 0 11 a0), some (qm_i x1), some (qm_i x2), some (qm_i x3), some (qm_i x4), some (qm_i x5)], [], h1) _
    refine qm_Ret.sts 3 (f' := (28, [some (qm_r 0 11 a0), some (qm_i x1), some (qm_i x2), some (qm_i x3), some (qm_i x4), some (qm_i x5)], [qm_i x2, qm_r 0 9 (a0 + 1)], h1)) rfl ?_
    obtain ⟨h2, hr, ho⟩ := qm_bd ho
    refine qm_Ret.call (X := wX9_put [qm_r 0 9 (a0 + 1), qm_i x2] h1) (o1 := (none, h2)) (qm_mp (G := qm_Gv) hr) rfl ?_
    show qm_Ret _ (31, [some (qm_r 0 11 a0), some (qm_i x1), some (qm_i x2), some (qm_i x3), some (qm_i x4), some (qm_i x5)], [], h2) _
    refine qm_Ret.sts 3 (f' := (36, [some (qm_r 0 11 a0), some (qm_i x1), some (qm_i x2), some (qm_i x3), some (qm_i x4), some (qm_i x5)], [qm_i x3, qm_r 0 9 (a0 + 1)], h2)) rfl ?_
    obtain ⟨h3, hr, ho⟩ := qm_bd ho
    refine qm_Ret.call (X := wX9_put [qm_r 0 9 (a0 + 1), qm_i x3] h2) (o1 := (none, h3)) (qm_mp (G := qm_Gv) hr) rfl ?_
    show qm_Ret _ (39, [some (qm_r 0 11 a0), some (qm_i x1), some (qm_i x2), some (qm_i x3), some (qm_i x4), some (qm_i x5)], [], h3) _
    refine qm_Ret.sts 3 (f' := (45, [some (qm_r 0 11 a0), some (qm_i x1), some (qm_i x2), some (qm_i x3), some (qm_i x4), some (qm_i x5)], [qm_i x4, qm_r 0 9 (a0 + 1)], h3)) rfl ?_
    obtain ⟨h4, hr, ho⟩ := qm_bd ho
    refine qm_Ret.call (X := wX9_put [qm_r 0 9 (a0 + 1), qm_i x4] h3) (o1 := (none, h4)) (qm_mp (G := qm_Gv) hr) rfl ?_
    show qm_Ret _ (48, [some (qm_r 0 11 a0), some (qm_i x1), some (qm_i x2), some (qm_i x3), some (qm_i x4), some (qm_i x5)], [], h4) _
    refine qm_Ret.sts 3 (f' := (54, [some (qm_r 0 11 a0), some (qm_i x1), some (qm_i x2), some (qm_i x3), some (qm_i x4), some (qm_i x5)], [qm_i x5, qm_r 0 9 (a0 + 1)], h4)) rfl ?_
    obtain ⟨h5, hr, ho⟩ := qm_bd ho
    refine qm_Ret.call (X := wX9_put [qm_r 0 9 (a0 + 1), qm_i x5] h4) (o1 := (none, h5)) (qm_mp (G := qm_Gv) hr) rfl ?_
    show qm_Ret _ (57, [some (qm_r 0 11 a0), some (qm_i x1), some (qm_i x2), some (qm_i x3), some (qm_i x4), some (qm_i x5)], [], h5) _
    cases ho
    exact qm_Ret.ret 4 rfl
theorem cX11_feed_ok : ∀ q ∈ ([(65, 0, 2, wX9_put)] : List (Nat × Nat × Nat × qm_C)), qm_CallOK RX11 1 22 q.2.1 q.1 q.2.2.1 q.2.2.2 := List.forall_mem_cons.mpr ⟨Or.inl ⟨yX9_put, cX9_put, 3, none, 0, 0, _, sX9_put, ⟨by decide, by decide⟩, ⟨jX9_put, kRX11_65, uRX9⟩, ⟨by decide, by decide, rfl⟩, Or.inl ⟨rfl, rfl, iX9_put, recvX9_put⟩⟩, fun _ h => absurd h List.not_mem_nil⟩
theorem sX11_feed : qm_Snd yX11_feed cX11_feed 6 (some .int) 1 22 wX11_feed := qm_met (fld := fun k => qm_lk k pfRX11) (con := fun k => qm_lk k pcRX11) (call := fun k => qm_lk k [(65, 0, 2, wX9_put)]) (tab := qm_tab aX11_feed) (plainFor_of_name (by decide)) (qm_fld_ok pfRX11_ok) (qm_con_ok pcRX11_ok) (fun idx kd n f hc => cX11_feed_ok (idx, kd, n, f) (qm_lk_mem hc)) (qm_tab_ok aX11_feed_ok) (fun vs h o hw => by
  unfold wX11_feed at hw
  split at hw
  · obtain ⟨r, hr, rfl⟩ := Option.map_eq_some_iff.mp hw
    exact ⟨Nat.le_of_ble_eq_true rfl, rX11_feed_0 (hr)⟩
  · cases hw)
theorem recvX11_feed : ∀ vs h o, wX11_feed vs h = some o → ∃ ci a rest, vs = qm_r 0 ci a :: rest ∧ qm_R ci = yX11_feed.cls := by
  intro vs h o hw
  unfold wX11_feed at hw
  split at hw
  · exact ⟨_, _, _, rfl, rfl⟩
  · cases hw
-- RX11 end(I)I
theorem jX11_end : Jvm.Cond.code yX11_end cX11_end 2 (some .int) ∈ qm_all := List.mem_filter.mpr ⟨by decide +kernel, rfl⟩
theorem iX11_end : Jvm.Cond.instanceMethod yX11_end ∈ qm_all ∧ Jvm.Cond.selects yX11_end.cls yX11_end yX11_end ∈ qm_all := ⟨List.mem_filter.mpr ⟨by decide +kernel, rfl⟩, List.mem_filter.mpr ⟨by decide +kernel, rfl⟩⟩
def wX11_end : qm_C := fun vs h => match vs with
  | [.inr (.inr (some (0, 11, p0))), .inl p1] => (qX11_end p0 p1 h).map qm_Gi
  | _ => none
def aX11_end : List (Option (Instr × Nat)) := [some (.iload_n 1, 1), some (.ifCond .lt 14, 3), none, none, some (.iload_n 1, 1), some (.aload_n 0, 1), some (.getfield 10, 3), none, none, some (.getfield 61, 3), none, none, some (.if_icmp .le 5, 3), none, none, some (.iconst (-1), 1), some (.ireturn, 1), some (.aload_n 0, 1), some (.getfield 10, 3), none, none, some (.iload_n 1, 1), some (.putfield 61, 3), none, none, some (.iload_n 1, 1), some (.ireturn, 1)]
theorem aX11_end_ok : qm_tabok cX11_end aX11_end = true := by decide +kernel
def mX11_end : qm_M := ((some .int), (fun k => qm_lk k pfRX11), (fun k => qm_lk k pcRX11), (fun k => qm_lk k []), qm_tab aX11_end)
set_option maxRecDepth 20000 in
set_option maxHeartbeats 2000000 in
theorem rX11_end_0   {a0 : Nat} {x1 : Int32} {h : qm_H} {r : Int32 × qm_H} (ho : qX11_end  a0 x1 h = some r) : qm_Ret mX11_end (0, [some (qm_r 0 11 a0), some (qm_i x1)], [], h) (qm_Gi r) := by
  unfold qX11_end at ho
  refine qm_Ret.sts 1 (f' := (1, [some (qm_r 0 11 a0), some (qm_i x1)], [qm_i x1], h)) rfl ?_
  refine qm_Ret.lt (t := 15) (e := 4) rfl (fun hc => ?_) (fun hc => ?_)
  · rw [if_pos hc] at ho
    cases ho
    exact qm_Ret.ret 2 rfl
  · rw [if_neg hc] at ho
    refine qm_Ret.sts 4 (f' := (12, [some (qm_r 0 11 a0), some (qm_i x1)], [qm_i (h.1 (a0 + 1) 6), qm_i x1], h)) rfl ?_
    refine qm_Ret.le (t := 17) (e := 15) rfl (fun hc => ?_) (fun hc => ?_)
    · rw [if_pos hc] at ho
      cases ho
      exact qm_Ret.ret 2 rfl
    · rw [if_neg hc] at ho
      refine qm_Ret.sts 4 (f' := (25, [some (qm_r 0 11 a0), some (qm_i x1)], [], (qm_seti h (a0 + 1) 6 x1))) rfl ?_
      refine qm_Ret.lets (F := fun h1 => (25, [some (qm_r 0 11 a0), some (qm_i x1)], [], h1)) (G := qm_Gi) ho (fun h1 ho => ?_)
      cases ho
      exact qm_Ret.ret 2 rfl
theorem cX11_end_ok : ∀ q ∈ ([] : List (Nat × Nat × Nat × qm_C)), qm_CallOK RX11 0 0 q.2.1 q.1 q.2.2.1 q.2.2.2 := fun _ h => absurd h List.not_mem_nil
theorem sX11_end : qm_Snd yX11_end cX11_end 2 (some .int) 0 0 wX11_end := qm_met (fld := fun k => qm_lk k pfRX11) (con := fun k => qm_lk k pcRX11) (call := fun k => qm_lk k []) (tab := qm_tab aX11_end) (plainFor_of_name (by decide)) (qm_fld_ok pfRX11_ok) (qm_con_ok pcRX11_ok) (fun idx kd n f hc => cX11_end_ok (idx, kd, n, f) (qm_lk_mem hc)) (qm_tab_ok aX11_end_ok) (fun vs h o hw => by
  unfold wX11_end at hw
  split at hw
  · obtain ⟨r, hr, rfl⟩ := Option.map_eq_some_iff.mp hw
    exact ⟨Nat.le_of_ble_eq_true rfl, rX11_end_0 (hr)⟩
  · cases hw)
theorem recvX11_end : ∀ vs h o, wX11_end vs h = some o → ∃ ci a rest, vs = qm_r 0 ci a :: rest ∧ qm_R ci = yX11_end.cls := by
  intro vs h o hw
  unfold wX11_end at hw
  split at hw
  · exact ⟨_, _, _, rfl, rfl⟩
  · cases hw
-- RX11 fault(I)I
theorem jX11_fault : Jvm.Cond.code yX11_fault cX11_fault 2 (some .int) ∈ qm_all := List.mem_filter.mpr ⟨by decide +kernel, rfl⟩
theorem iX11_fault : Jvm.Cond.instanceMethod yX11_fault ∈ qm_all ∧ Jvm.Cond.selects yX11_fault.cls yX11_fault yX11_fault ∈ qm_all := ⟨List.mem_filter.mpr ⟨by decide +kernel, rfl⟩, List.mem_filter.mpr ⟨by decide +kernel, rfl⟩⟩
def wX11_fault : qm_C := fun vs h => match vs with
  | [.inr (.inr (some (0, 11, p0))), .inl p1] => (qX11_fault p0 p1 h).map qm_Gi
  | _ => none
def aX11_fault : List (Option (Instr × Nat)) := [some (.iload_n 1, 1), some (.ifCond .ne 11, 3), none, none, some (.aload_n 0, 1), some (.getfield 10, 3), none, none, some (.getfield 69, 3), none, none, some (.ireturn, 1), some (.iload_n 1, 1), some (.iconst 1, 1), some (.if_icmp .ne 13, 3), none, none, some (.aload_n 0, 1), some (.getfield 10, 3), none, none, some (.getfield 72, 3), none, none, some (.goto 4, 3), none, none, some (.iconst (-1), 1), some (.ireturn, 1)]
theorem aX11_fault_ok : qm_tabok cX11_fault aX11_fault = true := by decide +kernel
def mX11_fault : qm_M := ((some .int), (fun k => qm_lk k pfRX11), (fun k => qm_lk k pcRX11), (fun k => qm_lk k []), qm_tab aX11_fault)
set_option maxRecDepth 20000 in
set_option maxHeartbeats 2000000 in
theorem rX11_fault_0   {a0 : Nat} {x1 : Int32} {h : qm_H} {r : Int32 × qm_H} (ho : qX11_fault  a0 x1 h = some r) : qm_Ret mX11_fault (0, [some (qm_r 0 11 a0), some (qm_i x1)], [], h) (qm_Gi r) := by
  unfold qX11_fault at ho
  refine qm_Ret.sts 1 (f' := (1, [some (qm_r 0 11 a0), some (qm_i x1)], [qm_i x1], h)) rfl ?_
  refine qm_Ret.ne (t := 12) (e := 4) rfl (fun hc => ?_) (fun hc => ?_)
  · rw [if_pos hc] at ho
    cases ho
    exact qm_Ret.ret 4 rfl
  · rw [if_neg hc] at ho
    refine qm_Ret.sts 2 (f' := (14, [some (qm_r 0 11 a0), some (qm_i x1)], [qm_i (1 : Int32), qm_i x1], h)) rfl ?_
    refine qm_Ret.ne (t := 27) (e := 17) rfl (fun hc => ?_) (fun hc => ?_)
    · rw [if_pos hc] at ho
      cases ho
      exact qm_Ret.ret 5 rfl
    · rw [if_neg hc] at ho
      cases ho
      exact qm_Ret.ret 2 rfl
theorem cX11_fault_ok : ∀ q ∈ ([] : List (Nat × Nat × Nat × qm_C)), qm_CallOK RX11 0 0 q.2.1 q.1 q.2.2.1 q.2.2.2 := fun _ h => absurd h List.not_mem_nil
theorem sX11_fault : qm_Snd yX11_fault cX11_fault 2 (some .int) 0 0 wX11_fault := qm_met (fld := fun k => qm_lk k pfRX11) (con := fun k => qm_lk k pcRX11) (call := fun k => qm_lk k []) (tab := qm_tab aX11_fault) (plainFor_of_name (by decide)) (qm_fld_ok pfRX11_ok) (qm_con_ok pcRX11_ok) (fun idx kd n f hc => cX11_fault_ok (idx, kd, n, f) (qm_lk_mem hc)) (qm_tab_ok aX11_fault_ok) (fun vs h o hw => by
  unfold wX11_fault at hw
  split at hw
  · obtain ⟨r, hr, rfl⟩ := Option.map_eq_some_iff.mp hw
    exact ⟨Nat.le_of_ble_eq_true rfl, rX11_fault_0 (hr)⟩
  · cases hw)
theorem recvX11_fault : ∀ vs h o, wX11_fault vs h = some o → ∃ ci a rest, vs = qm_r 0 ci a :: rest ∧ qm_R ci = yX11_fault.cls := by
  intro vs h o hw
  unfold wX11_fault at hw
  split at hw
  · exact ⟨_, _, _, rfl, rfl⟩
  · cases hw
-- RX11 count(I)I
theorem jX11_count : Jvm.Cond.code yX11_count cX11_count 2 (some .int) ∈ qm_all := List.mem_filter.mpr ⟨by decide +kernel, rfl⟩
theorem iX11_count : Jvm.Cond.instanceMethod yX11_count ∈ qm_all ∧ Jvm.Cond.selects yX11_count.cls yX11_count yX11_count ∈ qm_all := ⟨List.mem_filter.mpr ⟨by decide +kernel, rfl⟩, List.mem_filter.mpr ⟨by decide +kernel, rfl⟩⟩
def wX11_count : qm_C := fun vs h => match vs with
  | [.inr (.inr (some (0, 11, p0))), .inl p1] => (qX11_count p0 p1 h).map qm_Gi
  | _ => none
def aX11_count : List (Option (Instr × Nat)) := [some (.iload_n 1, 1), some (.ifCond .lt 8, 3), none, none, some (.iload_n 1, 1), some (.iconst 4, 1), some (.if_icmp .lt 8, 3), none, none, some (.bipush (-2), 2), none, some (.goto 12, 3), none, none, some (.aload_n 0, 1), some (.getfield 10, 3), none, none, some (.getfield 75, 3), none, none, some (.iload_n 1, 1), some (.iaload, 1), some (.ireturn, 1)]
theorem aX11_count_ok : qm_tabok cX11_count aX11_count = true := by decide +kernel
def mX11_count : qm_M := ((some .int), (fun k => qm_lk k pfRX11), (fun k => qm_lk k pcRX11), (fun k => qm_lk k []), qm_tab aX11_count)
set_option maxRecDepth 20000 in
set_option maxHeartbeats 2000000 in
theorem rX11_count_0   {a0 : Nat} {x1 : Int32} {h : qm_H} {r : Int32 × qm_H} (ho : qX11_count  a0 x1 h = some r) : qm_Ret mX11_count (0, [some (qm_r 0 11 a0), some (qm_i x1)], [], h) (qm_Gi r) := by
  unfold qX11_count at ho
  refine qm_Ret.sts 1 (f' := (1, [some (qm_r 0 11 a0), some (qm_i x1)], [qm_i x1], h)) rfl ?_
  refine qm_Ret.lt (t := 9) (e := 4) rfl (fun hc => ?_) (fun hc => ?_)
  · rw [if_pos hc] at ho
    cases ho
    exact qm_Ret.ret 3 rfl
  · rw [if_neg hc] at ho
    refine qm_Ret.sts 2 (f' := (6, [some (qm_r 0 11 a0), some (qm_i x1)], [qm_i (4 : Int32), qm_i x1], h)) rfl ?_
    refine qm_Ret.lt (t := 14) (e := 9) rfl (fun hc => ?_) (fun hc => ?_)
    · rw [if_pos hc] at ho
      refine qm_Ret.sts 4 (f' := (22, [some (qm_r 0 11 a0), some (qm_i x1)], [qm_i x1, qm_r 1 4 ((a0 + 1) + 2)], h)) rfl ?_
      obtain ⟨hg, ho⟩ := qm_ifn ho
      refine qm_Ret.gn (f1 := (23, [some (qm_r 0 11 a0), some (qm_i x1)], [qm_i (h.1 ((a0 + 1) + 2) (x1).toNatClampNeg)], h)) hg rfl ?_
      cases ho
      exact qm_Ret.ret 1 rfl
    · rw [if_neg hc] at ho
      cases ho
      exact qm_Ret.ret 3 rfl
theorem cX11_count_ok : ∀ q ∈ ([] : List (Nat × Nat × Nat × qm_C)), qm_CallOK RX11 0 0 q.2.1 q.1 q.2.2.1 q.2.2.2 := fun _ h => absurd h List.not_mem_nil
theorem sX11_count : qm_Snd yX11_count cX11_count 2 (some .int) 0 0 wX11_count := qm_met (fld := fun k => qm_lk k pfRX11) (con := fun k => qm_lk k pcRX11) (call := fun k => qm_lk k []) (tab := qm_tab aX11_count) (plainFor_of_name (by decide)) (qm_fld_ok pfRX11_ok) (qm_con_ok pcRX11_ok) (fun idx kd n f hc => cX11_count_ok (idx, kd, n, f) (qm_lk_mem hc)) (qm_tab_ok aX11_count_ok) (fun vs h o hw => by
  unfold wX11_count at hw
  split at hw
  · obtain ⟨r, hr, rfl⟩ := Option.map_eq_some_iff.mp hw
    exact ⟨Nat.le_of_ble_eq_true rfl, rX11_count_0 (hr)⟩
  · cases hw)
theorem recvX11_count : ∀ vs h o, wX11_count vs h = some o → ∃ ci a rest, vs = qm_r 0 ci a :: rest ∧ qm_R ci = yX11_count.cls := by
  intro vs h o hw
  unfold wX11_count at hw
  split at hw
  · exact ⟨_, _, _, rfl, rfl⟩
  · cases hw
-- RX11 again(I)Z
theorem jX11_again : Jvm.Cond.code yX11_again cX11_again 3 (some .boolean) ∈ qm_all := List.mem_filter.mpr ⟨by decide +kernel, rfl⟩
theorem iX11_again : Jvm.Cond.instanceMethod yX11_again ∈ qm_all ∧ Jvm.Cond.selects yX11_again.cls yX11_again yX11_again ∈ qm_all := ⟨List.mem_filter.mpr ⟨by decide +kernel, rfl⟩, List.mem_filter.mpr ⟨by decide +kernel, rfl⟩⟩
def wX11_again : qm_C := fun vs h => match vs with
  | [.inr (.inr (some (0, 11, p0))), .inl p1] => (qX11_again p0 p1 h).map qm_Gi
  | _ => none
def aX11_again : List (Option (Instr × Nat)) := [some (.iload_n 1, 1), some (.ifCond .lt 8, 3), none, none, some (.iload_n 1, 1), some (.iconst 3, 1), some (.if_icmp .lt 5, 3), none, none, some (.iconst 0, 1), some (.ireturn, 1), some (.aload_n 0, 1), some (.getfield 16, 3), none, none, some (.iload_n 1, 1), some (.aaload, 1), some (.astore_n 2, 1), some (.aload_n 2, 1), some (.ifnonnull 5, 3), none, none, some (.iconst 0, 1), some (.ireturn, 1), some (.aload_n 0, 1), some (.getfield 10, 3), none, none, some (.aload_n 2, 1), some (.invokevirtual 89, 3), none, none, some (.iconst 1, 1), some (.ireturn, 1)]
theorem aX11_again_ok : qm_tabok cX11_again aX11_again = true := by decide +kernel
def mX11_again : qm_M := ((some .boolean), (fun k => qm_lk k pfRX11), (fun k => qm_lk k pcRX11), (fun k => qm_lk k [(89, 0, 2, wX9_take)]), qm_tab aX11_again)
set_option maxRecDepth 20000 in
set_option maxHeartbeats 2000000 in
theorem rX11_again_0   {a0 : Nat} {x1 : Int32} {h : qm_H} {r : Int32 × qm_H} (ho : qX11_again  a0 x1 h = some r) : qm_Ret mX11_again (0, [some (qm_r 0 11 a0), some (qm_i x1), none], [], h) (qm_Gi r) := by
  unfold qX11_again at ho
  refine qm_Ret.sts 1 (f' := (1, [some (qm_r 0 11 a0), some (qm_i x1), none], [qm_i x1], h)) rfl ?_
  refine qm_Ret.lt (t := 9) (e := 4) rfl (fun hc => ?_) (fun hc => ?_)
  · rw [if_pos hc] at ho
    cases ho
    exact qm_Ret.ret 2 rfl
  · rw [if_neg hc] at ho
    refine qm_Ret.sts 2 (f' := (6, [some (qm_r 0 11 a0), some (qm_i x1), none], [qm_i (3 : Int32), qm_i x1], h)) rfl ?_
    refine qm_Ret.lt (t := 11) (e := 9) rfl (fun hc => ?_) (fun hc => ?_)
    · rw [if_pos hc] at ho
      refine qm_Ret.sts 3 (f' := (16, [some (qm_r 0 11 a0), some (qm_i x1), none], [qm_i x1, qm_r 8 3 (a0 + 30)], h)) rfl ?_
      obtain ⟨hg, ho⟩ := qm_ifn ho
      by_cases hc : h.1 (a0 + 30) (x1).toNatClampNeg = 0
      · rw [if_pos hc] at ho
        refine qm_Ret.gn hg (f1 := (17, [some (qm_r 0 11 a0), some (qm_i x1), none], [qm_0], h)) (qm_e8n hc rfl) ?_
        cases ho
        exact qm_Ret.ret 5 rfl
      · rw [if_neg hc] at ho
        refine qm_Ret.gn hg (f1 := (17, [some (qm_r 0 11 a0), some (qm_i x1), none], [qm_r 0 9 (1000 * ((x1).toNatClampNeg + 1))], h)) (qm_e8s hc rfl) ?_
        refine qm_Ret.sts 6 (f' := (29, [some (qm_r 0 11 a0), some (qm_i x1), some (qm_r 0 9 (1000 * ((x1).toNatClampNeg + 1)))], [qm_r 0 9 (1000 * ((x1).toNatClampNeg + 1)), qm_r 0 9 (a0 + 1)], h)) rfl ?_
        obtain ⟨h1, hr, ho⟩ := qm_bd ho
        refine qm_Ret.call (X := wX9_take [qm_r 0 9 (a0 + 1), qm_r 0 9 (1000 * ((x1).toNatClampNeg + 1))] h) (o1 := (none, h1)) (qm_mp (G := qm_Gv) hr) rfl ?_
        show qm_Ret _ (32, [some (qm_r 0 11 a0), some (qm_i x1), some (qm_r 0 9 (1000 * ((x1).toNatClampNeg + 1)))], [], h1) _
        cases ho
        exact qm_Ret.ret 2 rfl
    · rw [if_neg hc] at ho
      cases ho
      exact qm_Ret.ret 2 rfl
theorem cX11_again_ok : ∀ q ∈ ([(89, 0, 2, wX9_take)] : List (Nat × Nat × Nat × qm_C)), qm_CallOK RX11 3 103 q.2.1 q.1 q.2.2.1 q.2.2.2 := List.forall_mem_cons.mpr ⟨Or.inl ⟨yX9_take, cX9_take, 3, none, 2, 81, _, sX9_take, ⟨by decide, by decide⟩, ⟨jX9_take, kRX11_89, uRX9⟩, ⟨by decide, by decide, rfl⟩, Or.inl ⟨rfl, rfl, iX9_take, recvX9_take⟩⟩, fun _ h => absurd h List.not_mem_nil⟩
theorem sX11_again : qm_Snd yX11_again cX11_again 3 (some .boolean) 3 103 wX11_again := qm_met (fld := fun k => qm_lk k pfRX11) (con := fun k => qm_lk k pcRX11) (call := fun k => qm_lk k [(89, 0, 2, wX9_take)]) (tab := qm_tab aX11_again) (plainFor_of_name (by decide)) (qm_fld_ok pfRX11_ok) (qm_con_ok pcRX11_ok) (fun idx kd n f hc => cX11_again_ok (idx, kd, n, f) (qm_lk_mem hc)) (qm_tab_ok aX11_again_ok) (fun vs h o hw => by
  unfold wX11_again at hw
  split at hw
  · obtain ⟨r, hr, rfl⟩ := Option.map_eq_some_iff.mp hw
    exact ⟨Nat.le_of_ble_eq_true rfl, rX11_again_0 (hr)⟩
  · cases hw)
theorem recvX11_again : ∀ vs h o, wX11_again vs h = some o → ∃ ci a rest, vs = qm_r 0 ci a :: rest ∧ qm_R ci = yX11_again.cls := by
  intro vs h o hw
  unfold wX11_again at hw
  split at hw
  · exact ⟨_, _, _, rfl, rfl⟩
  · cases hw
-- RX11 basket(II)I
theorem jX11_basket : Jvm.Cond.code yX11_basket cX11_basket 4 (some .int) ∈ qm_all := List.mem_filter.mpr ⟨by decide +kernel, rfl⟩
theorem iX11_basket : Jvm.Cond.instanceMethod yX11_basket ∈ qm_all ∧ Jvm.Cond.selects yX11_basket.cls yX11_basket yX11_basket ∈ qm_all := ⟨List.mem_filter.mpr ⟨by decide +kernel, rfl⟩, List.mem_filter.mpr ⟨by decide +kernel, rfl⟩⟩
def wX11_basket : qm_C := fun vs h => match vs with
  | [.inr (.inr (some (0, 11, p0))), .inl p1, .inl p2] => (qX11_basket p0 p1 p2 h).map qm_Gi
  | _ => none
def aX11_basket : List (Option (Instr × Nat)) := [some (.aload_n 0, 1), some (.getfield 10, 3), none, none, some (.iload_n 1, 1), some (.invokevirtual 93, 3), none, none, some (.astore_n 3, 1), some (.aload_n 3, 1), some (.ifnonnull 6, 3), none, none, some (.bipush (-2), 2), none, some (.ireturn, 1), some (.iload_n 2, 1), some (.tableswitch 62 0 3 #[31, 36, 41, 54], 31), none, none, none, none, none, none, none, none, none, none, none, none, none, none, none, none, none, none, none, none, none, none, none, none, none, none, none, none, none, none, some (.aload_n 3, 1), some (.getfield 97, 3), none, none, some (.ireturn, 1), some (.aload_n 3, 1), some (.getfield 102, 3), none, none, some (.ireturn, 1), some (.aload_n 3, 1), some (.getfield 105, 3), none, none, some (.ifCond .eq 7, 3), none, none, some (.iconst 1, 1), some (.goto 4, 3), none, none, some (.iconst 0, 1), some (.ireturn, 1), some (.aload_n 3, 1), some (.getfield 109, 3), none, none, some (.invokestatic 113, 3), none, none, some (.ireturn, 1), some (.aload_n 3, 1), some (.iload_n 2, 1), some (.invokevirtual 119, 3), none, none, some (.ireturn, 1)]
theorem aX11_basket_ok : qm_tabok cX11_basket aX11_basket = true := by decide +kernel
def mX11_basket : qm_M := ((some .int), (fun k => qm_lk k pfRX11), (fun k => qm_lk k pcRX11), (fun k => qm_lk k [(93, 0, 2, wX9_basketAt), (113, 2, 1, wJ13_bitCount_95d88), (119, 0, 2, wX0_part)]), qm_tab aX11_basket)
set_option maxRecDepth 20000 in
set_option maxHeartbeats 2000000 in
theorem rX11_basket_0   {a0 : Nat} {x1 : Int32} {x2 : Int32} {h : qm_H} {r : Int32 × qm_H} (ho : qX11_basket  a0 x1 x2 h = some r) : qm_Ret mX11_basket (0, [some (qm_r 0 11 a0), some (qm_i x1), some (qm_i x2), none], [], h) (qm_Gi r) := by
  unfold qX11_basket at ho
  refine qm_Ret.sts 3 (f' := (5, [some (qm_r 0 11 a0), some (qm_i x1), some (qm_i x2), none], [qm_i x1, qm_r 0 9 (a0 + 1)], h)) rfl ?_
  obtain ⟨r2, h1, hr, ho⟩ := qm_b2e ho
  refine qm_Ret.call (X := wX9_basketAt [qm_r 0 9 (a0 + 1), qm_i x1] h) (o1 := (some (qm_oo 0 r2), h1)) (qm_mp (G := (qm_Go 0)) hr) rfl ?_
  show qm_Ret _ (8, [some (qm_r 0 11 a0), some (qm_i x1), some (qm_i x2), none], [qm_oo 0 r2], h1) _
  refine qm_Ret.sts 2 (f' := (10, [some (qm_r 0 11 a0), some (qm_i x1), some (qm_i x2), some (qm_oo 0 r2)], [qm_oo 0 r2], h1)) rfl ?_
  cases r2 with
  | none =>
    simp only [qm_om] at ho
    cases ho
    exact qm_Ret.ret 3 rfl
  | some b3 =>
    simp only [qm_om] at ho
    refine qm_Ret.sts 2 (f' := (17, [some (qm_r 0 11 a0), some (qm_i x1), some (qm_i x2), some (qm_r 0 0 b3)], [qm_i x2], h1)) rfl ?_
    by_cases hc0 : x2 = (0 : Int32)
    · rw [if_pos hc0] at ho
      refine qm_Ret.sw (z := (0 : Int32)) (f1 := (48, [some (qm_r 0 11 a0), some (qm_i x1), some (qm_i x2), some (qm_r 0 0 b3)], [], h1)) hc0 rfl rfl ?_
      cases ho
      exact qm_Ret.ret 3 rfl
    · rw [if_neg hc0] at ho
      by_cases hc1 : x2 = (1 : Int32)
      · rw [if_pos hc1] at ho
        refine qm_Ret.sw (z := (1 : Int32)) (f1 := (53, [some (qm_r 0 11 a0), some (qm_i x1), some (qm_i x2), some (qm_r 0 0 b3)], [], h1)) hc1 rfl rfl ?_
        cases ho
        exact qm_Ret.ret 3 rfl
      · rw [if_neg hc1] at ho
        by_cases hc2 : x2 = (2 : Int32)
        · rw [if_pos hc2] at ho
          refine qm_Ret.sw (z := (2 : Int32)) (f1 := (58, [some (qm_r 0 11 a0), some (qm_i x1), some (qm_i x2), some (qm_r 0 0 b3)], [], h1)) hc2 rfl rfl ?_
          refine qm_Ret.sts 2 (f' := (62, [some (qm_r 0 11 a0), some (qm_i x1), some (qm_i x2), some (qm_r 0 0 b3)], [qm_i (h1.1 b3 5)], h1)) rfl ?_
          refine qm_Ret.eq (t := 69) (e := 65) rfl (fun hc => ?_) (fun hc => ?_)
          · rw [if_pos hc] at ho
            cases ho
            exact qm_Ret.ret 2 rfl
          · rw [if_neg hc] at ho
            cases ho
            exact qm_Ret.ret 3 rfl
        · rw [if_neg hc2] at ho
          by_cases hc3 : x2 = (3 : Int32)
          · rw [if_pos hc3] at ho
            refine qm_Ret.sw (z := (3 : Int32)) (f1 := (71, [some (qm_r 0 11 a0), some (qm_i x1), some (qm_i x2), some (qm_r 0 0 b3)], [], h1)) hc3 rfl rfl ?_
            refine qm_Ret.sts 2 (f' := (75, [some (qm_r 0 11 a0), some (qm_i x1), some (qm_i x2), some (qm_r 0 0 b3)], [qm_l (h1.2 b3 6)], h1)) rfl ?_
            obtain ⟨r5, h4, hr, ho⟩ := qm_b2e ho
            refine qm_Ret.call (X := wJ13_bitCount_95d88 [qm_l (h1.2 b3 6)] h1) (o1 := (some (qm_i r5), h4)) (qm_mp (G := qm_Gi) hr) rfl ?_
            show qm_Ret _ (78, [some (qm_r 0 11 a0), some (qm_i x1), some (qm_i x2), some (qm_r 0 0 b3)], [qm_i r5], h4) _
            cases ho
            exact qm_Ret.ret 1 rfl
          · rw [if_neg hc3] at ho
            have nhc0 := lv_neT hc0 (show (0 : Int32).toInt = 0 by decide)
            have nhc1 := lv_neT hc1 (show (1 : Int32).toInt = 1 by decide)
            have nhc2 := lv_neT hc2 (show (2 : Int32).toInt = 2 by decide)
            have nhc3 := lv_neT hc3 (show (3 : Int32).toInt = 3 by decide)
            refine qm_Ret.swd (d := 62) (lo := 0) (hi := 3) (pc := 17) (by omega) (by decide) rfl ?_
            show qm_Ret _ (79, [some (qm_r 0 11 a0), some (qm_i x1), some (qm_i x2), some (qm_r 0 0 b3)], [], h1) _
            refine qm_Ret.sts 2 (f' := (81, [some (qm_r 0 11 a0), some (qm_i x1), some (qm_i x2), some (qm_r 0 0 b3)], [qm_i x2, qm_r 0 0 b3], h1)) rfl ?_
            obtain ⟨r7, h6, hr, ho⟩ := qm_b2e ho
            refine qm_Ret.call (X := wX0_part [qm_r 0 0 b3, qm_i x2] h1) (o1 := (some (qm_i r7), h6)) (qm_mp (G := qm_Gi) hr) rfl ?_
            show qm_Ret _ (84, [some (qm_r 0 11 a0), some (qm_i x1), some (qm_i x2), some (qm_r 0 0 b3)], [qm_i r7], h6) _
            cases ho
            exact qm_Ret.ret 1 rfl
theorem cX11_basket_ok : ∀ q ∈ ([(93, 0, 2, wX9_basketAt), (113, 2, 1, wJ13_bitCount_95d88), (119, 0, 2, wX0_part)] : List (Nat × Nat × Nat × qm_C)), qm_CallOK RX11 4 91 q.2.1 q.1 q.2.2.1 q.2.2.2 := List.forall_mem_cons.mpr ⟨Or.inl ⟨yX9_basketAt, cX9_basketAt, 2, (some (.object "WillowLaw$Basket")), 0, 0, _, sX9_basketAt, ⟨by decide, by decide⟩, ⟨jX9_basketAt, kRX11_93, uRX9⟩, ⟨by decide, by decide, rfl⟩, Or.inl ⟨rfl, rfl, iX9_basketAt, recvX9_basketAt⟩⟩, List.forall_mem_cons.mpr ⟨Or.inl ⟨yJ13_bitCount_95d88, cJ13_bitCount_95d88, 2, (some .int), 0, 0, _, sJ13_bitCount_95d88, ⟨by decide, by decide⟩, ⟨jJ13_bitCount_95d88, kRX11_113, uRJ13⟩, ⟨by decide, by decide, rfl⟩, Or.inr (Or.inl ⟨rfl, rfl, iJ13_bitCount_95d88⟩)⟩, List.forall_mem_cons.mpr ⟨Or.inl ⟨yX0_part, cX0_part, 5, (some .int), 3, 67, _, sX0_part, ⟨by decide, by decide⟩, ⟨jX0_part, kRX11_119, uRX0⟩, ⟨by decide, by decide, rfl⟩, Or.inl ⟨rfl, rfl, iX0_part, recvX0_part⟩⟩, fun _ h => absurd h List.not_mem_nil⟩⟩⟩
theorem sX11_basket : qm_Snd yX11_basket cX11_basket 4 (some .int) 4 91 wX11_basket := qm_met (fld := fun k => qm_lk k pfRX11) (con := fun k => qm_lk k pcRX11) (call := fun k => qm_lk k [(93, 0, 2, wX9_basketAt), (113, 2, 1, wJ13_bitCount_95d88), (119, 0, 2, wX0_part)]) (tab := qm_tab aX11_basket) (plainFor_of_name (by decide)) (qm_fld_ok pfRX11_ok) (qm_con_ok pcRX11_ok) (fun idx kd n f hc => cX11_basket_ok (idx, kd, n, f) (qm_lk_mem hc)) (qm_tab_ok aX11_basket_ok) (fun vs h o hw => by
  unfold wX11_basket at hw
  split at hw
  · obtain ⟨r, hr, rfl⟩ := Option.map_eq_some_iff.mp hw
    exact ⟨Nat.le_of_ble_eq_true rfl, rX11_basket_0 (hr)⟩
  · cases hw)
theorem recvX11_basket : ∀ vs h o, wX11_basket vs h = some o → ∃ ci a rest, vs = qm_r 0 ci a :: rest ∧ qm_R ci = yX11_basket.cls := by
  intro vs h o hw
  unfold wX11_basket at hw
  split at hw
  · exact ⟨_, _, _, rfl, rfl⟩
  · cases hw
-- RX11 isSize(II)Z
theorem jX11_isSize : Jvm.Cond.code yX11_isSize cX11_isSize 2 (some .boolean) ∈ qm_all := List.mem_filter.mpr ⟨by decide +kernel, rfl⟩
theorem iX11_isSize : Jvm.Cond.static yX11_isSize ∈ qm_all := List.mem_filter.mpr ⟨by decide +kernel, rfl⟩
def wX11_isSize : qm_C := fun vs h => match vs with
  | [.inl p0, .inl p1] => (qX11_isSize p0 p1 h).map qm_Gi
  | _ => none
def aX11_isSize : List (Option (Instr × Nat)) := [some (.iload_n 0, 1), some (.iconst 1, 1), some (.if_icmp .lt 24, 3), none, none, some (.iload_n 0, 1), some (.bipush 8, 2), none, some (.if_icmp .gt 18, 3), none, none, some (.iload_n 1, 1), some (.iconst 1, 1), some (.if_icmp .lt 13, 3), none, none, some (.iload_n 1, 1), some (.bipush 8, 2), none, some (.if_icmp .gt 7, 3), none, none, some (.iconst 1, 1), some (.goto 4, 3), none, none, some (.iconst 0, 1), some (.ireturn, 1)]
theorem aX11_isSize_ok : qm_tabok cX11_isSize aX11_isSize = true := by decide +kernel
def mX11_isSize : qm_M := ((some .boolean), (fun k => qm_lk k pfRX11), (fun k => qm_lk k pcRX11), (fun k => qm_lk k []), qm_tab aX11_isSize)
set_option maxRecDepth 20000 in
set_option maxHeartbeats 2000000 in
theorem rX11_isSize_0   {x0 : Int32} {x1 : Int32} {h : qm_H} {r : Int32 × qm_H} (ho : qX11_isSize  x0 x1 h = some r) : qm_Ret mX11_isSize (0, [some (qm_i x0), some (qm_i x1)], [], h) (qm_Gi r) := by
  unfold qX11_isSize at ho
  refine qm_Ret.sts 2 (f' := (2, [some (qm_i x0), some (qm_i x1)], [qm_i (1 : Int32), qm_i x0], h)) rfl ?_
  refine qm_Ret.lt (t := 26) (e := 5) rfl (fun hc => ?_) (fun hc => ?_)
  · rw [if_pos hc] at ho
    cases ho
    exact qm_Ret.ret 2 rfl
  · rw [if_neg hc] at ho
    refine qm_Ret.sts 2 (f' := (8, [some (qm_i x0), some (qm_i x1)], [qm_i (8 : Int32), qm_i x0], h)) rfl ?_
    refine qm_Ret.gt (t := 26) (e := 11) rfl (fun hc => ?_) (fun hc => ?_)
    · rw [if_pos hc] at ho
      cases ho
      exact qm_Ret.ret 2 rfl
    · rw [if_neg hc] at ho
      refine qm_Ret.sts 2 (f' := (13, [some (qm_i x0), some (qm_i x1)], [qm_i (1 : Int32), qm_i x1], h)) rfl ?_
      refine qm_Ret.lt (t := 26) (e := 16) rfl (fun hc => ?_) (fun hc => ?_)
      · rw [if_pos hc] at ho
        cases ho
        exact qm_Ret.ret 2 rfl
      · rw [if_neg hc] at ho
        refine qm_Ret.sts 2 (f' := (19, [some (qm_i x0), some (qm_i x1)], [qm_i (8 : Int32), qm_i x1], h)) rfl ?_
        refine qm_Ret.gt (t := 26) (e := 22) rfl (fun hc => ?_) (fun hc => ?_)
        · rw [if_pos hc] at ho
          cases ho
          exact qm_Ret.ret 2 rfl
        · rw [if_neg hc] at ho
          cases ho
          exact qm_Ret.ret 3 rfl
theorem cX11_isSize_ok : ∀ q ∈ ([] : List (Nat × Nat × Nat × qm_C)), qm_CallOK RX11 0 0 q.2.1 q.1 q.2.2.1 q.2.2.2 := fun _ h => absurd h List.not_mem_nil
theorem sX11_isSize : qm_Snd yX11_isSize cX11_isSize 2 (some .boolean) 0 0 wX11_isSize := qm_met (fld := fun k => qm_lk k pfRX11) (con := fun k => qm_lk k pcRX11) (call := fun k => qm_lk k []) (tab := qm_tab aX11_isSize) (plainFor_of_name (by decide)) (qm_fld_ok pfRX11_ok) (qm_con_ok pcRX11_ok) (fun idx kd n f hc => cX11_isSize_ok (idx, kd, n, f) (qm_lk_mem hc)) (qm_tab_ok aX11_isSize_ok) (fun vs h o hw => by
  unfold wX11_isSize at hw
  split at hw
  · obtain ⟨r, hr, rfl⟩ := Option.map_eq_some_iff.mp hw
    exact ⟨Nat.le_of_ble_eq_true rfl, rX11_isSize_0 (hr)⟩
  · cases hw)
-- RX11 slips(IIIZ)I
theorem jX11_slips : Jvm.Cond.code yX11_slips cX11_slips 6 (some .int) ∈ qm_all := List.mem_filter.mpr ⟨by decide +kernel, rfl⟩
theorem iX11_slips : Jvm.Cond.instanceMethod yX11_slips ∈ qm_all ∧ Jvm.Cond.selects yX11_slips.cls yX11_slips yX11_slips ∈ qm_all := ⟨List.mem_filter.mpr ⟨by decide +kernel, rfl⟩, List.mem_filter.mpr ⟨by decide +kernel, rfl⟩⟩
def wX11_slips : qm_C := fun vs h => match vs with
  | [.inr (.inr (some (0, 11, p0))), .inl p1, .inl p2, .inl p3, .inl p4] => (qX11_slips p0 p1 p2 p3 p4 h).map qm_Gi
  | _ => none
def aX11_slips : List (Option (Instr × Nat)) := [some (.aload_n 0, 1), some (.getfield 10, 3), none, none, some (.iload_n 1, 1), some (.invokevirtual 93, 3), none, none, some (.astore 5, 2), none, some (.aload 5, 2), none, some (.ifnull 11, 3), none, none, some (.iload_n 2, 1), some (.iload_n 3, 1), some (.invokestatic 123, 3), none, none, some (.ifCond .ne 6, 3), none, none, some (.bipush (-2), 2), none, some (.ireturn, 1), some (.iload 4, 2), none, some (.ifCond .eq 13, 3), none, none, some (.aload 5, 2), none, some (.iload_n 2, 1), some (.iload_n 3, 1), some (.invokevirtual 127, 3), none, none, some (.goto 10, 3), none, none, some (.aload 5, 2), none, some (.iload_n 2, 1), some (.iload_n 3, 1), some (.invokevirtual 131, 3), none, none, some (.ireturn, 1)]
theorem aX11_slips_ok : qm_tabok cX11_slips aX11_slips = true := by decide +kernel
def mX11_slips : qm_M := ((some .int), (fun k => qm_lk k pfRX11), (fun k => qm_lk k pcRX11), (fun k => qm_lk k [(93, 0, 2, wX9_basketAt), (123, 2, 2, wX11_isSize), (131, 0, 3, wX0_gapFor), (127, 0, 3, wX0_holdOf)]), qm_tab aX11_slips)
set_option maxRecDepth 20000 in
set_option maxHeartbeats 2000000 in
theorem rX11_slips_0   {a0 : Nat} {x1 : Int32} {x2 : Int32} {x3 : Int32} {x4 : Int32} {h : qm_H} {r : Int32 × qm_H} (ho : qX11_slips  a0 x1 x2 x3 x4 h = some r) : qm_Ret mX11_slips (0, [some (qm_r 0 11 a0), some (qm_i x1), some (qm_i x2), some (qm_i x3), some (qm_i x4), none], [], h) (qm_Gi r) := by
  unfold qX11_slips at ho
  refine qm_Ret.sts 3 (f' := (5, [some (qm_r 0 11 a0), some (qm_i x1), some (qm_i x2), some (qm_i x3), some (qm_i x4), none], [qm_i x1, qm_r 0 9 (a0 + 1)], h)) rfl ?_
  obtain ⟨r2, h1, hr, ho⟩ := qm_b2e ho
  refine qm_Ret.call (X := wX9_basketAt [qm_r 0 9 (a0 + 1), qm_i x1] h) (o1 := (some (qm_oo 0 r2), h1)) (qm_mp (G := (qm_Go 0)) hr) rfl ?_
  show qm_Ret _ (8, [some (qm_r 0 11 a0), some (qm_i x1), some (qm_i x2), some (qm_i x3), some (qm_i x4), none], [qm_oo 0 r2], h1) _
  refine qm_Ret.sts 2 (f' := (12, [some (qm_r 0 11 a0), some (qm_i x1), some (qm_i x2), some (qm_i x3), some (qm_i x4), some (qm_oo 0 r2)], [qm_oo 0 r2], h1)) rfl ?_
  cases r2 with
  | none =>
    simp only [qm_om] at ho
    cases ho
    exact qm_Ret.ret 3 rfl
  | some b3 =>
    simp only [qm_om] at ho
    refine qm_Ret.sts 3 (f' := (17, [some (qm_r 0 11 a0), some (qm_i x1), some (qm_i x2), some (qm_i x3), some (qm_i x4), some (qm_r 0 0 b3)], [qm_i x3, qm_i x2], h1)) rfl ?_
    obtain ⟨r5, h4, hr, ho⟩ := qm_b2e ho
    refine qm_Ret.call (X := wX11_isSize [qm_i x2, qm_i x3] h1) (o1 := (some (qm_i r5), h4)) (qm_mp (G := qm_Gi) hr) rfl ?_
    show qm_Ret _ (20, [some (qm_r 0 11 a0), some (qm_i x1), some (qm_i x2), some (qm_i x3), some (qm_i x4), some (qm_r 0 0 b3)], [qm_i r5], h4) _
    refine qm_Ret.ne (t := 26) (e := 23) rfl (fun hc => ?_) (fun hc => ?_)
    · rw [if_pos hc] at ho
      cases ho
      exact qm_Ret.ret 2 rfl
    · rw [if_neg hc] at ho
      refine qm_Ret.sts 1 (f' := (28, [some (qm_r 0 11 a0), some (qm_i x1), some (qm_i x2), some (qm_i x3), some (qm_i x4), some (qm_r 0 0 b3)], [qm_i x4], h4)) rfl ?_
      refine qm_Ret.eq (t := 41) (e := 31) rfl (fun hc => ?_) (fun hc => ?_)
      · rw [if_pos hc] at ho
        refine qm_Ret.sts 3 (f' := (45, [some (qm_r 0 11 a0), some (qm_i x1), some (qm_i x2), some (qm_i x3), some (qm_i x4), some (qm_r 0 0 b3)], [qm_i x3, qm_i x2, qm_r 0 0 b3], h4)) rfl ?_
        obtain ⟨r7, h6, hr, ho⟩ := qm_b2e ho
        refine qm_Ret.call (X := wX0_gapFor [qm_r 0 0 b3, qm_i x2, qm_i x3] h4) (o1 := (some (qm_i r7), h6)) (qm_mp (G := qm_Gi) hr) rfl ?_
        show qm_Ret _ (48, [some (qm_r 0 11 a0), some (qm_i x1), some (qm_i x2), some (qm_i x3), some (qm_i x4), some (qm_r 0 0 b3)], [qm_i r7], h6) _
        cases ho
        exact qm_Ret.ret 1 rfl
      · rw [if_neg hc] at ho
        refine qm_Ret.sts 3 (f' := (35, [some (qm_r 0 11 a0), some (qm_i x1), some (qm_i x2), some (qm_i x3), some (qm_i x4), some (qm_r 0 0 b3)], [qm_i x3, qm_i x2, qm_r 0 0 b3], h4)) rfl ?_
        obtain ⟨r9, h8, hr, ho⟩ := qm_b2e ho
        refine qm_Ret.call (X := wX0_holdOf [qm_r 0 0 b3, qm_i x2, qm_i x3] h4) (o1 := (some (qm_i r9), h8)) (qm_mp (G := qm_Gi) hr) rfl ?_
        show qm_Ret _ (38, [some (qm_r 0 11 a0), some (qm_i x1), some (qm_i x2), some (qm_i x3), some (qm_i x4), some (qm_r 0 0 b3)], [qm_i r9], h8) _
        cases ho
        exact qm_Ret.ret 2 rfl
theorem cX11_slips_ok : ∀ q ∈ ([(93, 0, 2, wX9_basketAt), (123, 2, 2, wX11_isSize), (131, 0, 3, wX0_gapFor), (127, 0, 3, wX0_holdOf)] : List (Nat × Nat × Nat × qm_C)), qm_CallOK RX11 5 119 q.2.1 q.1 q.2.2.1 q.2.2.2 := List.forall_mem_cons.mpr ⟨Or.inl ⟨yX9_basketAt, cX9_basketAt, 2, (some (.object "WillowLaw$Basket")), 0, 0, _, sX9_basketAt, ⟨by decide, by decide⟩, ⟨jX9_basketAt, kRX11_93, uRX9⟩, ⟨by decide, by decide, rfl⟩, Or.inl ⟨rfl, rfl, iX9_basketAt, recvX9_basketAt⟩⟩, List.forall_mem_cons.mpr ⟨Or.inl ⟨yX11_isSize, cX11_isSize, 2, (some .boolean), 0, 0, _, sX11_isSize, ⟨by decide, by decide⟩, ⟨jX11_isSize, kRX11_123, uRX11⟩, ⟨by decide, by decide, rfl⟩, Or.inr (Or.inl ⟨rfl, rfl, iX11_isSize⟩)⟩, List.forall_mem_cons.mpr ⟨Or.inl ⟨yX0_gapFor, cX0_gapFor, 3, (some .int), 2, 58, _, sX0_gapFor, ⟨by decide, by decide⟩, ⟨jX0_gapFor, kRX11_131, uRX0⟩, ⟨by decide, by decide, rfl⟩, Or.inl ⟨rfl, rfl, iX0_gapFor, recvX0_gapFor⟩⟩, List.forall_mem_cons.mpr ⟨Or.inl ⟨yX0_holdOf, cX0_holdOf, 4, (some .int), 4, 96, _, sX0_holdOf, ⟨by decide, by decide⟩, ⟨jX0_holdOf, kRX11_127, uRX0⟩, ⟨by decide, by decide, rfl⟩, Or.inl ⟨rfl, rfl, iX0_holdOf, recvX0_holdOf⟩⟩, fun _ h => absurd h List.not_mem_nil⟩⟩⟩⟩
theorem sX11_slips : qm_Snd yX11_slips cX11_slips 6 (some .int) 5 119 wX11_slips := qm_met (fld := fun k => qm_lk k pfRX11) (con := fun k => qm_lk k pcRX11) (call := fun k => qm_lk k [(93, 0, 2, wX9_basketAt), (123, 2, 2, wX11_isSize), (131, 0, 3, wX0_gapFor), (127, 0, 3, wX0_holdOf)]) (tab := qm_tab aX11_slips) (plainFor_of_name (by decide)) (qm_fld_ok pfRX11_ok) (qm_con_ok pcRX11_ok) (fun idx kd n f hc => cX11_slips_ok (idx, kd, n, f) (qm_lk_mem hc)) (qm_tab_ok aX11_slips_ok) (fun vs h o hw => by
  unfold wX11_slips at hw
  split at hw
  · obtain ⟨r, hr, rfl⟩ := Option.map_eq_some_iff.mp hw
    exact ⟨Nat.le_of_ble_eq_true rfl, rX11_slips_0 (hr)⟩
  · cases hw)
theorem recvX11_slips : ∀ vs h o, wX11_slips vs h = some o → ∃ ci a rest, vs = qm_r 0 ci a :: rest ∧ qm_R ci = yX11_slips.cls := by
  intro vs h o hw
  unfold wX11_slips at hw
  split at hw
  · exact ⟨_, _, _, rfl, rfl⟩
  · cases hw
-- RX11 opens(IIIZ)I
theorem jX11_opens : Jvm.Cond.code yX11_opens cX11_opens 7 (some .int) ∈ qm_all := List.mem_filter.mpr ⟨by decide +kernel, rfl⟩
theorem iX11_opens : Jvm.Cond.instanceMethod yX11_opens ∈ qm_all ∧ Jvm.Cond.selects yX11_opens.cls yX11_opens yX11_opens ∈ qm_all := ⟨List.mem_filter.mpr ⟨by decide +kernel, rfl⟩, List.mem_filter.mpr ⟨by decide +kernel, rfl⟩⟩
def wX11_opens : qm_C := fun vs h => match vs with
  | [.inr (.inr (some (0, 11, p0))), .inl p1, .inl p2, .inl p3, .inl p4] => (qX11_opens p0 p1 p2 p3 p4 h).map qm_Gi
  | _ => none
def aX11_opens : List (Option (Instr × Nat)) := [some (.aload_n 0, 1), some (.getfield 10, 3), none, none, some (.iload_n 1, 1), some (.invokevirtual 93, 3), none, none, some (.astore 5, 2), none, some (.aload 5, 2), none, some (.ifnull 11, 3), none, none, some (.iload_n 2, 1), some (.iload_n 3, 1), some (.invokestatic 123, 3), none, none, some (.ifCond .ne 5, 3), none, none, some (.iconst (-1), 1), some (.ireturn, 1), some (.aload 5, 2), none, some (.iload_n 2, 1), some (.iload_n 3, 1), some (.invokevirtual 134, 3), none, none, some (.istore 6, 2), none, some (.iload 4, 2), none, some (.ifCond .ne 9, 3), none, none, some (.iload 6, 2), none, some (.iconst (-1), 1), some (.if_icmp .ne 8, 3), none, none, some (.iload 6, 2), none, some (.goto 12, 3), none, none, some (.aload 5, 2), none, some (.iload 6, 2), none, some (.iload_n 2, 1), some (.iload_n 3, 1), some (.invokevirtual 137, 3), none, none, some (.ireturn, 1)]
theorem aX11_opens_ok : qm_tabok cX11_opens aX11_opens = true := by decide +kernel
def mX11_opens : qm_M := ((some .int), (fun k => qm_lk k pfRX11), (fun k => qm_lk k pcRX11), (fun k => qm_lk k [(93, 0, 2, wX9_basketAt), (123, 2, 2, wX11_isSize), (134, 0, 3, wX0_likeliest), (137, 0, 4, wX0_shutIn)]), qm_tab aX11_opens)
set_option maxRecDepth 20000 in
set_option maxHeartbeats 2000000 in
theorem rX11_opens_0   {a0 : Nat} {x1 : Int32} {x2 : Int32} {x3 : Int32} {x4 : Int32} {h : qm_H} {r : Int32 × qm_H} (ho : qX11_opens  a0 x1 x2 x3 x4 h = some r) : qm_Ret mX11_opens (0, [some (qm_r 0 11 a0), some (qm_i x1), some (qm_i x2), some (qm_i x3), some (qm_i x4), none, none], [], h) (qm_Gi r) := by
  unfold qX11_opens at ho
  refine qm_Ret.sts 3 (f' := (5, [some (qm_r 0 11 a0), some (qm_i x1), some (qm_i x2), some (qm_i x3), some (qm_i x4), none, none], [qm_i x1, qm_r 0 9 (a0 + 1)], h)) rfl ?_
  obtain ⟨r2, h1, hr, ho⟩ := qm_b2e ho
  refine qm_Ret.call (X := wX9_basketAt [qm_r 0 9 (a0 + 1), qm_i x1] h) (o1 := (some (qm_oo 0 r2), h1)) (qm_mp (G := (qm_Go 0)) hr) rfl ?_
  show qm_Ret _ (8, [some (qm_r 0 11 a0), some (qm_i x1), some (qm_i x2), some (qm_i x3), some (qm_i x4), none, none], [qm_oo 0 r2], h1) _
  refine qm_Ret.sts 2 (f' := (12, [some (qm_r 0 11 a0), some (qm_i x1), some (qm_i x2), some (qm_i x3), some (qm_i x4), some (qm_oo 0 r2), none], [qm_oo 0 r2], h1)) rfl ?_
  cases r2 with
  | none =>
    simp only [qm_om] at ho
    cases ho
    exact qm_Ret.ret 3 rfl
  | some b3 =>
    simp only [qm_om] at ho
    refine qm_Ret.sts 3 (f' := (17, [some (qm_r 0 11 a0), some (qm_i x1), some (qm_i x2), some (qm_i x3), some (qm_i x4), some (qm_r 0 0 b3), none], [qm_i x3, qm_i x2], h1)) rfl ?_
    obtain ⟨r5, h4, hr, ho⟩ := qm_b2e ho
    refine qm_Ret.call (X := wX11_isSize [qm_i x2, qm_i x3] h1) (o1 := (some (qm_i r5), h4)) (qm_mp (G := qm_Gi) hr) rfl ?_
    show qm_Ret _ (20, [some (qm_r 0 11 a0), some (qm_i x1), some (qm_i x2), some (qm_i x3), some (qm_i x4), some (qm_r 0 0 b3), none], [qm_i r5], h4) _
    refine qm_Ret.ne (t := 25) (e := 23) rfl (fun hc => ?_) (fun hc => ?_)
    · rw [if_pos hc] at ho
      cases ho
      exact qm_Ret.ret 2 rfl
    · rw [if_neg hc] at ho
      refine qm_Ret.sts 3 (f' := (29, [some (qm_r 0 11 a0), some (qm_i x1), some (qm_i x2), some (qm_i x3), some (qm_i x4), some (qm_r 0 0 b3), none], [qm_i x3, qm_i x2, qm_r 0 0 b3], h4)) rfl ?_
      obtain ⟨r7, h6, hr, ho⟩ := qm_b2e ho
      refine qm_Ret.call (X := wX0_likeliest [qm_r 0 0 b3, qm_i x2, qm_i x3] h4) (o1 := (some (qm_i r7), h6)) (qm_mp (G := qm_Gi) hr) rfl ?_
      show qm_Ret _ (32, [some (qm_r 0 11 a0), some (qm_i x1), some (qm_i x2), some (qm_i x3), some (qm_i x4), some (qm_r 0 0 b3), none], [qm_i r7], h6) _
      refine qm_Ret.sts 2 (f' := (36, [some (qm_r 0 11 a0), some (qm_i x1), some (qm_i x2), some (qm_i x3), some (qm_i x4), some (qm_r 0 0 b3), some (qm_i r7)], [qm_i x4], h6)) rfl ?_
      refine qm_Ret.ne (t := 45) (e := 39) rfl (fun hc => ?_) (fun hc => ?_)
      · rw [if_pos hc] at ho
        refine qm_Ret.sts 2 (f' := (42, [some (qm_r 0 11 a0), some (qm_i x1), some (qm_i x2), some (qm_i x3), some (qm_i x4), some (qm_r 0 0 b3), some (qm_i r7)], [qm_i (-1 : Int32), qm_i r7], h6)) rfl ?_
        refine qm_Ret.ne (t := 50) (e := 45) rfl (fun hc => ?_) (fun hc => ?_)
        · rw [if_pos hc] at ho
          cases ho
          exact qm_Ret.ret 3 rfl
        · rw [if_neg hc] at ho
          refine qm_Ret.sts 4 (f' := (56, [some (qm_r 0 11 a0), some (qm_i x1), some (qm_i x2), some (qm_i x3), some (qm_i x4), some (qm_r 0 0 b3), some (qm_i r7)], [qm_i x3, qm_i x2, qm_i r7, qm_r 0 0 b3], h6)) rfl ?_
          obtain ⟨r9, h8, hr, ho⟩ := qm_b2e ho
          refine qm_Ret.call (X := wX0_shutIn [qm_r 0 0 b3, qm_i r7, qm_i x2, qm_i x3] h6) (o1 := (some (qm_i r9), h8)) (qm_mp (G := qm_Gi) hr) rfl ?_
          show qm_Ret _ (59, [some (qm_r 0 11 a0), some (qm_i x1), some (qm_i x2), some (qm_i x3), some (qm_i x4), some (qm_r 0 0 b3), some (qm_i r7)], [qm_i r9], h8) _
          cases ho
          exact qm_Ret.ret 1 rfl
      · rw [if_neg hc] at ho
        cases ho
        exact qm_Ret.ret 3 rfl
theorem cX11_opens_ok : ∀ q ∈ ([(93, 0, 2, wX9_basketAt), (123, 2, 2, wX11_isSize), (134, 0, 3, wX0_likeliest), (137, 0, 4, wX0_shutIn)] : List (Nat × Nat × Nat × qm_C)), qm_CallOK RX11 3 79 q.2.1 q.1 q.2.2.1 q.2.2.2 := List.forall_mem_cons.mpr ⟨Or.inl ⟨yX9_basketAt, cX9_basketAt, 2, (some (.object "WillowLaw$Basket")), 0, 0, _, sX9_basketAt, ⟨by decide, by decide⟩, ⟨jX9_basketAt, kRX11_93, uRX9⟩, ⟨by decide, by decide, rfl⟩, Or.inl ⟨rfl, rfl, iX9_basketAt, recvX9_basketAt⟩⟩, List.forall_mem_cons.mpr ⟨Or.inl ⟨yX11_isSize, cX11_isSize, 2, (some .boolean), 0, 0, _, sX11_isSize, ⟨by decide, by decide⟩, ⟨jX11_isSize, kRX11_123, uRX11⟩, ⟨by decide, by decide, rfl⟩, Or.inr (Or.inl ⟨rfl, rfl, iX11_isSize⟩)⟩, List.forall_mem_cons.mpr ⟨Or.inl ⟨yX0_likeliest, cX0_likeliest, 9, (some .int), 2, 51, _, sX0_likeliest, ⟨by decide, by decide⟩, ⟨jX0_likeliest, kRX11_134, uRX0⟩, ⟨by decide, by decide, rfl⟩, Or.inl ⟨rfl, rfl, iX0_likeliest, recvX0_likeliest⟩⟩, List.forall_mem_cons.mpr ⟨Or.inl ⟨yX0_shutIn, cX0_shutIn, 4, (some .int), 1, 28, _, sX0_shutIn, ⟨by decide, by decide⟩, ⟨jX0_shutIn, kRX11_137, uRX0⟩, ⟨by decide, by decide, rfl⟩, Or.inl ⟨rfl, rfl, iX0_shutIn, recvX0_shutIn⟩⟩, fun _ h => absurd h List.not_mem_nil⟩⟩⟩⟩
theorem sX11_opens : qm_Snd yX11_opens cX11_opens 7 (some .int) 3 79 wX11_opens := qm_met (fld := fun k => qm_lk k pfRX11) (con := fun k => qm_lk k pcRX11) (call := fun k => qm_lk k [(93, 0, 2, wX9_basketAt), (123, 2, 2, wX11_isSize), (134, 0, 3, wX0_likeliest), (137, 0, 4, wX0_shutIn)]) (tab := qm_tab aX11_opens) (plainFor_of_name (by decide)) (qm_fld_ok pfRX11_ok) (qm_con_ok pcRX11_ok) (fun idx kd n f hc => cX11_opens_ok (idx, kd, n, f) (qm_lk_mem hc)) (qm_tab_ok aX11_opens_ok) (fun vs h o hw => by
  unfold wX11_opens at hw
  split at hw
  · obtain ⟨r, hr, rfl⟩ := Option.map_eq_some_iff.mp hw
    exact ⟨Nat.le_of_ble_eq_true rfl, rX11_opens_0 (hr)⟩
  · cases hw)
theorem recvX11_opens : ∀ vs h o, wX11_opens vs h = some o → ∃ ci a rest, vs = qm_r 0 ci a :: rest ∧ qm_R ci = yX11_opens.cls := by
  intro vs h o hw
  unfold wX11_opens at hw
  split at hw
  · exact ⟨_, _, _, rfl, rfl⟩
  · cases hw
-- RX11 closes(IIII)I
theorem jX11_closes : Jvm.Cond.code yX11_closes cX11_closes 7 (some .int) ∈ qm_all := List.mem_filter.mpr ⟨by decide +kernel, rfl⟩
theorem iX11_closes : Jvm.Cond.instanceMethod yX11_closes ∈ qm_all ∧ Jvm.Cond.selects yX11_closes.cls yX11_closes yX11_closes ∈ qm_all := ⟨List.mem_filter.mpr ⟨by decide +kernel, rfl⟩, List.mem_filter.mpr ⟨by decide +kernel, rfl⟩⟩
def wX11_closes : qm_C := fun vs h => match vs with
  | [.inr (.inr (some (0, 11, p0))), .inl p1, .inl p2, .inl p3, .inl p4] => (qX11_closes p0 p1 p2 p3 p4 h).map qm_Gi
  | _ => none
def aX11_closes : List (Option (Instr × Nat)) := [some (.aload_n 0, 1), some (.getfield 10, 3), none, none, some (.iload_n 1, 1), some (.invokevirtual 93, 3), none, none, some (.astore 5, 2), none, some (.aload 5, 2), none, some (.ifnull 11, 3), none, none, some (.iload_n 2, 1), some (.iload_n 3, 1), some (.invokestatic 123, 3), none, none, some (.ifCond .ne 5, 3), none, none, some (.iconst (-1), 1), some (.ireturn, 1), some (.aload_n 0, 1), some (.getfield 43, 3), none, none, some (.aload 5, 2), none, some (.iload_n 2, 1), some (.iload_n 3, 1), some (.invokevirtual 141, 3), none, none, some (.istore 6, 2), none, some (.iload 4, 2), none, some (.iconst (-1), 1), some (.if_icmp .ne 6, 3), none, none, some (.iload 6, 2), none, some (.ireturn, 1), some (.iload 4, 2), none, some (.ifCond .lt 16, 3), none, none, some (.iload 4, 2), none, some (.iload 6, 2), none, some (.if_icmp .ge 9, 3), none, none, some (.iload 4, 2), none, some (.iconst 3, 1), some (.if_icmp .lt 7, 3), none, none, some (.iconst (-1), 1), some (.goto 18, 3), none, none, some (.aload 5, 2), none, some (.aload_n 0, 1), some (.getfield 43, 3), none, none, some (.getfield 145, 3), none, none, some (.iload 4, 2), none, some (.iaload, 1), some (.invokevirtual 148, 3), none, none, some (.ireturn, 1)]
theorem aX11_closes_ok : qm_tabok cX11_closes aX11_closes = true := by decide +kernel
def mX11_closes : qm_M := ((some .int), (fun k => qm_lk k pfRX11), (fun k => qm_lk k pcRX11), (fun k => qm_lk k [(93, 0, 2, wX9_basketAt), (123, 2, 2, wX11_isSize), (141, 0, 4, wX7_fewestClosed), (148, 0, 2, wX0_strokeOf)]), qm_tab aX11_closes)
set_option maxRecDepth 20000 in
set_option maxHeartbeats 2000000 in
theorem rX11_closes_0   {a0 : Nat} {x1 : Int32} {x2 : Int32} {x3 : Int32} {x4 : Int32} {h : qm_H} {r : Int32 × qm_H} (ho : qX11_closes  a0 x1 x2 x3 x4 h = some r) : qm_Ret mX11_closes (0, [some (qm_r 0 11 a0), some (qm_i x1), some (qm_i x2), some (qm_i x3), some (qm_i x4), none, none], [], h) (qm_Gi r) := by
  unfold qX11_closes at ho
  refine qm_Ret.sts 3 (f' := (5, [some (qm_r 0 11 a0), some (qm_i x1), some (qm_i x2), some (qm_i x3), some (qm_i x4), none, none], [qm_i x1, qm_r 0 9 (a0 + 1)], h)) rfl ?_
  obtain ⟨r2, h1, hr, ho⟩ := qm_b2e ho
  refine qm_Ret.call (X := wX9_basketAt [qm_r 0 9 (a0 + 1), qm_i x1] h) (o1 := (some (qm_oo 0 r2), h1)) (qm_mp (G := (qm_Go 0)) hr) rfl ?_
  show qm_Ret _ (8, [some (qm_r 0 11 a0), some (qm_i x1), some (qm_i x2), some (qm_i x3), some (qm_i x4), none, none], [qm_oo 0 r2], h1) _
  refine qm_Ret.sts 2 (f' := (12, [some (qm_r 0 11 a0), some (qm_i x1), some (qm_i x2), some (qm_i x3), some (qm_i x4), some (qm_oo 0 r2), none], [qm_oo 0 r2], h1)) rfl ?_
  cases r2 with
  | none =>
    simp only [qm_om] at ho
    cases ho
    exact qm_Ret.ret 3 rfl
  | some b3 =>
    simp only [qm_om] at ho
    refine qm_Ret.sts 3 (f' := (17, [some (qm_r 0 11 a0), some (qm_i x1), some (qm_i x2), some (qm_i x3), some (qm_i x4), some (qm_r 0 0 b3), none], [qm_i x3, qm_i x2], h1)) rfl ?_
    obtain ⟨r5, h4, hr, ho⟩ := qm_b2e ho
    refine qm_Ret.call (X := wX11_isSize [qm_i x2, qm_i x3] h1) (o1 := (some (qm_i r5), h4)) (qm_mp (G := qm_Gi) hr) rfl ?_
    show qm_Ret _ (20, [some (qm_r 0 11 a0), some (qm_i x1), some (qm_i x2), some (qm_i x3), some (qm_i x4), some (qm_r 0 0 b3), none], [qm_i r5], h4) _
    refine qm_Ret.ne (t := 25) (e := 23) rfl (fun hc => ?_) (fun hc => ?_)
    · rw [if_pos hc] at ho
      cases ho
      exact qm_Ret.ret 2 rfl
    · rw [if_neg hc] at ho
      refine qm_Ret.sts 5 (f' := (33, [some (qm_r 0 11 a0), some (qm_i x1), some (qm_i x2), some (qm_i x3), some (qm_i x4), some (qm_r 0 0 b3), none], [qm_i x3, qm_i x2, qm_r 0 0 b3, qm_r 0 7 (a0 + 49)], h4)) rfl ?_
      obtain ⟨r7, h6, hr, ho⟩ := qm_b2e ho
      refine qm_Ret.call (X := wX7_fewestClosed [qm_r 0 7 (a0 + 49), qm_r 0 0 b3, qm_i x2, qm_i x3] h4) (o1 := (some (qm_i r7), h6)) (qm_mp (G := qm_Gi) hr) rfl ?_
      show qm_Ret _ (36, [some (qm_r 0 11 a0), some (qm_i x1), some (qm_i x2), some (qm_i x3), some (qm_i x4), some (qm_r 0 0 b3), none], [qm_i r7], h6) _
      refine qm_Ret.sts 3 (f' := (41, [some (qm_r 0 11 a0), some (qm_i x1), some (qm_i x2), some (qm_i x3), some (qm_i x4), some (qm_r 0 0 b3), some (qm_i r7)], [qm_i (-1 : Int32), qm_i x4], h6)) rfl ?_
      refine qm_Ret.ne (t := 47) (e := 44) rfl (fun hc => ?_) (fun hc => ?_)
      · rw [if_pos hc] at ho
        cases ho
        exact qm_Ret.ret 2 rfl
      · rw [if_neg hc] at ho
        refine qm_Ret.sts 1 (f' := (49, [some (qm_r 0 11 a0), some (qm_i x1), some (qm_i x2), some (qm_i x3), some (qm_i x4), some (qm_r 0 0 b3), some (qm_i r7)], [qm_i x4], h6)) rfl ?_
        refine qm_Ret.lt (t := 65) (e := 52) rfl (fun hc => ?_) (fun hc => ?_)
        · rw [if_pos hc] at ho
          cases ho
          exact qm_Ret.ret 3 rfl
        · rw [if_neg hc] at ho
          refine qm_Ret.sts 2 (f' := (56, [some (qm_r 0 11 a0), some (qm_i x1), some (qm_i x2), some (qm_i x3), some (qm_i x4), some (qm_r 0 0 b3), some (qm_i r7)], [qm_i r7, qm_i x4], h6)) rfl ?_
          refine qm_Ret.ge (t := 65) (e := 59) rfl (fun hc => ?_) (fun hc => ?_)
          · rw [if_pos hc] at ho
            refine qm_Ret.sts 2 (f' := (62, [some (qm_r 0 11 a0), some (qm_i x1), some (qm_i x2), some (qm_i x3), some (qm_i x4), some (qm_r 0 0 b3), some (qm_i r7)], [qm_i (3 : Int32), qm_i x4], h6)) rfl ?_
            refine qm_Ret.lt (t := 69) (e := 65) rfl (fun hc => ?_) (fun hc => ?_)
            · rw [if_pos hc] at ho
              refine qm_Ret.sts 5 (f' := (80, [some (qm_r 0 11 a0), some (qm_i x1), some (qm_i x2), some (qm_i x3), some (qm_i x4), some (qm_r 0 0 b3), some (qm_i r7)], [qm_i x4, qm_r 1 3 ((a0 + 49) + 2), qm_r 0 0 b3], h6)) rfl ?_
              obtain ⟨hg, ho⟩ := qm_ifn ho
              refine qm_Ret.gn (f1 := (81, [some (qm_r 0 11 a0), some (qm_i x1), some (qm_i x2), some (qm_i x3), some (qm_i x4), some (qm_r 0 0 b3), some (qm_i r7)], [qm_i (h6.1 ((a0 + 49) + 2) (x4).toNatClampNeg), qm_r 0 0 b3], h6)) hg rfl ?_
              obtain ⟨r9, h8, hr, ho⟩ := qm_b2e ho
              refine qm_Ret.call (X := wX0_strokeOf [qm_r 0 0 b3, qm_i (h6.1 ((a0 + 49) + 2) (x4).toNatClampNeg)] h6) (o1 := (some (qm_i r9), h8)) (qm_mp (G := qm_Gi) hr) rfl ?_
              show qm_Ret _ (84, [some (qm_r 0 11 a0), some (qm_i x1), some (qm_i x2), some (qm_i x3), some (qm_i x4), some (qm_r 0 0 b3), some (qm_i r7)], [qm_i r9], h8) _
              cases ho
              exact qm_Ret.ret 1 rfl
            · rw [if_neg hc] at ho
              cases ho
              exact qm_Ret.ret 3 rfl
          · rw [if_neg hc] at ho
            cases ho
            exact qm_Ret.ret 3 rfl
theorem cX11_closes_ok : ∀ q ∈ ([(93, 0, 2, wX9_basketAt), (123, 2, 2, wX11_isSize), (141, 0, 4, wX7_fewestClosed), (148, 0, 2, wX0_strokeOf)] : List (Nat × Nat × Nat × qm_C)), qm_CallOK RX11 5 115 q.2.1 q.1 q.2.2.1 q.2.2.2 := List.forall_mem_cons.mpr ⟨Or.inl ⟨yX9_basketAt, cX9_basketAt, 2, (some (.object "WillowLaw$Basket")), 0, 0, _, sX9_basketAt, ⟨by decide, by decide⟩, ⟨jX9_basketAt, kRX11_93, uRX9⟩, ⟨by decide, by decide, rfl⟩, Or.inl ⟨rfl, rfl, iX9_basketAt, recvX9_basketAt⟩⟩, List.forall_mem_cons.mpr ⟨Or.inl ⟨yX11_isSize, cX11_isSize, 2, (some .boolean), 0, 0, _, sX11_isSize, ⟨by decide, by decide⟩, ⟨jX11_isSize, kRX11_123, uRX11⟩, ⟨by decide, by decide, rfl⟩, Or.inr (Or.inl ⟨rfl, rfl, iX11_isSize⟩)⟩, List.forall_mem_cons.mpr ⟨Or.inl ⟨yX7_fewestClosed, cX7_fewestClosed, 5, (some .int), 4, 91, _, sX7_fewestClosed, ⟨by decide, by decide⟩, ⟨jX7_fewestClosed, kRX11_141, uRX7⟩, ⟨by decide, by decide, rfl⟩, Or.inl ⟨rfl, rfl, iX7_fewestClosed, recvX7_fewestClosed⟩⟩, List.forall_mem_cons.mpr ⟨Or.inl ⟨yX0_strokeOf, cX0_strokeOf, 2, (some .int), 0, 0, _, sX0_strokeOf, ⟨by decide, by decide⟩, ⟨jX0_strokeOf, kRX11_148, uRX0⟩, ⟨by decide, by decide, rfl⟩, Or.inl ⟨rfl, rfl, iX0_strokeOf, recvX0_strokeOf⟩⟩, fun _ h => absurd h List.not_mem_nil⟩⟩⟩⟩
theorem sX11_closes : qm_Snd yX11_closes cX11_closes 7 (some .int) 5 115 wX11_closes := qm_met (fld := fun k => qm_lk k pfRX11) (con := fun k => qm_lk k pcRX11) (call := fun k => qm_lk k [(93, 0, 2, wX9_basketAt), (123, 2, 2, wX11_isSize), (141, 0, 4, wX7_fewestClosed), (148, 0, 2, wX0_strokeOf)]) (tab := qm_tab aX11_closes) (plainFor_of_name (by decide)) (qm_fld_ok pfRX11_ok) (qm_con_ok pcRX11_ok) (fun idx kd n f hc => cX11_closes_ok (idx, kd, n, f) (qm_lk_mem hc)) (qm_tab_ok aX11_closes_ok) (fun vs h o hw => by
  unfold wX11_closes at hw
  split at hw
  · obtain ⟨r, hr, rfl⟩ := Option.map_eq_some_iff.mp hw
    exact ⟨Nat.le_of_ble_eq_true rfl, rX11_closes_0 (hr)⟩
  · cases hw)
theorem recvX11_closes : ∀ vs h o, wX11_closes vs h = some o → ∃ ci a rest, vs = qm_r 0 ci a :: rest ∧ qm_R ci = yX11_closes.cls := by
  intro vs h o hw
  unfold wX11_closes at hw
  split at hw
  · exact ⟨_, _, _, rfl, rfl⟩
  · cases hw
-- RX11 sieve(IIIII)I
theorem jX11_sieve : Jvm.Cond.code yX11_sieve cX11_sieve 10 (some .int) ∈ qm_all := List.mem_filter.mpr ⟨by decide +kernel, rfl⟩
theorem iX11_sieve : Jvm.Cond.instanceMethod yX11_sieve ∈ qm_all ∧ Jvm.Cond.selects yX11_sieve.cls yX11_sieve yX11_sieve ∈ qm_all := ⟨List.mem_filter.mpr ⟨by decide +kernel, rfl⟩, List.mem_filter.mpr ⟨by decide +kernel, rfl⟩⟩
def wX11_sieve : qm_C := fun vs h => match vs with
  | [.inr (.inr (some (0, 11, p0))), .inl p1, .inl p2, .inl p3, .inl p4, .inl p5] => (qX11_sieve p0 p1 p2 p3 p4 p5 h).map qm_Gi
  | _ => none
def aX11_sieve : List (Option (Instr × Nat)) := [some (.aload_n 0, 1), some (.getfield 10, 3), none, none, some (.iload_n 1, 1), some (.invokevirtual 93, 3), none, none, some (.astore 6, 2), none, some (.aload 6, 2), none, some (.ifnull 21, 3), none, none, some (.iload_n 2, 1), some (.iload_n 3, 1), some (.invokestatic 123, 3), none, none, some (.ifCond .eq 13, 3), none, none, some (.iload 4, 2), none, some (.iload 5, 2), none, some (.invokestatic 123, 3), none, none, some (.ifCond .ne 5, 3), none, none, some (.iconst (-1), 1), some (.ireturn, 1), some (.iconst (-1), 1), some (.istore 7, 2), none, some (.iconst 0, 1), some (.istore 8, 2), none, some (.iload 8, 2), none, some (.iconst 1, 1), some (.aload 6, 2), none, some (.getfield 102, 3), none, none, some (.ishl, 1), some (.if_icmp .ge 72, 3), none, none, some (.iload 7, 2), none, some (.iconst (-1), 1), some (.if_icmp .eq 16, 3), none, none, some (.iload 8, 2), none, some (.invokestatic 151, 3), none, none, some (.iload 7, 2), none, some (.invokestatic 151, 3), none, none, some (.if_icmp .ge 7, 3), none, none, some (.iconst 1, 1), some (.goto 4, 3), none, none, some (.iconst 0, 1), some (.istore 9, 2), none, some (.iload 9, 2), none, some (.ifCond .eq 35, 3), none, none, some (.aload 6, 2), none, some (.iload 8, 2), none, some (.iload_n 2, 1), some (.iload_n 3, 1), some (.invokevirtual 155, 3), none, none, some (.iconst (-1), 1), some (.if_icmp .eq 22, 3), none, none, some (.aload 6, 2), none, some (.iload 8, 2), none, some (.iload 4, 2), none, some (.iload 5, 2), none, some (.invokevirtual 155, 3), none, none, some (.iconst (-1), 1), some (.if_icmp .ne 7, 3), none, none, some (.iload 8, 2), none, some (.istore 7, 2), none, some (.iinc 8 1, 3), none, none, some (.goto (-78), 3), none, none, some (.iload 7, 2), none, some (.ireturn, 1)]
theorem aX11_sieve_ok : qm_tabok cX11_sieve aX11_sieve = true := by decide +kernel
def mX11_sieve : qm_M := ((some .int), (fun k => qm_lk k pfRX11), (fun k => qm_lk k pcRX11), (fun k => qm_lk k [(155, 0, 4, wX0_gapWithout), (151, 2, 1, wJ6_bitCount_0f7a4), (93, 0, 2, wX9_basketAt), (123, 2, 2, wX11_isSize)]), qm_tab aX11_sieve)
set_option maxRecDepth 20000 in
set_option maxHeartbeats 2000000 in
theorem rX11_sieve_77 {K41 : Int32 → Int32 → Int32 → Int32 → Nat → Int32 → Int32 → qm_H → Option (Int32 × qm_H)} (H41 : ∀ {x2 : Int32} {x3 : Int32} {x4 : Int32} {x5 : Int32} {a6 : Nat} {x7 : Int32} {x8 : Int32} {ad0 : Nat} {xd1 : Int32} {d9 : Option qm_V} {h : qm_H} {r : Int32 × qm_H}, K41 x2 x3 x4 x5 a6 x7 x8 h = some r → qm_Ret mX11_sieve (41, [some (qm_r 0 11 ad0), some (qm_i xd1), some (qm_i x2), some (qm_i x3), some (qm_i x4), some (qm_i x5), some (qm_r 0 0 a6), some (qm_i x7), some (qm_i x8), d9], [], h) (qm_Gi r)) {x2 : Int32} {x3 : Int32} {x4 : Int32} {x5 : Int32} {a6 : Nat} {x7 : Int32} {x8 : Int32} {xs0 : Int32} {ad0 : Nat} {xd1 : Int32} {d9 : Option qm_V} {h : qm_H} {r : Int32 × qm_H} (ho : qX11_sieve_77 K41 x2 x3 x4 x5 a6 x7 x8 xs0 h = some r) : qm_Ret mX11_sieve (77, [some (qm_r 0 11 ad0), some (qm_i xd1), some (qm_i x2), some (qm_i x3), some (qm_i x4), some (qm_i x5), some (qm_r 0 0 a6), some (qm_i x7), some (qm_i x8), d9], [qm_i xs0], h) (qm_Gi r) := by
  unfold qX11_sieve_77 at ho
  refine qm_Ret.sts 2 (f' := (81, [some (qm_r 0 11 ad0), some (qm_i xd1), some (qm_i x2), some (qm_i x3), some (qm_i x4), some (qm_i x5), some (qm_r 0 0 a6), some (qm_i x7), some (qm_i x8), some (qm_i xs0)], [qm_i xs0], h)) rfl ?_
  refine qm_Ret.eq (t := 116) (e := 84) rfl (fun hc => ?_) (fun hc => ?_)
  · rw [if_pos hc] at ho
    refine qm_Ret.sts 2 (f' := (41, [some (qm_r 0 11 ad0), some (qm_i xd1), some (qm_i x2), some (qm_i x3), some (qm_i x4), some (qm_i x5), some (qm_r 0 0 a6), some (qm_i x7), some (qm_i (x8 + (1 : Int32))), some (qm_i xs0)], [], h)) rfl ?_
    exact H41 ho
  · rw [if_neg hc] at ho
    refine qm_Ret.sts 4 (f' := (90, [some (qm_r 0 11 ad0), some (qm_i xd1), some (qm_i x2), some (qm_i x3), some (qm_i x4), some (qm_i x5), some (qm_r 0 0 a6), some (qm_i x7), some (qm_i x8), some (qm_i xs0)], [qm_i x3, qm_i x2, qm_i x8, qm_r 0 0 a6], h)) rfl ?_
    obtain ⟨r2, h1, hr, ho⟩ := qm_b2e ho
    refine qm_Ret.call (X := wX0_gapWithout [qm_r 0 0 a6, qm_i x8, qm_i x2, qm_i x3] h) (o1 := (some (qm_i r2), h1)) (qm_mp (G := qm_Gi) hr) rfl ?_
    show qm_Ret _ (93, [some (qm_r 0 11 ad0), some (qm_i xd1), some (qm_i x2), some (qm_i x3), some (qm_i x4), some (qm_i x5), some (qm_r 0 0 a6), some (qm_i x7), some (qm_i x8), some (qm_i xs0)], [qm_i r2], h1) _
    refine qm_Ret.sts 1 (f' := (94, [some (qm_r 0 11 ad0), some (qm_i xd1), some (qm_i x2), some (qm_i x3), some (qm_i x4), some (qm_i x5), some (qm_r 0 0 a6), some (qm_i x7), some (qm_i x8), some (qm_i xs0)], [qm_i (-1 : Int32), qm_i r2], h1)) rfl ?_
    refine qm_Ret.eq (t := 116) (e := 97) rfl (fun hc => ?_) (fun hc => ?_)
    · rw [if_pos hc] at ho
      refine qm_Ret.sts 2 (f' := (41, [some (qm_r 0 11 ad0), some (qm_i xd1), some (qm_i x2), some (qm_i x3), some (qm_i x4), some (qm_i x5), some (qm_r 0 0 a6), some (qm_i x7), some (qm_i (x8 + (1 : Int32))), some (qm_i xs0)], [], h1)) rfl ?_
      exact H41 ho
    · rw [if_neg hc] at ho
      refine qm_Ret.sts 4 (f' := (105, [some (qm_r 0 11 ad0), some (qm_i xd1), some (qm_i x2), some (qm_i x3), some (qm_i x4), some (qm_i x5), some (qm_r 0 0 a6), some (qm_i x7), some (qm_i x8), some (qm_i xs0)], [qm_i x5, qm_i x4, qm_i x8, qm_r 0 0 a6], h1)) rfl ?_
      obtain ⟨r4, h3, hr, ho⟩ := qm_b2e ho
      refine qm_Ret.call (X := wX0_gapWithout [qm_r 0 0 a6, qm_i x8, qm_i x4, qm_i x5] h1) (o1 := (some (qm_i r4), h3)) (qm_mp (G := qm_Gi) hr) rfl ?_
      show qm_Ret _ (108, [some (qm_r 0 11 ad0), some (qm_i xd1), some (qm_i x2), some (qm_i x3), some (qm_i x4), some (qm_i x5), some (qm_r 0 0 a6), some (qm_i x7), some (qm_i x8), some (qm_i xs0)], [qm_i r4], h3) _
      refine qm_Ret.sts 1 (f' := (109, [some (qm_r 0 11 ad0), some (qm_i xd1), some (qm_i x2), some (qm_i x3), some (qm_i x4), some (qm_i x5), some (qm_r 0 0 a6), some (qm_i x7), some (qm_i x8), some (qm_i xs0)], [qm_i (-1 : Int32), qm_i r4], h3)) rfl ?_
      refine qm_Ret.ne (t := 116) (e := 112) rfl (fun hc => ?_) (fun hc => ?_)
      · rw [if_pos hc] at ho
        refine qm_Ret.sts 4 (f' := (41, [some (qm_r 0 11 ad0), some (qm_i xd1), some (qm_i x2), some (qm_i x3), some (qm_i x4), some (qm_i x5), some (qm_r 0 0 a6), some (qm_i x8), some (qm_i (x8 + (1 : Int32))), some (qm_i xs0)], [], h3)) rfl ?_
        exact H41 ho
      · rw [if_neg hc] at ho
        refine qm_Ret.sts 2 (f' := (41, [some (qm_r 0 11 ad0), some (qm_i xd1), some (qm_i x2), some (qm_i x3), some (qm_i x4), some (qm_i x5), some (qm_r 0 0 a6), some (qm_i x7), some (qm_i (x8 + (1 : Int32))), some (qm_i xs0)], [], h3)) rfl ?_
        exact H41 ho
set_option maxRecDepth 20000 in
set_option maxHeartbeats 2000000 in
theorem rX11_sieve_41   : ∀ {fuel : Nat} {x2 : Int32} {x3 : Int32} {x4 : Int32} {x5 : Int32} {a6 : Nat} {x7 : Int32} {x8 : Int32} {ad0 : Nat} {xd1 : Int32} {d9 : Option qm_V} {h : qm_H} {r : Int32 × qm_H}, qX11_sieve_41  fuel x2 x3 x4 x5 a6 x7 x8 h = some r → qm_Ret mX11_sieve (41, [some (qm_r 0 11 ad0), some (qm_i xd1), some (qm_i x2), some (qm_i x3), some (qm_i x4), some (qm_i x5), some (qm_r 0 0 a6), some (qm_i x7), some (qm_i x8), d9], [], h) (qm_Gi r) := by
  intro fuel
  induction fuel with
  | zero => intros; rename_i ho; cases ho
  | succ n ih =>
    intro x2 x3 x4 x5 a6 x7 x8 ad0 xd1 d9 h r ho
    unfold qX11_sieve_41 at ho
    refine qm_Ret.sts 5 (f' := (50, [some (qm_r 0 11 ad0), some (qm_i xd1), some (qm_i x2), some (qm_i x3), some (qm_i x4), some (qm_i x5), some (qm_r 0 0 a6), some (qm_i x7), some (qm_i x8), d9], [qm_i (qm_ishl (1 : Int32) (h.1 a6 4)), qm_i x8], h)) rfl ?_
    refine qm_Ret.ge (t := 122) (e := 53) rfl (fun hc => ?_) (fun hc => ?_)
    · rw [if_pos hc] at ho
      refine qm_Ret.sts 2 (f' := (56, [some (qm_r 0 11 ad0), some (qm_i xd1), some (qm_i x2), some (qm_i x3), some (qm_i x4), some (qm_i x5), some (qm_r 0 0 a6), some (qm_i x7), some (qm_i x8), d9], [qm_i (-1 : Int32), qm_i x7], h)) rfl ?_
      refine qm_Ret.eq (t := 72) (e := 59) rfl (fun hc => ?_) (fun hc => ?_)
      · rw [if_pos hc] at ho
        refine qm_Ret.sts 2 (f' := (77, [some (qm_r 0 11 ad0), some (qm_i xd1), some (qm_i x2), some (qm_i x3), some (qm_i x4), some (qm_i x5), some (qm_r 0 0 a6), some (qm_i x7), some (qm_i x8), d9], [qm_i (1 : Int32)], h)) rfl ?_
        exact rX11_sieve_77 (ih) ho
      · rw [if_neg hc] at ho
        refine qm_Ret.sts 1 (f' := (61, [some (qm_r 0 11 ad0), some (qm_i xd1), some (qm_i x2), some (qm_i x3), some (qm_i x4), some (qm_i x5), some (qm_r 0 0 a6), some (qm_i x7), some (qm_i x8), d9], [qm_i x8], h)) rfl ?_
        obtain ⟨r2, h1, hr, ho⟩ := qm_b2e ho
        refine qm_Ret.call (X := wJ6_bitCount_0f7a4 [qm_i x8] h) (o1 := (some (qm_i r2), h1)) (qm_mp (G := qm_Gi) hr) rfl ?_
        show qm_Ret _ (64, [some (qm_r 0 11 ad0), some (qm_i xd1), some (qm_i x2), some (qm_i x3), some (qm_i x4), some (qm_i x5), some (qm_r 0 0 a6), some (qm_i x7), some (qm_i x8), d9], [qm_i r2], h1) _
        refine qm_Ret.sts 1 (f' := (66, [some (qm_r 0 11 ad0), some (qm_i xd1), some (qm_i x2), some (qm_i x3), some (qm_i x4), some (qm_i x5), some (qm_r 0 0 a6), some (qm_i x7), some (qm_i x8), d9], [qm_i x7, qm_i r2], h1)) rfl ?_
        obtain ⟨r4, h3, hr, ho⟩ := qm_b2e ho
        refine qm_Ret.call (X := wJ6_bitCount_0f7a4 [qm_i x7] h1) (o1 := (some (qm_i r4), h3)) (qm_mp (G := qm_Gi) hr) rfl ?_
        show qm_Ret _ (69, [some (qm_r 0 11 ad0), some (qm_i xd1), some (qm_i x2), some (qm_i x3), some (qm_i x4), some (qm_i x5), some (qm_r 0 0 a6), some (qm_i x7), some (qm_i x8), d9], [qm_i r4, qm_i r2], h3) _
        refine qm_Ret.ge (t := 76) (e := 72) rfl (fun hc => ?_) (fun hc => ?_)
        · rw [if_pos hc] at ho
          refine qm_Ret.sts 2 (f' := (77, [some (qm_r 0 11 ad0), some (qm_i xd1), some (qm_i x2), some (qm_i x3), some (qm_i x4), some (qm_i x5), some (qm_r 0 0 a6), some (qm_i x7), some (qm_i x8), d9], [qm_i (1 : Int32)], h3)) rfl ?_
          exact rX11_sieve_77 (ih) ho
        · rw [if_neg hc] at ho
          refine qm_Ret.sts 1 (f' := (77, [some (qm_r 0 11 ad0), some (qm_i xd1), some (qm_i x2), some (qm_i x3), some (qm_i x4), some (qm_i x5), some (qm_r 0 0 a6), some (qm_i x7), some (qm_i x8), d9], [qm_i (0 : Int32)], h3)) rfl ?_
          exact rX11_sieve_77 (ih) ho
    · rw [if_neg hc] at ho
      cases ho
      exact qm_Ret.ret 2 rfl
set_option maxRecDepth 20000 in
set_option maxHeartbeats 2000000 in
theorem rX11_sieve_0   {a0 : Nat} {x1 : Int32} {x2 : Int32} {x3 : Int32} {x4 : Int32} {x5 : Int32} {h : qm_H} {r : Int32 × qm_H} (ho : qX11_sieve  a0 x1 x2 x3 x4 x5 h = some r) : qm_Ret mX11_sieve (0, [some (qm_r 0 11 a0), some (qm_i x1), some (qm_i x2), some (qm_i x3), some (qm_i x4), some (qm_i x5), none, none, none, none], [], h) (qm_Gi r) := by
  unfold qX11_sieve at ho
  refine qm_Ret.sts 3 (f' := (5, [some (qm_r 0 11 a0), some (qm_i x1), some (qm_i x2), some (qm_i x3), some (qm_i x4), some (qm_i x5), none, none, none, none], [qm_i x1, qm_r 0 9 (a0 + 1)], h)) rfl ?_
  obtain ⟨r2, h1, hr, ho⟩ := qm_b2e ho
  refine qm_Ret.call (X := wX9_basketAt [qm_r 0 9 (a0 + 1), qm_i x1] h) (o1 := (some (qm_oo 0 r2), h1)) (qm_mp (G := (qm_Go 0)) hr) rfl ?_
  show qm_Ret _ (8, [some (qm_r 0 11 a0), some (qm_i x1), some (qm_i x2), some (qm_i x3), some (qm_i x4), some (qm_i x5), none, none, none, none], [qm_oo 0 r2], h1) _
  refine qm_Ret.sts 2 (f' := (12, [some (qm_r 0 11 a0), some (qm_i x1), some (qm_i x2), some (qm_i x3), some (qm_i x4), some (qm_i x5), some (qm_oo 0 r2), none, none, none], [qm_oo 0 r2], h1)) rfl ?_
  cases r2 with
  | none =>
    simp only [qm_om] at ho
    cases ho
    exact qm_Ret.ret 3 rfl
  | some b3 =>
    simp only [qm_om] at ho
    refine qm_Ret.sts 3 (f' := (17, [some (qm_r 0 11 a0), some (qm_i x1), some (qm_i x2), some (qm_i x3), some (qm_i x4), some (qm_i x5), some (qm_r 0 0 b3), none, none, none], [qm_i x3, qm_i x2], h1)) rfl ?_
    obtain ⟨r5, h4, hr, ho⟩ := qm_b2e ho
    refine qm_Ret.call (X := wX11_isSize [qm_i x2, qm_i x3] h1) (o1 := (some (qm_i r5), h4)) (qm_mp (G := qm_Gi) hr) rfl ?_
    show qm_Ret _ (20, [some (qm_r 0 11 a0), some (qm_i x1), some (qm_i x2), some (qm_i x3), some (qm_i x4), some (qm_i x5), some (qm_r 0 0 b3), none, none, none], [qm_i r5], h4) _
    refine qm_Ret.eq (t := 33) (e := 23) rfl (fun hc => ?_) (fun hc => ?_)
    · rw [if_pos hc] at ho
      cases ho
      exact qm_Ret.ret 2 rfl
    · rw [if_neg hc] at ho
      refine qm_Ret.sts 2 (f' := (27, [some (qm_r 0 11 a0), some (qm_i x1), some (qm_i x2), some (qm_i x3), some (qm_i x4), some (qm_i x5), some (qm_r 0 0 b3), none, none, none], [qm_i x5, qm_i x4], h4)) rfl ?_
      obtain ⟨r7, h6, hr, ho⟩ := qm_b2e ho
      refine qm_Ret.call (X := wX11_isSize [qm_i x4, qm_i x5] h4) (o1 := (some (qm_i r7), h6)) (qm_mp (G := qm_Gi) hr) rfl ?_
      show qm_Ret _ (30, [some (qm_r 0 11 a0), some (qm_i x1), some (qm_i x2), some (qm_i x3), some (qm_i x4), some (qm_i x5), some (qm_r 0 0 b3), none, none, none], [qm_i r7], h6) _
      refine qm_Ret.ne (t := 35) (e := 33) rfl (fun hc => ?_) (fun hc => ?_)
      · rw [if_pos hc] at ho
        cases ho
        exact qm_Ret.ret 2 rfl
      · rw [if_neg hc] at ho
        refine qm_Ret.sts 4 (f' := (41, [some (qm_r 0 11 a0), some (qm_i x1), some (qm_i x2), some (qm_i x3), some (qm_i x4), some (qm_i x5), some (qm_r 0 0 b3), some (qm_i (-1 : Int32)), some (qm_i (0 : Int32)), none], [], h6)) rfl ?_
        exact rX11_sieve_41 ho
theorem cX11_sieve_ok : ∀ q ∈ ([(155, 0, 4, wX0_gapWithout), (151, 2, 1, wJ6_bitCount_0f7a4), (93, 0, 2, wX9_basketAt), (123, 2, 2, wX11_isSize)] : List (Nat × Nat × Nat × qm_C)), qm_CallOK RX11 3 84 q.2.1 q.1 q.2.2.1 q.2.2.2 := List.forall_mem_cons.mpr ⟨Or.inl ⟨yX0_gapWithout, cX0_gapWithout, 7, (some .int), 2, 58, _, sX0_gapWithout, ⟨by decide, by decide⟩, ⟨jX0_gapWithout, kRX11_155, uRX0⟩, ⟨by decide, by decide, rfl⟩, Or.inl ⟨rfl, rfl, iX0_gapWithout, recvX0_gapWithout⟩⟩, List.forall_mem_cons.mpr ⟨Or.inl ⟨yJ6_bitCount_0f7a4, cJ6_bitCount_0f7a4, 1, (some .int), 0, 0, _, sJ6_bitCount_0f7a4, ⟨by decide, by decide⟩, ⟨jJ6_bitCount_0f7a4, kRX11_151, uRJ6⟩, ⟨by decide, by decide, rfl⟩, Or.inr (Or.inl ⟨rfl, rfl, iJ6_bitCount_0f7a4⟩)⟩, List.forall_mem_cons.mpr ⟨Or.inl ⟨yX9_basketAt, cX9_basketAt, 2, (some (.object "WillowLaw$Basket")), 0, 0, _, sX9_basketAt, ⟨by decide, by decide⟩, ⟨jX9_basketAt, kRX11_93, uRX9⟩, ⟨by decide, by decide, rfl⟩, Or.inl ⟨rfl, rfl, iX9_basketAt, recvX9_basketAt⟩⟩, List.forall_mem_cons.mpr ⟨Or.inl ⟨yX11_isSize, cX11_isSize, 2, (some .boolean), 0, 0, _, sX11_isSize, ⟨by decide, by decide⟩, ⟨jX11_isSize, kRX11_123, uRX11⟩, ⟨by decide, by decide, rfl⟩, Or.inr (Or.inl ⟨rfl, rfl, iX11_isSize⟩)⟩, fun _ h => absurd h List.not_mem_nil⟩⟩⟩⟩
theorem sX11_sieve : qm_Snd yX11_sieve cX11_sieve 10 (some .int) 3 84 wX11_sieve := qm_met (fld := fun k => qm_lk k pfRX11) (con := fun k => qm_lk k pcRX11) (call := fun k => qm_lk k [(155, 0, 4, wX0_gapWithout), (151, 2, 1, wJ6_bitCount_0f7a4), (93, 0, 2, wX9_basketAt), (123, 2, 2, wX11_isSize)]) (tab := qm_tab aX11_sieve) (plainFor_of_name (by decide)) (qm_fld_ok pfRX11_ok) (qm_con_ok pcRX11_ok) (fun idx kd n f hc => cX11_sieve_ok (idx, kd, n, f) (qm_lk_mem hc)) (qm_tab_ok aX11_sieve_ok) (fun vs h o hw => by
  unfold wX11_sieve at hw
  split at hw
  · obtain ⟨r, hr, rfl⟩ := Option.map_eq_some_iff.mp hw
    exact ⟨Nat.le_of_ble_eq_true rfl, rX11_sieve_0 (hr)⟩
  · cases hw)
theorem recvX11_sieve : ∀ vs h o, wX11_sieve vs h = some o → ∃ ci a rest, vs = qm_r 0 ci a :: rest ∧ qm_R ci = yX11_sieve.cls := by
  intro vs h o hw
  unfold wX11_sieve at hw
  split at hw
  · exact ⟨_, _, _, rfl, rfl⟩
  · cases hw
-- RX11 escape(IIZ)I
theorem jX11_escape : Jvm.Cond.code yX11_escape cX11_escape 6 (some .int) ∈ qm_all := List.mem_filter.mpr ⟨by decide +kernel, rfl⟩
theorem iX11_escape : Jvm.Cond.instanceMethod yX11_escape ∈ qm_all ∧ Jvm.Cond.selects yX11_escape.cls yX11_escape yX11_escape ∈ qm_all := ⟨List.mem_filter.mpr ⟨by decide +kernel, rfl⟩, List.mem_filter.mpr ⟨by decide +kernel, rfl⟩⟩
def wX11_escape : qm_C := fun vs h => match vs with
  | [.inr (.inr (some (0, 11, p0))), .inl p1, .inl p2, .inl p3] => (qX11_escape p0 p1 p2 p3 h).map qm_Gi
  | _ => none
def aX11_escape : List (Option (Instr × Nat)) := [some (.aload_n 0, 1), some (.getfield 10, 3), none, none, some (.iload_n 1, 1), some (.invokevirtual 93, 3), none, none, some (.astore 4, 2), none, some (.aload 4, 2), none, some (.ifnull 12, 3), none, none, some (.aload 4, 2), none, some (.iload_n 2, 1), some (.invokevirtual 158, 3), none, none, some (.ifCond .ne 5, 3), none, none, some (.iconst (-1), 1), some (.ireturn, 1), some (.aload_n 0, 1), some (.getfield 43, 3), none, none, some (.aload 4, 2), none, some (.iload_n 2, 1), some (.invokevirtual 162, 3), none, none, some (.aload_n 0, 1), some (.getfield 43, 3), none, none, some (.aload 4, 2), none, some (.invokevirtual 166, 3), none, none, some (.istore 5, 2), none, some (.iload_n 3, 1), some (.ifCond .eq 11, 3), none, none, some (.iload 5, 2), none, some (.invokestatic 170, 3), none, none, some (.goto 8, 3), none, none, some (.iload 5, 2), none, some (.invokestatic 173, 3), none, none, some (.ireturn, 1)]
theorem aX11_escape_ok : qm_tabok cX11_escape aX11_escape = true := by decide +kernel
def mX11_escape : qm_M := ((some .int), (fun k => qm_lk k pfRX11), (fun k => qm_lk k pcRX11), (fun k => qm_lk k [(93, 0, 2, wX9_basketAt), (158, 0, 2, wX0_hasStroke), (162, 0, 3, wX7_spread), (166, 0, 2, wX7_toTheRim), (173, 2, 1, wX7_forceOf), (170, 2, 1, wX7_stepsOf)]), qm_tab aX11_escape)
set_option maxRecDepth 20000 in
set_option maxHeartbeats 2000000 in
theorem rX11_escape_0   {a0 : Nat} {x1 : Int32} {x2 : Int32} {x3 : Int32} {h : qm_H} {r : Int32 × qm_H} (ho : qX11_escape  a0 x1 x2 x3 h = some r) : qm_Ret mX11_escape (0, [some (qm_r 0 11 a0), some (qm_i x1), some (qm_i x2), some (qm_i x3), none, none], [], h) (qm_Gi r) := by
  unfold qX11_escape at ho
  refine qm_Ret.sts 3 (f' := (5, [some (qm_r 0 11 a0), some (qm_i x1), some (qm_i x2), some (qm_i x3), none, none], [qm_i x1, qm_r 0 9 (a0 + 1)], h)) rfl ?_
  obtain ⟨r2, h1, hr, ho⟩ := qm_b2e ho
  refine qm_Ret.call (X := wX9_basketAt [qm_r 0 9 (a0 + 1), qm_i x1] h) (o1 := (some (qm_oo 0 r2), h1)) (qm_mp (G := (qm_Go 0)) hr) rfl ?_
  show qm_Ret _ (8, [some (qm_r 0 11 a0), some (qm_i x1), some (qm_i x2), some (qm_i x3), none, none], [qm_oo 0 r2], h1) _
  refine qm_Ret.sts 2 (f' := (12, [some (qm_r 0 11 a0), some (qm_i x1), some (qm_i x2), some (qm_i x3), some (qm_oo 0 r2), none], [qm_oo 0 r2], h1)) rfl ?_
  cases r2 with
  | none =>
    simp only [qm_om] at ho
    cases ho
    exact qm_Ret.ret 3 rfl
  | some b3 =>
    simp only [qm_om] at ho
    refine qm_Ret.sts 3 (f' := (18, [some (qm_r 0 11 a0), some (qm_i x1), some (qm_i x2), some (qm_i x3), some (qm_r 0 0 b3), none], [qm_i x2, qm_r 0 0 b3], h1)) rfl ?_
    obtain ⟨r5, h4, hr, ho⟩ := qm_b2e ho
    refine qm_Ret.call (X := wX0_hasStroke [qm_r 0 0 b3, qm_i x2] h1) (o1 := (some (qm_i r5), h4)) (qm_mp (G := qm_Gi) hr) rfl ?_
    show qm_Ret _ (21, [some (qm_r 0 11 a0), some (qm_i x1), some (qm_i x2), some (qm_i x3), some (qm_r 0 0 b3), none], [qm_i r5], h4) _
    refine qm_Ret.ne (t := 26) (e := 24) rfl (fun hc => ?_) (fun hc => ?_)
    · rw [if_pos hc] at ho
      cases ho
      exact qm_Ret.ret 2 rfl
    · rw [if_neg hc] at ho
      refine qm_Ret.sts 4 (f' := (33, [some (qm_r 0 11 a0), some (qm_i x1), some (qm_i x2), some (qm_i x3), some (qm_r 0 0 b3), none], [qm_i x2, qm_r 0 0 b3, qm_r 0 7 (a0 + 49)], h4)) rfl ?_
      obtain ⟨h6, hr, ho⟩ := qm_bd ho
      refine qm_Ret.call (X := wX7_spread [qm_r 0 7 (a0 + 49), qm_r 0 0 b3, qm_i x2] h4) (o1 := (none, h6)) (qm_mp (G := qm_Gv) hr) rfl ?_
      show qm_Ret _ (36, [some (qm_r 0 11 a0), some (qm_i x1), some (qm_i x2), some (qm_i x3), some (qm_r 0 0 b3), none], [], h6) _
      refine qm_Ret.sts 3 (f' := (42, [some (qm_r 0 11 a0), some (qm_i x1), some (qm_i x2), some (qm_i x3), some (qm_r 0 0 b3), none], [qm_r 0 0 b3, qm_r 0 7 (a0 + 49)], h6)) rfl ?_
      obtain ⟨r8, h7, hr, ho⟩ := qm_b2e ho
      refine qm_Ret.call (X := wX7_toTheRim [qm_r 0 7 (a0 + 49), qm_r 0 0 b3] h6) (o1 := (some (qm_i r8), h7)) (qm_mp (G := qm_Gi) hr) rfl ?_
      show qm_Ret _ (45, [some (qm_r 0 11 a0), some (qm_i x1), some (qm_i x2), some (qm_i x3), some (qm_r 0 0 b3), none], [qm_i r8], h7) _
      refine qm_Ret.sts 2 (f' := (48, [some (qm_r 0 11 a0), some (qm_i x1), some (qm_i x2), some (qm_i x3), some (qm_r 0 0 b3), some (qm_i r8)], [qm_i x3], h7)) rfl ?_
      refine qm_Ret.eq (t := 59) (e := 51) rfl (fun hc => ?_) (fun hc => ?_)
      · rw [if_pos hc] at ho
        refine qm_Ret.sts 1 (f' := (61, [some (qm_r 0 11 a0), some (qm_i x1), some (qm_i x2), some (qm_i x3), some (qm_r 0 0 b3), some (qm_i r8)], [qm_i r8], h7)) rfl ?_
        obtain ⟨r10, h9, hr, ho⟩ := qm_b2e ho
        refine qm_Ret.call (X := wX7_forceOf [qm_i r8] h7) (o1 := (some (qm_i r10), h9)) (qm_mp (G := qm_Gi) hr) rfl ?_
        show qm_Ret _ (64, [some (qm_r 0 11 a0), some (qm_i x1), some (qm_i x2), some (qm_i x3), some (qm_r 0 0 b3), some (qm_i r8)], [qm_i r10], h9) _
        cases ho
        exact qm_Ret.ret 1 rfl
      · rw [if_neg hc] at ho
        refine qm_Ret.sts 1 (f' := (53, [some (qm_r 0 11 a0), some (qm_i x1), some (qm_i x2), some (qm_i x3), some (qm_r 0 0 b3), some (qm_i r8)], [qm_i r8], h7)) rfl ?_
        obtain ⟨r12, h11, hr, ho⟩ := qm_b2e ho
        refine qm_Ret.call (X := wX7_stepsOf [qm_i r8] h7) (o1 := (some (qm_i r12), h11)) (qm_mp (G := qm_Gi) hr) rfl ?_
        show qm_Ret _ (56, [some (qm_r 0 11 a0), some (qm_i x1), some (qm_i x2), some (qm_i x3), some (qm_r 0 0 b3), some (qm_i r8)], [qm_i r12], h11) _
        cases ho
        exact qm_Ret.ret 2 rfl
theorem cX11_escape_ok : ∀ q ∈ ([(93, 0, 2, wX9_basketAt), (158, 0, 2, wX0_hasStroke), (162, 0, 3, wX7_spread), (166, 0, 2, wX7_toTheRim), (173, 2, 1, wX7_forceOf), (170, 2, 1, wX7_stepsOf)] : List (Nat × Nat × Nat × qm_C)), qm_CallOK RX11 6 140 q.2.1 q.1 q.2.2.1 q.2.2.2 := List.forall_mem_cons.mpr ⟨Or.inl ⟨yX9_basketAt, cX9_basketAt, 2, (some (.object "WillowLaw$Basket")), 0, 0, _, sX9_basketAt, ⟨by decide, by decide⟩, ⟨jX9_basketAt, kRX11_93, uRX9⟩, ⟨by decide, by decide, rfl⟩, Or.inl ⟨rfl, rfl, iX9_basketAt, recvX9_basketAt⟩⟩, List.forall_mem_cons.mpr ⟨Or.inl ⟨yX0_hasStroke, cX0_hasStroke, 2, (some .boolean), 0, 0, _, sX0_hasStroke, ⟨by decide, by decide⟩, ⟨jX0_hasStroke, kRX11_158, uRX0⟩, ⟨by decide, by decide, rfl⟩, Or.inl ⟨rfl, rfl, iX0_hasStroke, recvX0_hasStroke⟩⟩, List.forall_mem_cons.mpr ⟨Or.inl ⟨yX7_spread, cX7_spread, 7, none, 5, 114, _, sX7_spread, ⟨by decide, by decide⟩, ⟨jX7_spread, kRX11_162, uRX7⟩, ⟨by decide, by decide, rfl⟩, Or.inl ⟨rfl, rfl, iX7_spread, recvX7_spread⟩⟩, List.forall_mem_cons.mpr ⟨Or.inl ⟨yX7_toTheRim, cX7_toTheRim, 6, (some .int), 1, 21, _, sX7_toTheRim, ⟨by decide, by decide⟩, ⟨jX7_toTheRim, kRX11_166, uRX7⟩, ⟨by decide, by decide, rfl⟩, Or.inl ⟨rfl, rfl, iX7_toTheRim, recvX7_toTheRim⟩⟩, List.forall_mem_cons.mpr ⟨Or.inl ⟨yX7_forceOf, cX7_forceOf, 1, (some .int), 0, 0, _, sX7_forceOf, ⟨by decide, by decide⟩, ⟨jX7_forceOf, kRX11_173, uRX7⟩, ⟨by decide, by decide, rfl⟩, Or.inr (Or.inl ⟨rfl, rfl, iX7_forceOf⟩)⟩, List.forall_mem_cons.mpr ⟨Or.inl ⟨yX7_stepsOf, cX7_stepsOf, 1, (some .int), 0, 0, _, sX7_stepsOf, ⟨by decide, by decide⟩, ⟨jX7_stepsOf, kRX11_170, uRX7⟩, ⟨by decide, by decide, rfl⟩, Or.inr (Or.inl ⟨rfl, rfl, iX7_stepsOf⟩)⟩, fun _ h => absurd h List.not_mem_nil⟩⟩⟩⟩⟩⟩
theorem sX11_escape : qm_Snd yX11_escape cX11_escape 6 (some .int) 6 140 wX11_escape := qm_met (fld := fun k => qm_lk k pfRX11) (con := fun k => qm_lk k pcRX11) (call := fun k => qm_lk k [(93, 0, 2, wX9_basketAt), (158, 0, 2, wX0_hasStroke), (162, 0, 3, wX7_spread), (166, 0, 2, wX7_toTheRim), (173, 2, 1, wX7_forceOf), (170, 2, 1, wX7_stepsOf)]) (tab := qm_tab aX11_escape) (plainFor_of_name (by decide)) (qm_fld_ok pfRX11_ok) (qm_con_ok pcRX11_ok) (fun idx kd n f hc => cX11_escape_ok (idx, kd, n, f) (qm_lk_mem hc)) (qm_tab_ok aX11_escape_ok) (fun vs h o hw => by
  unfold wX11_escape at hw
  split at hw
  · obtain ⟨r, hr, rfl⟩ := Option.map_eq_some_iff.mp hw
    exact ⟨Nat.le_of_ble_eq_true rfl, rX11_escape_0 (hr)⟩
  · cases hw)
theorem recvX11_escape : ∀ vs h o, wX11_escape vs h = some o → ∃ ci a rest, vs = qm_r 0 ci a :: rest ∧ qm_R ci = yX11_escape.cls := by
  intro vs h o hw
  unfold wX11_escape at hw
  split at hw
  · exact ⟨_, _, _, rfl, rfl⟩
  · cases hw
