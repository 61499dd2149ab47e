-- RX4 cutOff(III)V
theorem jX4_cutOff : Jvm.Cond.code yX4_cutOff cX4_cutOff 4 none ∈ qm_all := List.mem_filter.mpr ⟨by decide +kernel, rfl⟩
theorem iX4_cutOff : Jvm.Cond.instanceMethod yX4_cutOff ∈ qm_all ∧ Jvm.Cond.selects yX4_cutOff.cls yX4_cutOff yX4_cutOff ∈ qm_all := ⟨List.mem_filter.mpr ⟨by decide +kernel, rfl⟩, List.mem_filter.mpr ⟨by decide +kernel, rfl⟩⟩
def wX4_cutOff : qm_C := fun vs h => match vs with
  | [.inr (.inr (some (0, 4, p0))), .inl p1, .inl p2, .inl p3] => (qX4_cutOff p0 p1 p2 p3 h).map qm_Gv
  | _ => none
def aX4_cutOff : List (Option (Instr × Nat)) := [some (.iload_n 1, 1), some (.ifCond .lt 26, 3), none, none, some (.iload_n 1, 1), some (.bipush 6, 2), none, some (.if_icmp .ge 20, 3), none, none, some (.aload_n 0, 1), some (.getfield 11, 3), none, none, some (.iload_n 1, 1), some (.dup2, 1), some (.iaload, 1), some (.iload_n 2, 1), some (.isub, 1), some (.iastore, 1), some (.aload_n 0, 1), some (.getfield 17, 3), none, none, some (.iload_n 1, 1), some (.iload_n 3, 1), some (.iastore, 1), some (.return_, 1)]
theorem aX4_cutOff_ok : qm_tabok cX4_cutOff aX4_cutOff = true := by decide +kernel
def mX4_cutOff : qm_M := (none, (fun k => qm_lk k pfRX4), (fun k => qm_lk k pcRX4), (fun k => qm_lk k []), qm_tab aX4_cutOff)
set_option maxRecDepth 20000 in
set_option maxHeartbeats 2000000 in
theorem rX4_cutOff_0   {a0 : Nat} {x1 : Int32} {x2 : Int32} {x3 : Int32} {h : qm_H} {r : qm_H} (ho : qX4_cutOff  a0 x1 x2 x3 h = some r) : qm_Ret mX4_cutOff (0, [some (qm_r 0 4 a0), some (qm_i x1), some (qm_i x2), some (qm_i x3)], [], h) (qm_Gv r) := by
  unfold qX4_cutOff at ho
  refine qm_Ret.sts 1 (f' := (1, [some (qm_r 0 4 a0), some (qm_i x1), some (qm_i x2), some (qm_i x3)], [qm_i x1], h)) rfl ?_
  refine qm_Ret.lt (t := 27) (e := 4) rfl (fun hc => ?_) (fun hc => ?_)
  · rw [if_pos hc] at ho
    cases ho
    exact qm_Ret.ret 1 rfl
  · rw [if_neg hc] at ho
    refine qm_Ret.sts 2 (f' := (7, [some (qm_r 0 4 a0), some (qm_i x1), some (qm_i x2), some (qm_i x3)], [qm_i (6 : Int32), qm_i x1], h)) rfl ?_
    refine qm_Ret.ge (t := 27) (e := 10) rfl (fun hc => ?_) (fun hc => ?_)
    · rw [if_pos hc] at ho
      refine qm_Ret.sts 4 (f' := (16, [some (qm_r 0 4 a0), some (qm_i x1), some (qm_i x2), some (qm_i x3)], [qm_i x1, qm_r 1 6 (a0 + 1), qm_i x1, qm_r 1 6 (a0 + 1)], h)) rfl ?_
      obtain ⟨hg, ho⟩ := qm_ifn ho
      refine qm_Ret.gn (f1 := (17, [some (qm_r 0 4 a0), some (qm_i x1), some (qm_i x2), some (qm_i x3)], [qm_i (h.1 (a0 + 1) (x1).toNatClampNeg), qm_i x1, qm_r 1 6 (a0 + 1)], h)) hg rfl ?_
      refine qm_Ret.sts 2 (f' := (19, [some (qm_r 0 4 a0), some (qm_i x1), some (qm_i x2), some (qm_i x3)], [qm_i ((h.1 (a0 + 1) (x1).toNatClampNeg) - x2), qm_i x1, qm_r 1 6 (a0 + 1)], h)) rfl ?_
      obtain ⟨hg, ho⟩ := qm_ifn ho
      refine qm_Ret.gn (f1 := (20, [some (qm_r 0 4 a0), some (qm_i x1), some (qm_i x2), some (qm_i x3)], [], (qm_seti h (a0 + 1) (x1).toNatClampNeg ((h.1 (a0 + 1) (x1).toNatClampNeg) - x2)))) hg rfl ?_
      refine qm_Ret.lets (F := fun h1 => (20, [some (qm_r 0 4 a0), some (qm_i x1), some (qm_i x2), some (qm_i x3)], [], h1)) (G := qm_Gv) ho (fun h1 ho => ?_)
      refine qm_Ret.sts 4 (f' := (26, [some (qm_r 0 4 a0), some (qm_i x1), some (qm_i x2), some (qm_i x3)], [qm_i x3, qm_i x1, qm_r 1 6 (a0 + 2)], h1)) rfl ?_
      obtain ⟨hg, ho⟩ := qm_ifn ho
      refine qm_Ret.gn (f1 := (27, [some (qm_r 0 4 a0), some (qm_i x1), some (qm_i x2), some (qm_i x3)], [], (qm_seti h1 (a0 + 2) (x1).toNatClampNeg x3))) hg rfl ?_
      refine qm_Ret.lets (F := fun h2 => (27, [some (qm_r 0 4 a0), some (qm_i x1), some (qm_i x2), some (qm_i x3)], [], h2)) (G := qm_Gv) ho (fun h2 ho => ?_)
      cases ho
      exact qm_Ret.ret 1 rfl
    · rw [if_neg hc] at ho
      cases ho
      exact qm_Ret.ret 1 rfl
theorem cX4_cutOff_ok : ∀ q ∈ ([] : List (Nat × Nat × Nat × qm_C)), qm_CallOK RX4 0 0 q.2.1 q.1 q.2.2.1 q.2.2.2 := fun _ h => absurd h List.not_mem_nil
theorem sX4_cutOff : qm_Snd yX4_cutOff cX4_cutOff 4 none 0 0 wX4_cutOff := qm_met (fld := fun k => qm_lk k pfRX4) (con := fun k => qm_lk k pcRX4) (call := fun k => qm_lk k []) (tab := qm_tab aX4_cutOff) (plainFor_of_name (by decide)) (qm_fld_ok pfRX4_ok) (qm_con_ok pcRX4_ok) (fun idx kd n f hc => cX4_cutOff_ok (idx, kd, n, f) (qm_lk_mem hc)) (qm_tab_ok aX4_cutOff_ok) (fun vs h o hw => by
  unfold wX4_cutOff at hw
  split at hw
  · obtain ⟨r, hr, rfl⟩ := Option.map_eq_some_iff.mp hw
    exact ⟨Nat.le_of_ble_eq_true rfl, rX4_cutOff_0 (hr)⟩
  · cases hw)
theorem recvX4_cutOff : ∀ vs h o, wX4_cutOff vs h = some o → ∃ ci a rest, vs = qm_r 0 ci a :: rest ∧ qm_R ci = yX4_cutOff.cls := by
  intro vs h o hw
  unfold wX4_cutOff at hw
  split at hw
  · exact ⟨_, _, _, rfl, rfl⟩
  · cases hw
-- RX4 firstRodFor(LWillowLaw$Parish;II)I
theorem jX4_firstRodFor : Jvm.Cond.code yX4_firstRodFor cX4_firstRodFor 8 (some .int) ∈ qm_all := List.mem_filter.mpr ⟨by decide +kernel, rfl⟩
theorem iX4_firstRodFor : Jvm.Cond.instanceMethod yX4_firstRodFor ∈ qm_all ∧ Jvm.Cond.selects yX4_firstRodFor.cls yX4_firstRodFor yX4_firstRodFor ∈ qm_all := ⟨List.mem_filter.mpr ⟨by decide +kernel, rfl⟩, List.mem_filter.mpr ⟨by decide +kernel, rfl⟩⟩
def wX4_firstRodFor : qm_C := fun vs h => match vs with
  | [.inr (.inr (some (0, 4, p0))), .inr (.inr (some (0, 2, p1))), .inl p2, .inl p3] => (qX4_firstRodFor p0 p1 p2 p3 h).map qm_Gi
  | _ => none
def aX4_firstRodFor : List (Option (Instr × Nat)) := [some (.iconst 0, 1), some (.istore 4, 2), none, some (.iload 4, 2), none, some (.aload_n 1, 1), some (.getfield 32, 3), none, none, some (.if_icmp .ge 93, 3), none, none, some (.iload 4, 2), none, some (.bipush 6, 2), none, some (.if_icmp .ge 86, 3), none, none, some (.aload_n 1, 1), some (.getfield 71, 3), none, none, some (.iload_n 2, 1), some (.iaload, 1), some (.istore 5, 2), none, some (.aload_n 0, 1), some (.getfield 17, 3), none, none, some (.iload 4, 2), none, some (.iaload, 1), some (.istore 6, 2), none, some (.iload 5, 2), none, some (.aload_n 0, 1), some (.getfield 11, 3), none, none, some (.iload 4, 2), none, some (.iaload, 1), some (.if_icmp .gt 51, 3), none, none, some (.iload 6, 2), none, some (.iload_n 3, 1), some (.if_icmp .gt 45, 3), none, none, some (.aload_n 0, 1), some (.iload 4, 2), none, some (.iload 5, 2), none, some (.iconst 0, 1), some (.invokevirtual 74, 3), none, none, some (.aload_n 0, 1), some (.aload_n 1, 1), some (.iload_n 2, 1), some (.iconst 1, 1), some (.iadd, 1), some (.invokevirtual 43, 3), none, none, some (.istore 7, 2), none, some (.aload_n 0, 1), some (.iload 4, 2), none, some (.iload 5, 2), none, some (.ineg, 1), some (.iload 6, 2), none, some (.invokevirtual 74, 3), none, none, some (.iload 6, 2), none, some (.iload 7, 2), none, some (.iadd, 1), some (.iload_n 3, 1), some (.if_icmp .gt 6, 3), none, none, some (.iload 4, 2), none, some (.ireturn, 1), some (.iinc 4 1, 3), none, none, some (.goto (-96), 3), none, none, some (.iconst (-1), 1), some (.ireturn, 1)]
theorem aX4_firstRodFor_ok : qm_tabok cX4_firstRodFor aX4_firstRodFor = true := by decide +kernel
def mX4_firstRodFor : qm_M := ((some .int), (fun k => qm_lk k pfRX4), (fun k => qm_lk k pcRX4), (fun k => qm_lk k [(74, 0, 4, wX4_cutOff), (43, 0, 3, wX4_pack)]), qm_tab aX4_firstRodFor)
set_option maxRecDepth 20000 in
set_option maxHeartbeats 2000000 in
theorem rX4_firstRodFor_3   : ∀ {fuel : Nat} {a0 : Nat} {a1 : Nat} {x2 : Int32} {x3 : Int32} {x4 : Int32} {d5 : Option qm_V} {d6 : Option qm_V} {d7 : Option qm_V} {h : qm_H} {r : Int32 × qm_H}, qX4_firstRodFor_3  fuel a0 a1 x2 x3 x4 h = some r → qm_Ret mX4_firstRodFor (3, [some (qm_r 0 4 a0), some (qm_r 0 2 a1), some (qm_i x2), some (qm_i x3), some (qm_i x4), d5, d6, d7], [], h) (qm_Gi r) := by
  intro fuel
  induction fuel with
  | zero => intros; rename_i ho; cases ho
  | succ n ih =>
    intro a0 a1 x2 x3 x4 d5 d6 d7 h r ho
    unfold qX4_firstRodFor_3 at ho
    refine qm_Ret.sts 3 (f' := (9, [some (qm_r 0 4 a0), some (qm_r 0 2 a1), some (qm_i x2), some (qm_i x3), some (qm_i x4), d5, d6, d7], [qm_i (h.1 a1 2), qm_i x4], h)) rfl ?_
    refine qm_Ret.ge (t := 102) (e := 12) rfl (fun hc => ?_) (fun hc => ?_)
    · rw [if_pos hc] at ho
      refine qm_Ret.sts 2 (f' := (16, [some (qm_r 0 4 a0), some (qm_r 0 2 a1), some (qm_i x2), some (qm_i x3), some (qm_i x4), d5, d6, d7], [qm_i (6 : Int32), qm_i x4], h)) rfl ?_
      refine qm_Ret.ge (t := 102) (e := 19) rfl (fun hc => ?_) (fun hc => ?_)
      · rw [if_pos hc] at ho
        refine qm_Ret.sts 3 (f' := (24, [some (qm_r 0 4 a0), some (qm_r 0 2 a1), some (qm_i x2), some (qm_i x3), some (qm_i x4), d5, d6, d7], [qm_i x2, qm_r 1 8 (a1 + 2)], h)) rfl ?_
        obtain ⟨hg, ho⟩ := qm_ifn ho
        refine qm_Ret.gn (f1 := (25, [some (qm_r 0 4 a0), some (qm_r 0 2 a1), some (qm_i x2), some (qm_i x3), some (qm_i x4), d5, d6, d7], [qm_i (h.1 (a1 + 2) (x2).toNatClampNeg)], h)) hg rfl ?_
        refine qm_Ret.lets (F := fun v1 => (25, [some (qm_r 0 4 a0), some (qm_r 0 2 a1), some (qm_i x2), some (qm_i x3), some (qm_i x4), d5, d6, d7], [qm_i v1], h)) (G := qm_Gi) ho (fun v1 ho => ?_)
        refine qm_Ret.sts 4 (f' := (33, [some (qm_r 0 4 a0), some (qm_r 0 2 a1), some (qm_i x2), some (qm_i x3), some (qm_i x4), some (qm_i v1), d6, d7], [qm_i x4, qm_r 1 6 (a0 + 2)], h)) rfl ?_
        obtain ⟨hg, ho⟩ := qm_ifn ho
        refine qm_Ret.gn (f1 := (34, [some (qm_r 0 4 a0), some (qm_r 0 2 a1), some (qm_i x2), some (qm_i x3), some (qm_i x4), some (qm_i v1), d6, d7], [qm_i (h.1 (a0 + 2) (x4).toNatClampNeg)], h)) hg rfl ?_
        refine qm_Ret.lets (F := fun v2 => (34, [some (qm_r 0 4 a0), some (qm_r 0 2 a1), some (qm_i x2), some (qm_i x3), some (qm_i x4), some (qm_i v1), d6, d7], [qm_i v2], h)) (G := qm_Gi) ho (fun v2 ho => ?_)
        refine qm_Ret.sts 5 (f' := (44, [some (qm_r 0 4 a0), some (qm_r 0 2 a1), some (qm_i x2), some (qm_i x3), some (qm_i x4), some (qm_i v1), some (qm_i v2), d7], [qm_i x4, qm_r 1 6 (a0 + 1), qm_i v1], h)) rfl ?_
        obtain ⟨hg, ho⟩ := qm_ifn ho
        refine qm_Ret.gn (f1 := (45, [some (qm_r 0 4 a0), some (qm_r 0 2 a1), some (qm_i x2), some (qm_i x3), some (qm_i x4), some (qm_i v1), some (qm_i v2), d7], [qm_i (h.1 (a0 + 1) (x4).toNatClampNeg), qm_i v1], h)) hg rfl ?_
        refine qm_Ret.gt (t := 96) (e := 48) rfl (fun hc => ?_) (fun hc => ?_)
        · rw [if_pos hc] at ho
          refine qm_Ret.sts 2 (f' := (3, [some (qm_r 0 4 a0), some (qm_r 0 2 a1), some (qm_i x2), some (qm_i x3), some (qm_i (x4 + (1 : Int32))), some (qm_i v1), some (qm_i v2), d7], [], h)) rfl ?_
          exact ih ho
        · rw [if_neg hc] at ho
          refine qm_Ret.sts 2 (f' := (51, [some (qm_r 0 4 a0), some (qm_r 0 2 a1), some (qm_i x2), some (qm_i x3), some (qm_i x4), some (qm_i v1), some (qm_i v2), d7], [qm_i x3, qm_i v2], h)) rfl ?_
          refine qm_Ret.gt (t := 96) (e := 54) rfl (fun hc => ?_) (fun hc => ?_)
          · rw [if_pos hc] at ho
            refine qm_Ret.sts 2 (f' := (3, [some (qm_r 0 4 a0), some (qm_r 0 2 a1), some (qm_i x2), some (qm_i x3), some (qm_i (x4 + (1 : Int32))), some (qm_i v1), some (qm_i v2), d7], [], h)) rfl ?_
            exact ih ho
          · rw [if_neg hc] at ho
            refine qm_Ret.sts 4 (f' := (60, [some (qm_r 0 4 a0), some (qm_r 0 2 a1), some (qm_i x2), some (qm_i x3), some (qm_i x4), some (qm_i v1), some (qm_i v2), d7], [qm_i (0 : Int32), qm_i v1, qm_i x4, qm_r 0 4 a0], h)) rfl ?_
            obtain ⟨h3, hr, ho⟩ := qm_bd ho
            refine qm_Ret.call (X := wX4_cutOff [qm_r 0 4 a0, qm_i x4, qm_i v1, qm_i (0 : Int32)] h) (o1 := (none, h3)) (qm_mp (G := qm_Gv) hr) rfl ?_
            show qm_Ret _ (63, [some (qm_r 0 4 a0), some (qm_r 0 2 a1), some (qm_i x2), some (qm_i x3), some (qm_i x4), some (qm_i v1), some (qm_i v2), d7], [], h3) _
            refine qm_Ret.sts 5 (f' := (68, [some (qm_r 0 4 a0), some (qm_r 0 2 a1), some (qm_i x2), some (qm_i x3), some (qm_i x4), some (qm_i v1), some (qm_i v2), d7], [qm_i (x2 + (1 : Int32)), qm_r 0 2 a1, qm_r 0 4 a0], h3)) rfl ?_
            obtain ⟨r5, h4, hr, ho⟩ := qm_b2e ho
            refine qm_Ret.call (X := wX4_pack [qm_r 0 4 a0, qm_r 0 2 a1, qm_i (x2 + (1 : Int32))] h3) (o1 := (some (qm_i r5), h4)) (qm_mp (G := qm_Gi) hr) rfl ?_
            show qm_Ret _ (71, [some (qm_r 0 4 a0), some (qm_r 0 2 a1), some (qm_i x2), some (qm_i x3), some (qm_i x4), some (qm_i v1), some (qm_i v2), d7], [qm_i r5], h4) _
            refine qm_Ret.sts 6 (f' := (81, [some (qm_r 0 4 a0), some (qm_r 0 2 a1), some (qm_i x2), some (qm_i x3), some (qm_i x4), some (qm_i v1), some (qm_i v2), some (qm_i r5)], [qm_i v2, qm_i (-v1), qm_i x4, qm_r 0 4 a0], h4)) rfl ?_
            obtain ⟨h6, hr, ho⟩ := qm_bd ho
            refine qm_Ret.call (X := wX4_cutOff [qm_r 0 4 a0, qm_i x4, qm_i (-v1), qm_i v2] h4) (o1 := (none, h6)) (qm_mp (G := qm_Gv) hr) rfl ?_
            show qm_Ret _ (84, [some (qm_r 0 4 a0), some (qm_r 0 2 a1), some (qm_i x2), some (qm_i x3), some (qm_i x4), some (qm_i v1), some (qm_i v2), some (qm_i r5)], [], h6) _
            refine qm_Ret.sts 4 (f' := (90, [some (qm_r 0 4 a0), some (qm_r 0 2 a1), some (qm_i x2), some (qm_i x3), some (qm_i x4), some (qm_i v1), some (qm_i v2), some (qm_i r5)], [qm_i x3, qm_i (v2 + r5)], h6)) rfl ?_
            refine qm_Ret.gt (t := 96) (e := 93) rfl (fun hc => ?_) (fun hc => ?_)
            · rw [if_pos hc] at ho
              refine qm_Ret.sts 2 (f' := (3, [some (qm_r 0 4 a0), some (qm_r 0 2 a1), some (qm_i x2), some (qm_i x3), some (qm_i (x4 + (1 : Int32))), some (qm_i v1), some (qm_i v2), some (qm_i r5)], [], h6)) rfl ?_
              exact ih ho
            · rw [if_neg hc] at ho
              cases ho
              exact qm_Ret.ret 2 rfl
      · rw [if_neg hc] at ho
        cases ho
        exact qm_Ret.ret 2 rfl
    · rw [if_neg hc] at ho
      cases ho
      exact qm_Ret.ret 2 rfl
set_option maxRecDepth 20000 in
set_option maxHeartbeats 2000000 in
theorem rX4_firstRodFor_0   {a0 : Nat} {a1 : Nat} {x2 : Int32} {x3 : Int32} {h : qm_H} {r : Int32 × qm_H} (ho : qX4_firstRodFor  a0 a1 x2 x3 h = some r) : qm_Ret mX4_firstRodFor (0, [some (qm_r 0 4 a0), some (qm_r 0 2 a1), some (qm_i x2), some (qm_i x3), none, none, none, none], [], h) (qm_Gi r) := by
  unfold qX4_firstRodFor at ho
  refine qm_Ret.sts 2 (f' := (3, [some (qm_r 0 4 a0), some (qm_r 0 2 a1), some (qm_i x2), some (qm_i x3), some (qm_i (0 : Int32)), none, none, none], [], h)) rfl ?_
  exact rX4_firstRodFor_3 ho
theorem cX4_firstRodFor_ok : ∀ q ∈ ([(74, 0, 4, wX4_cutOff), (43, 0, 3, wX4_pack)] : List (Nat × Nat × Nat × qm_C)), qm_CallOK RX4 3 70 q.2.1 q.1 q.2.2.1 q.2.2.2 := List.forall_mem_cons.mpr ⟨Or.inl ⟨yX4_cutOff, cX4_cutOff, 4, none, 0, 0, _, sX4_cutOff, ⟨by decide, by decide⟩, ⟨jX4_cutOff, kRX4_74, uRX4⟩, ⟨by decide, by decide, rfl⟩, Or.inl ⟨rfl, rfl, iX4_cutOff, recvX4_cutOff⟩⟩, List.forall_mem_cons.mpr ⟨Or.inl ⟨yX4_pack, cX4_pack, 6, (some .int), 2, 45, _, sX4_pack, ⟨by decide, by decide⟩, ⟨jX4_pack, kRX4_43, uRX4⟩, ⟨by decide, by decide, rfl⟩, Or.inl ⟨rfl, rfl, iX4_pack, recvX4_pack⟩⟩, fun _ h => absurd h List.not_mem_nil⟩⟩
theorem sX4_firstRodFor : qm_Snd yX4_firstRodFor cX4_firstRodFor 8 (some .int) 3 70 wX4_firstRodFor := qm_met (fld := fun k => qm_lk k pfRX4) (con := fun k => qm_lk k pcRX4) (call := fun k => qm_lk k [(74, 0, 4, wX4_cutOff), (43, 0, 3, wX4_pack)]) (tab := qm_tab aX4_firstRodFor) (plainFor_of_name (by decide)) (qm_fld_ok pfRX4_ok) (qm_con_ok pcRX4_ok) (fun idx kd n f hc => cX4_firstRodFor_ok (idx, kd, n, f) (qm_lk_mem hc)) (qm_tab_ok aX4_firstRodFor_ok) (fun vs h o hw => by
  unfold wX4_firstRodFor at hw
  split at hw
  · obtain ⟨r, hr, rfl⟩ := Option.map_eq_some_iff.mp hw
    exact ⟨Nat.le_of_ble_eq_true rfl, rX4_firstRodFor_0 (hr)⟩
  · cases hw)
theorem recvX4_firstRodFor : ∀ vs h o, wX4_firstRodFor vs h = some o → ∃ ci a rest, vs = qm_r 0 ci a :: rest ∧ qm_R ci = yX4_firstRodFor.cls := by
  intro vs h o hw
  unfold wX4_firstRodFor at hw
  split at hw
  · exact ⟨_, _, _, rfl, rfl⟩
  · cases hw
-- RX4 rodOf(LWillowLaw$Parish;I)I
theorem jX4_rodOf : Jvm.Cond.code yX4_rodOf cX4_rodOf 7 (some .int) ∈ qm_all := List.mem_filter.mpr ⟨by decide +kernel, rfl⟩
theorem iX4_rodOf : Jvm.Cond.instanceMethod yX4_rodOf ∈ qm_all ∧ Jvm.Cond.selects yX4_rodOf.cls yX4_rodOf yX4_rodOf ∈ qm_all := ⟨List.mem_filter.mpr ⟨by decide +kernel, rfl⟩, List.mem_filter.mpr ⟨by decide +kernel, rfl⟩⟩
def wX4_rodOf : qm_C := fun vs h => match vs with
  | [.inr (.inr (some (0, 4, p0))), .inr (.inr (some (0, 2, p1))), .inl p2] => (qX4_rodOf p0 p1 p2 h).map qm_Gi
  | _ => none
def aX4_rodOf : List (Option (Instr × Nat)) := [some (.aload_n 0, 1), some (.aload_n 1, 1), some (.invokevirtual 63, 3), none, none, some (.istore_n 3, 1), some (.iload_n 3, 1), some (.iconst (-1), 1), some (.if_icmp .ne 5, 3), none, none, some (.iconst (-1), 1), some (.ireturn, 1), some (.iconst (-1), 1), some (.istore 4, 2), none, some (.iconst 0, 1), some (.istore 5, 2), none, some (.iconst 0, 1), some (.istore 6, 2), none, some (.iload 6, 2), none, some (.iload_n 2, 1), some (.if_icmp .gt 63, 3), none, none, some (.iload 6, 2), none, some (.bipush 8, 2), none, some (.if_icmp .ge 56, 3), none, none, some (.aload_n 0, 1), some (.aload_n 1, 1), some (.iload 6, 2), none, some (.iload_n 3, 1), some (.iload 5, 2), none, some (.isub, 1), some (.invokevirtual 67, 3), none, none, some (.istore 4, 2), none, some (.iload 4, 2), none, some (.iconst (-1), 1), some (.if_icmp .ne 5, 3), none, none, some (.iconst (-1), 1), some (.ireturn, 1), some (.iload 5, 2), none, some (.aload_n 0, 1), some (.getfield 17, 3), none, none, some (.iload 4, 2), none, some (.iaload, 1), some (.iadd, 1), some (.istore 5, 2), none, some (.aload_n 0, 1), some (.iload 4, 2), none, some (.aload_n 1, 1), some (.getfield 71, 3), none, none, some (.iload 6, 2), none, some (.iaload, 1), some (.iconst 0, 1), some (.invokevirtual 74, 3), none, none, some (.iinc 6 1, 3), none, none, some (.goto (-63), 3), none, none, some (.iload 4, 2), none, some (.ireturn, 1)]
theorem aX4_rodOf_ok : qm_tabok cX4_rodOf aX4_rodOf = true := by decide +kernel
def mX4_rodOf : qm_M := ((some .int), (fun k => qm_lk k pfRX4), (fun k => qm_lk k pcRX4), (fun k => qm_lk k [(67, 0, 4, wX4_firstRodFor), (74, 0, 4, wX4_cutOff), (63, 0, 2, wX4_fewest)]), qm_tab aX4_rodOf)
set_option maxRecDepth 20000 in
set_option maxHeartbeats 2000000 in
theorem rX4_rodOf_22   : ∀ {fuel : Nat} {a0 : Nat} {a1 : Nat} {x2 : Int32} {x3 : Int32} {x4 : Int32} {x5 : Int32} {x6 : Int32} {h : qm_H} {r : Int32 × qm_H}, qX4_rodOf_22  fuel a0 a1 x2 x3 x4 x5 x6 h = some r → qm_Ret mX4_rodOf (22, [some (qm_r 0 4 a0), some (qm_r 0 2 a1), some (qm_i x2), some (qm_i x3), some (qm_i x4), some (qm_i x5), some (qm_i x6)], [], h) (qm_Gi r) := by
  intro fuel
  induction fuel with
  | zero => intros; rename_i ho; cases ho
  | succ n ih =>
    intro a0 a1 x2 x3 x4 x5 x6 h r ho
    unfold qX4_rodOf_22 at ho
    refine qm_Ret.sts 2 (f' := (25, [some (qm_r 0 4 a0), some (qm_r 0 2 a1), some (qm_i x2), some (qm_i x3), some (qm_i x4), some (qm_i x5), some (qm_i x6)], [qm_i x2, qm_i x6], h)) rfl ?_
    refine qm_Ret.gt (t := 88) (e := 28) rfl (fun hc => ?_) (fun hc => ?_)
    · rw [if_pos hc] at ho
      cases ho
      exact qm_Ret.ret 2 rfl
    · rw [if_neg hc] at ho
      refine qm_Ret.sts 2 (f' := (32, [some (qm_r 0 4 a0), some (qm_r 0 2 a1), some (qm_i x2), some (qm_i x3), some (qm_i x4), some (qm_i x5), some (qm_i x6)], [qm_i (8 : Int32), qm_i x6], h)) rfl ?_
      refine qm_Ret.ge (t := 88) (e := 35) rfl (fun hc => ?_) (fun hc => ?_)
      · rw [if_pos hc] at ho
        refine qm_Ret.sts 6 (f' := (43, [some (qm_r 0 4 a0), some (qm_r 0 2 a1), some (qm_i x2), some (qm_i x3), some (qm_i x4), some (qm_i x5), some (qm_i x6)], [qm_i (x3 - x5), qm_i x6, qm_r 0 2 a1, qm_r 0 4 a0], h)) rfl ?_
        obtain ⟨r2, h1, hr, ho⟩ := qm_b2e ho
        refine qm_Ret.call (X := wX4_firstRodFor [qm_r 0 4 a0, qm_r 0 2 a1, qm_i x6, qm_i (x3 - x5)] h) (o1 := (some (qm_i r2), h1)) (qm_mp (G := qm_Gi) hr) rfl ?_
        show qm_Ret _ (46, [some (qm_r 0 4 a0), some (qm_r 0 2 a1), some (qm_i x2), some (qm_i x3), some (qm_i x4), some (qm_i x5), some (qm_i x6)], [qm_i r2], h1) _
        refine qm_Ret.sts 3 (f' := (51, [some (qm_r 0 4 a0), some (qm_r 0 2 a1), some (qm_i x2), some (qm_i x3), some (qm_i r2), some (qm_i x5), some (qm_i x6)], [qm_i (-1 : Int32), qm_i r2], h1)) rfl ?_
        refine qm_Ret.ne (t := 56) (e := 54) rfl (fun hc => ?_) (fun hc => ?_)
        · rw [if_pos hc] at ho
          cases ho
          exact qm_Ret.ret 2 rfl
        · rw [if_neg hc] at ho
          refine qm_Ret.sts 4 (f' := (64, [some (qm_r 0 4 a0), some (qm_r 0 2 a1), some (qm_i x2), some (qm_i x3), some (qm_i r2), some (qm_i x5), some (qm_i x6)], [qm_i r2, qm_r 1 6 (a0 + 2), qm_i x5], h1)) rfl ?_
          obtain ⟨hg, ho⟩ := qm_ifn ho
          refine qm_Ret.gn (f1 := (65, [some (qm_r 0 4 a0), some (qm_r 0 2 a1), some (qm_i x2), some (qm_i x3), some (qm_i r2), some (qm_i x5), some (qm_i x6)], [qm_i (h1.1 (a0 + 2) (r2).toNatClampNeg), qm_i x5], h1)) hg rfl ?_
          refine qm_Ret.sts 1 (f' := (66, [some (qm_r 0 4 a0), some (qm_r 0 2 a1), some (qm_i x2), some (qm_i x3), some (qm_i r2), some (qm_i x5), some (qm_i x6)], [qm_i (x5 + (h1.1 (a0 + 2) (r2).toNatClampNeg))], h1)) rfl ?_
          refine qm_Ret.lets (F := fun v3 => (66, [some (qm_r 0 4 a0), some (qm_r 0 2 a1), some (qm_i x2), some (qm_i x3), some (qm_i r2), some (qm_i x5), some (qm_i x6)], [qm_i v3], h1)) (G := qm_Gi) ho (fun v3 ho => ?_)
          refine qm_Ret.sts 6 (f' := (77, [some (qm_r 0 4 a0), some (qm_r 0 2 a1), some (qm_i x2), some (qm_i x3), some (qm_i r2), some (qm_i v3), some (qm_i x6)], [qm_i x6, qm_r 1 8 (a1 + 2), qm_i r2, qm_r 0 4 a0], h1)) rfl ?_
          obtain ⟨hg, ho⟩ := qm_ifn ho
          refine qm_Ret.gn (f1 := (78, [some (qm_r 0 4 a0), some (qm_r 0 2 a1), some (qm_i x2), some (qm_i x3), some (qm_i r2), some (qm_i v3), some (qm_i x6)], [qm_i (h1.1 (a1 + 2) (x6).toNatClampNeg), qm_i r2, qm_r 0 4 a0], h1)) hg rfl ?_
          refine qm_Ret.sts 1 (f' := (79, [some (qm_r 0 4 a0), some (qm_r 0 2 a1), some (qm_i x2), some (qm_i x3), some (qm_i r2), some (qm_i v3), some (qm_i x6)], [qm_i (0 : Int32), qm_i (h1.1 (a1 + 2) (x6).toNatClampNeg), qm_i r2, qm_r 0 4 a0], h1)) rfl ?_
          obtain ⟨h4, hr, ho⟩ := qm_bd ho
          refine qm_Ret.call (X := wX4_cutOff [qm_r 0 4 a0, qm_i r2, qm_i (h1.1 (a1 + 2) (x6).toNatClampNeg), qm_i (0 : Int32)] h1) (o1 := (none, h4)) (qm_mp (G := qm_Gv) hr) rfl ?_
          show qm_Ret _ (82, [some (qm_r 0 4 a0), some (qm_r 0 2 a1), some (qm_i x2), some (qm_i x3), some (qm_i r2), some (qm_i v3), some (qm_i x6)], [], h4) _
          refine qm_Ret.sts 2 (f' := (22, [some (qm_r 0 4 a0), some (qm_r 0 2 a1), some (qm_i x2), some (qm_i x3), some (qm_i r2), some (qm_i v3), some (qm_i (x6 + (1 : Int32)))], [], h4)) rfl ?_
          exact ih ho
      · rw [if_neg hc] at ho
        cases ho
        exact qm_Ret.ret 2 rfl
set_option maxRecDepth 20000 in
set_option maxHeartbeats 2000000 in
theorem rX4_rodOf_0   {a0 : Nat} {a1 : Nat} {x2 : Int32} {h : qm_H} {r : Int32 × qm_H} (ho : qX4_rodOf  a0 a1 x2 h = some r) : qm_Ret mX4_rodOf (0, [some (qm_r 0 4 a0), some (qm_r 0 2 a1), some (qm_i x2), none, none, none, none], [], h) (qm_Gi r) := by
  unfold qX4_rodOf at ho
  refine qm_Ret.sts 2 (f' := (2, [some (qm_r 0 4 a0), some (qm_r 0 2 a1), some (qm_i x2), none, none, none, none], [qm_r 0 2 a1, qm_r 0 4 a0], h)) rfl ?_
  obtain ⟨r2, h1, hr, ho⟩ := qm_b2e ho
  refine qm_Ret.call (X := wX4_fewest [qm_r 0 4 a0, qm_r 0 2 a1] h) (o1 := (some (qm_i r2), h1)) (qm_mp (G := qm_Gi) hr) rfl ?_
  show qm_Ret _ (5, [some (qm_r 0 4 a0), some (qm_r 0 2 a1), some (qm_i x2), none, none, none, none], [qm_i r2], h1) _
  refine qm_Ret.sts 3 (f' := (8, [some (qm_r 0 4 a0), some (qm_r 0 2 a1), some (qm_i x2), some (qm_i r2), none, none, none], [qm_i (-1 : Int32), qm_i r2], h1)) rfl ?_
  refine qm_Ret.ne (t := 13) (e := 11) rfl (fun hc => ?_) (fun hc => ?_)
  · rw [if_pos hc] at ho
    cases ho
    exact qm_Ret.ret 2 rfl
  · rw [if_neg hc] at ho
    refine qm_Ret.sts 6 (f' := (22, [some (qm_r 0 4 a0), some (qm_r 0 2 a1), some (qm_i x2), some (qm_i r2), some (qm_i (-1 : Int32)), some (qm_i (0 : Int32)), some (qm_i (0 : Int32))], [], h1)) rfl ?_
    exact rX4_rodOf_22 ho
theorem cX4_rodOf_ok : ∀ q ∈ ([(67, 0, 4, wX4_firstRodFor), (74, 0, 4, wX4_cutOff), (63, 0, 2, wX4_fewest)] : List (Nat × Nat × Nat × qm_C)), qm_CallOK RX4 4 97 q.2.1 q.1 q.2.2.1 q.2.2.2 := List.forall_mem_cons.mpr ⟨Or.inl ⟨yX4_firstRodFor, cX4_firstRodFor, 8, (some .int), 3, 70, _, sX4_firstRodFor, ⟨by decide, by decide⟩, ⟨jX4_firstRodFor, kRX4_67, uRX4⟩, ⟨by decide, by decide, rfl⟩, Or.inl ⟨rfl, rfl, iX4_firstRodFor, recvX4_firstRodFor⟩⟩, List.forall_mem_cons.mpr ⟨Or.inl ⟨yX4_cutOff, cX4_cutOff, 4, none, 0, 0, _, sX4_cutOff, ⟨by decide, by decide⟩, ⟨jX4_cutOff, kRX4_74, uRX4⟩, ⟨by decide, by decide, rfl⟩, Or.inl ⟨rfl, rfl, iX4_cutOff, recvX4_cutOff⟩⟩, List.forall_mem_cons.mpr ⟨Or.inl ⟨yX4_fewest, cX4_fewest, 3, (some .int), 3, 70, _, sX4_fewest, ⟨by decide, by decide⟩, ⟨jX4_fewest, kRX4_63, uRX4⟩, ⟨by decide, by decide, rfl⟩, Or.inl ⟨rfl, rfl, iX4_fewest, recvX4_fewest⟩⟩, fun _ h => absurd h List.not_mem_nil⟩⟩⟩
theorem sX4_rodOf : qm_Snd yX4_rodOf cX4_rodOf 7 (some .int) 4 97 wX4_rodOf := qm_met (fld := fun k => qm_lk k pfRX4) (con := fun k => qm_lk k pcRX4) (call := fun k => qm_lk k [(67, 0, 4, wX4_firstRodFor), (74, 0, 4, wX4_cutOff), (63, 0, 2, wX4_fewest)]) (tab := qm_tab aX4_rodOf) (plainFor_of_name (by decide)) (qm_fld_ok pfRX4_ok) (qm_con_ok pcRX4_ok) (fun idx kd n f hc => cX4_rodOf_ok (idx, kd, n, f) (qm_lk_mem hc)) (qm_tab_ok aX4_rodOf_ok) (fun vs h o hw => by
  unfold wX4_rodOf at hw
  split at hw
  · obtain ⟨r, hr, rfl⟩ := Option.map_eq_some_iff.mp hw
    exact ⟨Nat.le_of_ble_eq_true rfl, rX4_rodOf_0 (hr)⟩
  · cases hw)
theorem recvX4_rodOf : ∀ vs h o, wX4_rodOf vs h = some o → ∃ ci a rest, vs = qm_r 0 ci a :: rest ∧ qm_R ci = yX4_rodOf.cls := by
  intro vs h o hw
  unfold wX4_rodOf at hw
  split at hw
  · exact ⟨_, _, _, rfl, rfl⟩
  · cases hw
-- RX4 mostOf(LWillowLaw$Parish;II)I
theorem jX4_mostOf : Jvm.Cond.code yX4_mostOf cX4_mostOf 8 (some .int) ∈ qm_all := List.mem_filter.mpr ⟨by decide +kernel, rfl⟩
theorem iX4_mostOf : Jvm.Cond.instanceMethod yX4_mostOf ∈ qm_all ∧ Jvm.Cond.selects yX4_mostOf.cls yX4_mostOf yX4_mostOf ∈ qm_all := ⟨List.mem_filter.mpr ⟨by decide +kernel, rfl⟩, List.mem_filter.mpr ⟨by decide +kernel, rfl⟩⟩
def wX4_mostOf : qm_C := fun vs h => match vs with
  | [.inr (.inr (some (0, 4, p0))), .inr (.inr (some (0, 2, p1))), .inl p2, .inl p3] => (qX4_mostOf p0 p1 p2 p3 h).map qm_Gi
  | _ => none
def aX4_mostOf : List (Option (Instr × Nat)) := [some (.iconst 0, 1), some (.istore 4, 2), none, some (.iload 4, 2), none, some (.iconst 4, 1), some (.if_icmp .ge 17, 3), none, none, some (.aload_n 0, 1), some (.getfield 29, 3), none, none, some (.iload 4, 2), none, some (.iconst 0, 1), some (.iastore, 1), some (.iinc 4 1, 3), none, none, some (.goto (-17), 3), none, none, some (.iconst 0, 1), some (.istore 4, 2), none, some (.iload_n 3, 1), some (.istore 5, 2), none, some (.aload_n 1, 1), some (.getfield 32, 3), none, none, some (.bipush 6, 2), none, some (.invokestatic 81, 3), none, none, some (.iconst 1, 1), some (.isub, 1), some (.istore 6, 2), none, some (.iload 6, 2), none, some (.ifCond .lt 88, 3), none, none, some (.iload_n 2, 1), some (.ifCond .le 10, 3), none, none, some (.iload 5, 2), none, some (.iload_n 2, 1), some (.irem, 1), some (.goto 4, 3), none, none, some (.iconst 0, 1), some (.istore 7, 2), none, some (.iload_n 2, 1), some (.ifCond .le 10, 3), none, none, some (.iload 5, 2), none, some (.iload_n 2, 1), some (.idiv, 1), some (.goto 4, 3), none, none, some (.iconst 0, 1), some (.istore 5, 2), none, some (.aload_n 0, 1), some (.getfield 26, 3), none, none, some (.iload 6, 2), none, some (.iload 7, 2), none, some (.iastore, 1), some (.iload 7, 2), none, some (.ifCond .lt 40, 3), none, none, some (.iload 7, 2), none, some (.iconst 4, 1), some (.if_icmp .ge 34, 3), none, none, some (.aload_n 0, 1), some (.getfield 29, 3), none, none, some (.iload 7, 2), none, some (.dup2, 1), some (.iaload, 1), some (.aload_n 1, 1), some (.getfield 36, 3), none, none, some (.iload 6, 2), none, some (.iaload, 1), some (.iadd, 1), some (.iastore, 1), some (.iload 4, 2), none, some (.aload_n 0, 1), some (.getfield 29, 3), none, none, some (.iload 7, 2), none, some (.iaload, 1), some (.invokestatic 57, 3), none, none, some (.istore 4, 2), none, some (.iinc 6 (-1), 3), none, none, some (.goto (-87), 3), none, none, some (.iload 4, 2), none, some (.ireturn, 1)]
theorem aX4_mostOf_ok : qm_tabok cX4_mostOf aX4_mostOf = true := by decide +kernel
def mX4_mostOf : qm_M := ((some .int), (fun k => qm_lk k pfRX4), (fun k => qm_lk k pcRX4), (fun k => qm_lk k [(57, 2, 2, wJ9_max_7cf53), (81, 2, 2, wJ9_min_7cf53)]), qm_tab aX4_mostOf)
set_option maxRecDepth 20000 in
set_option maxHeartbeats 2000000 in
theorem rX4_mostOf_73 {K42 : Nat → Nat → Int32 → Int32 → Int32 → Int32 → qm_H → Option (Int32 × qm_H)} (H42 : ∀ {a0 : Nat} {a1 : Nat} {x2 : Int32} {x4 : Int32} {x5 : Int32} {x6 : Int32} {xd3 : Int32} {d7 : Option qm_V} {h : qm_H} {r : Int32 × qm_H}, K42 a0 a1 x2 x4 x5 x6 h = some r → qm_Ret mX4_mostOf (42, [some (qm_r 0 4 a0), some (qm_r 0 2 a1), some (qm_i x2), some (qm_i xd3), some (qm_i x4), some (qm_i x5), some (qm_i x6), d7], [], h) (qm_Gi r)) {a0 : Nat} {a1 : Nat} {x2 : Int32} {x4 : Int32} {x6 : Int32} {x7 : Int32} {xs0 : Int32} {xd3 : Int32} {xd5 : Int32} {h : qm_H} {r : Int32 × qm_H} (ho : qX4_mostOf_73 K42 a0 a1 x2 x4 x6 x7 xs0 h = some r) : qm_Ret mX4_mostOf (73, [some (qm_r 0 4 a0), some (qm_r 0 2 a1), some (qm_i x2), some (qm_i xd3), some (qm_i x4), some (qm_i xd5), some (qm_i x6), some (qm_i x7)], [qm_i xs0], h) (qm_Gi r) := by
  unfold qX4_mostOf_73 at ho
  refine qm_Ret.sts 5 (f' := (83, [some (qm_r 0 4 a0), some (qm_r 0 2 a1), some (qm_i x2), some (qm_i xd3), some (qm_i x4), some (qm_i xs0), some (qm_i x6), some (qm_i x7)], [qm_i x7, qm_i x6, qm_r 1 6 (a0 + 5)], h)) rfl ?_
  obtain ⟨hg, ho⟩ := qm_ifn ho
  refine qm_Ret.gn (f1 := (84, [some (qm_r 0 4 a0), some (qm_r 0 2 a1), some (qm_i x2), some (qm_i xd3), some (qm_i x4), some (qm_i xs0), some (qm_i x6), some (qm_i x7)], [], (qm_seti h (a0 + 5) (x6).toNatClampNeg x7))) hg rfl ?_
  refine qm_Ret.lets (F := fun h1 => (84, [some (qm_r 0 4 a0), some (qm_r 0 2 a1), some (qm_i x2), some (qm_i xd3), some (qm_i x4), some (qm_i xs0), some (qm_i x6), some (qm_i x7)], [], h1)) (G := qm_Gi) ho (fun h1 ho => ?_)
  refine qm_Ret.sts 1 (f' := (86, [some (qm_r 0 4 a0), some (qm_r 0 2 a1), some (qm_i x2), some (qm_i xd3), some (qm_i x4), some (qm_i xs0), some (qm_i x6), some (qm_i x7)], [qm_i x7], h1)) rfl ?_
  refine qm_Ret.lt (t := 126) (e := 89) rfl (fun hc => ?_) (fun hc => ?_)
  · rw [if_pos hc] at ho
    refine qm_Ret.sts 2 (f' := (42, [some (qm_r 0 4 a0), some (qm_r 0 2 a1), some (qm_i x2), some (qm_i xd3), some (qm_i x4), some (qm_i xs0), some (qm_i (x6 + (-1 : Int32))), some (qm_i x7)], [], h1)) rfl ?_
    exact H42 ho
  · rw [if_neg hc] at ho
    refine qm_Ret.sts 2 (f' := (92, [some (qm_r 0 4 a0), some (qm_r 0 2 a1), some (qm_i x2), some (qm_i xd3), some (qm_i x4), some (qm_i xs0), some (qm_i x6), some (qm_i x7)], [qm_i (4 : Int32), qm_i x7], h1)) rfl ?_
    refine qm_Ret.ge (t := 126) (e := 95) rfl (fun hc => ?_) (fun hc => ?_)
    · rw [if_pos hc] at ho
      refine qm_Ret.sts 4 (f' := (102, [some (qm_r 0 4 a0), some (qm_r 0 2 a1), some (qm_i x2), some (qm_i xd3), some (qm_i x4), some (qm_i xs0), some (qm_i x6), some (qm_i x7)], [qm_i x7, qm_r 1 4 (a0 + 6), qm_i x7, qm_r 1 4 (a0 + 6)], h1)) rfl ?_
      obtain ⟨hg, ho⟩ := qm_ifn ho
      refine qm_Ret.gn (f1 := (103, [some (qm_r 0 4 a0), some (qm_r 0 2 a1), some (qm_i x2), some (qm_i xd3), some (qm_i x4), some (qm_i xs0), some (qm_i x6), some (qm_i x7)], [qm_i (h1.1 (a0 + 6) (x7).toNatClampNeg), qm_i x7, qm_r 1 4 (a0 + 6)], h1)) hg rfl ?_
      refine qm_Ret.sts 3 (f' := (109, [some (qm_r 0 4 a0), some (qm_r 0 2 a1), some (qm_i x2), some (qm_i xd3), some (qm_i x4), some (qm_i xs0), some (qm_i x6), some (qm_i x7)], [qm_i x6, qm_r 1 6 (a1 + 1), qm_i (h1.1 (a0 + 6) (x7).toNatClampNeg), qm_i x7, qm_r 1 4 (a0 + 6)], h1)) rfl ?_
      obtain ⟨hg, ho⟩ := qm_ifn ho
      refine qm_Ret.gn (f1 := (110, [some (qm_r 0 4 a0), some (qm_r 0 2 a1), some (qm_i x2), some (qm_i xd3), some (qm_i x4), some (qm_i xs0), some (qm_i x6), some (qm_i x7)], [qm_i (h1.1 (a1 + 1) (x6).toNatClampNeg), qm_i (h1.1 (a0 + 6) (x7).toNatClampNeg), qm_i x7, qm_r 1 4 (a0 + 6)], h1)) hg rfl ?_
      refine qm_Ret.sts 1 (f' := (111, [some (qm_r 0 4 a0), some (qm_r 0 2 a1), some (qm_i x2), some (qm_i xd3), some (qm_i x4), some (qm_i xs0), some (qm_i x6), some (qm_i x7)], [qm_i ((h1.1 (a0 + 6) (x7).toNatClampNeg) + (h1.1 (a1 + 1) (x6).toNatClampNeg)), qm_i x7, qm_r 1 4 (a0 + 6)], h1)) rfl ?_
      obtain ⟨hg, ho⟩ := qm_ifn ho
      refine qm_Ret.gn (f1 := (112, [some (qm_r 0 4 a0), some (qm_r 0 2 a1), some (qm_i x2), some (qm_i xd3), some (qm_i x4), some (qm_i xs0), some (qm_i x6), some (qm_i x7)], [], (qm_seti h1 (a0 + 6) (x7).toNatClampNeg ((h1.1 (a0 + 6) (x7).toNatClampNeg) + (h1.1 (a1 + 1) (x6).toNatClampNeg))))) hg rfl ?_
      refine qm_Ret.lets (F := fun h2 => (112, [some (qm_r 0 4 a0), some (qm_r 0 2 a1), some (qm_i x2), some (qm_i xd3), some (qm_i x4), some (qm_i xs0), some (qm_i x6), some (qm_i x7)], [], h2)) (G := qm_Gi) ho (fun h2 ho => ?_)
      refine qm_Ret.sts 4 (f' := (120, [some (qm_r 0 4 a0), some (qm_r 0 2 a1), some (qm_i x2), some (qm_i xd3), some (qm_i x4), some (qm_i xs0), some (qm_i x6), some (qm_i x7)], [qm_i x7, qm_r 1 4 (a0 + 6), qm_i x4], h2)) rfl ?_
      obtain ⟨hg, ho⟩ := qm_ifn ho
      refine qm_Ret.gn (f1 := (121, [some (qm_r 0 4 a0), some (qm_r 0 2 a1), some (qm_i x2), some (qm_i xd3), some (qm_i x4), some (qm_i xs0), some (qm_i x6), some (qm_i x7)], [qm_i (h2.1 (a0 + 6) (x7).toNatClampNeg), qm_i x4], h2)) hg rfl ?_
      obtain ⟨r4, h3, hr, ho⟩ := qm_b2e ho
      refine qm_Ret.call (X := wJ9_max_7cf53 [qm_i x4, qm_i (h2.1 (a0 + 6) (x7).toNatClampNeg)] h2) (o1 := (some (qm_i r4), h3)) (qm_mp (G := qm_Gi) hr) rfl ?_
      show qm_Ret _ (124, [some (qm_r 0 4 a0), some (qm_r 0 2 a1), some (qm_i x2), some (qm_i xd3), some (qm_i x4), some (qm_i xs0), some (qm_i x6), some (qm_i x7)], [qm_i r4], h3) _
      refine qm_Ret.sts 3 (f' := (42, [some (qm_r 0 4 a0), some (qm_r 0 2 a1), some (qm_i x2), some (qm_i xd3), some (qm_i r4), some (qm_i xs0), some (qm_i (x6 + (-1 : Int32))), some (qm_i x7)], [], h3)) rfl ?_
      exact H42 ho
    · rw [if_neg hc] at ho
      refine qm_Ret.sts 2 (f' := (42, [some (qm_r 0 4 a0), some (qm_r 0 2 a1), some (qm_i x2), some (qm_i xd3), some (qm_i x4), some (qm_i xs0), some (qm_i (x6 + (-1 : Int32))), some (qm_i x7)], [], h1)) rfl ?_
      exact H42 ho
set_option maxRecDepth 20000 in
set_option maxHeartbeats 2000000 in
theorem rX4_mostOf_42   : ∀ {fuel : Nat} {a0 : Nat} {a1 : Nat} {x2 : Int32} {x4 : Int32} {x5 : Int32} {x6 : Int32} {xd3 : Int32} {d7 : Option qm_V} {h : qm_H} {r : Int32 × qm_H}, qX4_mostOf_42  fuel a0 a1 x2 x4 x5 x6 h = some r → qm_Ret mX4_mostOf (42, [some (qm_r 0 4 a0), some (qm_r 0 2 a1), some (qm_i x2), some (qm_i xd3), some (qm_i x4), some (qm_i x5), some (qm_i x6), d7], [], h) (qm_Gi r) := by
  intro fuel
  induction fuel with
  | zero => intros; rename_i ho; cases ho
  | succ n ih =>
    intro a0 a1 x2 x4 x5 x6 xd3 d7 h r ho
    unfold qX4_mostOf_42 at ho
    refine qm_Ret.sts 1 (f' := (44, [some (qm_r 0 4 a0), some (qm_r 0 2 a1), some (qm_i x2), some (qm_i xd3), some (qm_i x4), some (qm_i x5), some (qm_i x6), d7], [qm_i x6], h)) rfl ?_
    refine qm_Ret.lt (t := 132) (e := 47) rfl (fun hc => ?_) (fun hc => ?_)
    · rw [if_pos hc] at ho
      cases ho
      exact qm_Ret.ret 2 rfl
    · rw [if_neg hc] at ho
      refine qm_Ret.sts 1 (f' := (48, [some (qm_r 0 4 a0), some (qm_r 0 2 a1), some (qm_i x2), some (qm_i xd3), some (qm_i x4), some (qm_i x5), some (qm_i x6), d7], [qm_i x2], h)) rfl ?_
      refine qm_Ret.le (t := 58) (e := 51) rfl (fun hc => ?_) (fun hc => ?_)
      · rw [if_pos hc] at ho
        refine qm_Ret.sts 2 (f' := (54, [some (qm_r 0 4 a0), some (qm_r 0 2 a1), some (qm_i x2), some (qm_i xd3), some (qm_i x4), some (qm_i x5), some (qm_i x6), d7], [qm_i x2, qm_i x5], h)) rfl ?_
        obtain ⟨hg, ho⟩ := qm_ifn ho
        refine qm_Ret.gn (f1 := (55, [some (qm_r 0 4 a0), some (qm_r 0 2 a1), some (qm_i x2), some (qm_i xd3), some (qm_i x4), some (qm_i x5), some (qm_i x6), d7], [qm_i (qm_irem x5 x2)], h)) hg rfl ?_
        refine qm_Ret.sts 1 (f' := (59, [some (qm_r 0 4 a0), some (qm_r 0 2 a1), some (qm_i x2), some (qm_i xd3), some (qm_i x4), some (qm_i x5), some (qm_i x6), d7], [qm_i (qm_irem x5 x2)], h)) rfl ?_
        refine qm_Ret.lets (F := fun v1 => (59, [some (qm_r 0 4 a0), some (qm_r 0 2 a1), some (qm_i x2), some (qm_i xd3), some (qm_i x4), some (qm_i x5), some (qm_i x6), d7], [qm_i v1], h)) (G := qm_Gi) ho (fun v1 ho => ?_)
        refine qm_Ret.sts 2 (f' := (62, [some (qm_r 0 4 a0), some (qm_r 0 2 a1), some (qm_i x2), some (qm_i xd3), some (qm_i x4), some (qm_i x5), some (qm_i x6), some (qm_i v1)], [qm_i x2], h)) rfl ?_
        refine qm_Ret.le (t := 72) (e := 65) rfl (fun hc => ?_) (fun hc => ?_)
        · rw [if_pos hc] at ho
          refine qm_Ret.sts 2 (f' := (68, [some (qm_r 0 4 a0), some (qm_r 0 2 a1), some (qm_i x2), some (qm_i xd3), some (qm_i x4), some (qm_i x5), some (qm_i x6), some (qm_i v1)], [qm_i x2, qm_i x5], h)) rfl ?_
          obtain ⟨hg, ho⟩ := qm_ifn ho
          refine qm_Ret.gn (f1 := (69, [some (qm_r 0 4 a0), some (qm_r 0 2 a1), some (qm_i x2), some (qm_i xd3), some (qm_i x4), some (qm_i x5), some (qm_i x6), some (qm_i v1)], [qm_i (x5 / x2)], h)) hg rfl ?_
          refine qm_Ret.sts 1 (f' := (73, [some (qm_r 0 4 a0), some (qm_r 0 2 a1), some (qm_i x2), some (qm_i xd3), some (qm_i x4), some (qm_i x5), some (qm_i x6), some (qm_i v1)], [qm_i (x5 / x2)], h)) rfl ?_
          exact rX4_mostOf_73 (ih) ho
        · rw [if_neg hc] at ho
          refine qm_Ret.sts 1 (f' := (73, [some (qm_r 0 4 a0), some (qm_r 0 2 a1), some (qm_i x2), some (qm_i xd3), some (qm_i x4), some (qm_i x5), some (qm_i x6), some (qm_i v1)], [qm_i (0 : Int32)], h)) rfl ?_
          exact rX4_mostOf_73 (ih) ho
      · rw [if_neg hc] at ho
        refine qm_Ret.sts 3 (f' := (62, [some (qm_r 0 4 a0), some (qm_r 0 2 a1), some (qm_i x2), some (qm_i xd3), some (qm_i x4), some (qm_i x5), some (qm_i x6), some (qm_i (0 : Int32))], [qm_i x2], h)) rfl ?_
        refine qm_Ret.le (t := 72) (e := 65) rfl (fun hc => ?_) (fun hc => ?_)
        · rw [if_pos hc] at ho
          refine qm_Ret.sts 2 (f' := (68, [some (qm_r 0 4 a0), some (qm_r 0 2 a1), some (qm_i x2), some (qm_i xd3), some (qm_i x4), some (qm_i x5), some (qm_i x6), some (qm_i (0 : Int32))], [qm_i x2, qm_i x5], h)) rfl ?_
          obtain ⟨hg, ho⟩ := qm_ifn ho
          refine qm_Ret.gn (f1 := (69, [some (qm_r 0 4 a0), some (qm_r 0 2 a1), some (qm_i x2), some (qm_i xd3), some (qm_i x4), some (qm_i x5), some (qm_i x6), some (qm_i (0 : Int32))], [qm_i (x5 / x2)], h)) hg rfl ?_
          refine qm_Ret.sts 1 (f' := (73, [some (qm_r 0 4 a0), some (qm_r 0 2 a1), some (qm_i x2), some (qm_i xd3), some (qm_i x4), some (qm_i x5), some (qm_i x6), some (qm_i (0 : Int32))], [qm_i (x5 / x2)], h)) rfl ?_
          exact rX4_mostOf_73 (ih) ho
        · rw [if_neg hc] at ho
          refine qm_Ret.sts 1 (f' := (73, [some (qm_r 0 4 a0), some (qm_r 0 2 a1), some (qm_i x2), some (qm_i xd3), some (qm_i x4), some (qm_i x5), some (qm_i x6), some (qm_i (0 : Int32))], [qm_i (0 : Int32)], h)) rfl ?_
          exact rX4_mostOf_73 (ih) ho
set_option maxRecDepth 20000 in
set_option maxHeartbeats 2000000 in
theorem rX4_mostOf_3   : ∀ {fuel : Nat} {a0 : Nat} {a1 : Nat} {x2 : Int32} {x3 : Int32} {x4 : Int32} {h : qm_H} {r : Int32 × qm_H}, qX4_mostOf_3  fuel a0 a1 x2 x3 x4 h = some r → qm_Ret mX4_mostOf (3, [some (qm_r 0 4 a0), some (qm_r 0 2 a1), some (qm_i x2), some (qm_i x3), some (qm_i x4), none, none, none], [], h) (qm_Gi r) := by
  intro fuel
  induction fuel with
  | zero => intros; rename_i ho; cases ho
  | succ n ih =>
    intro a0 a1 x2 x3 x4 h r ho
    unfold qX4_mostOf_3 at ho
    refine qm_Ret.sts 2 (f' := (6, [some (qm_r 0 4 a0), some (qm_r 0 2 a1), some (qm_i x2), some (qm_i x3), some (qm_i x4), none, none, none], [qm_i (4 : Int32), qm_i x4], h)) rfl ?_
    refine qm_Ret.ge (t := 23) (e := 9) rfl (fun hc => ?_) (fun hc => ?_)
    · rw [if_pos hc] at ho
      refine qm_Ret.sts 4 (f' := (16, [some (qm_r 0 4 a0), some (qm_r 0 2 a1), some (qm_i x2), some (qm_i x3), some (qm_i x4), none, none, none], [qm_i (0 : Int32), qm_i x4, qm_r 1 4 (a0 + 6)], h)) rfl ?_
      obtain ⟨hg, ho⟩ := qm_ifn ho
      refine qm_Ret.gn (f1 := (17, [some (qm_r 0 4 a0), some (qm_r 0 2 a1), some (qm_i x2), some (qm_i x3), some (qm_i x4), none, none, none], [], (qm_seti h (a0 + 6) (x4).toNatClampNeg (0 : Int32)))) hg rfl ?_
      refine qm_Ret.lets (F := fun h4 => (17, [some (qm_r 0 4 a0), some (qm_r 0 2 a1), some (qm_i x2), some (qm_i x3), some (qm_i x4), none, none, none], [], h4)) (G := qm_Gi) ho (fun h4 ho => ?_)
      refine qm_Ret.sts 2 (f' := (3, [some (qm_r 0 4 a0), some (qm_r 0 2 a1), some (qm_i x2), some (qm_i x3), some (qm_i (x4 + (1 : Int32))), none, none, none], [], h4)) rfl ?_
      exact ih ho
    · rw [if_neg hc] at ho
      refine qm_Ret.sts 7 (f' := (35, [some (qm_r 0 4 a0), some (qm_r 0 2 a1), some (qm_i x2), some (qm_i x3), some (qm_i (0 : Int32)), some (qm_i x3), none, none], [qm_i (6 : Int32), qm_i (h.1 a1 2)], h)) rfl ?_
      obtain ⟨r2, h1, hr, ho⟩ := qm_b2e ho
      refine qm_Ret.call (X := wJ9_min_7cf53 [qm_i (h.1 a1 2), qm_i (6 : Int32)] h) (o1 := (some (qm_i r2), h1)) (qm_mp (G := qm_Gi) hr) rfl ?_
      show qm_Ret _ (38, [some (qm_r 0 4 a0), some (qm_r 0 2 a1), some (qm_i x2), some (qm_i x3), some (qm_i (0 : Int32)), some (qm_i x3), none, none], [qm_i r2], h1) _
      refine qm_Ret.sts 2 (f' := (40, [some (qm_r 0 4 a0), some (qm_r 0 2 a1), some (qm_i x2), some (qm_i x3), some (qm_i (0 : Int32)), some (qm_i x3), none, none], [qm_i (r2 - (1 : Int32))], h1)) rfl ?_
      refine qm_Ret.lets (F := fun v3 => (40, [some (qm_r 0 4 a0), some (qm_r 0 2 a1), some (qm_i x2), some (qm_i x3), some (qm_i (0 : Int32)), some (qm_i x3), none, none], [qm_i v3], h1)) (G := qm_Gi) ho (fun v3 ho => ?_)
      refine qm_Ret.sts 1 (f' := (42, [some (qm_r 0 4 a0), some (qm_r 0 2 a1), some (qm_i x2), some (qm_i x3), some (qm_i (0 : Int32)), some (qm_i x3), some (qm_i v3), none], [], h1)) rfl ?_
      exact rX4_mostOf_42 ho
set_option maxRecDepth 20000 in
set_option maxHeartbeats 2000000 in
theorem rX4_mostOf_0   {a0 : Nat} {a1 : Nat} {x2 : Int32} {x3 : Int32} {h : qm_H} {r : Int32 × qm_H} (ho : qX4_mostOf  a0 a1 x2 x3 h = some r) : qm_Ret mX4_mostOf (0, [some (qm_r 0 4 a0), some (qm_r 0 2 a1), some (qm_i x2), some (qm_i x3), none, none, none, none], [], h) (qm_Gi r) := by
  unfold qX4_mostOf at ho
  refine qm_Ret.sts 2 (f' := (3, [some (qm_r 0 4 a0), some (qm_r 0 2 a1), some (qm_i x2), some (qm_i x3), some (qm_i (0 : Int32)), none, none, none], [], h)) rfl ?_
  exact rX4_mostOf_3 ho
theorem cX4_mostOf_ok : ∀ q ∈ ([(57, 2, 2, wJ9_max_7cf53), (81, 2, 2, wJ9_min_7cf53)] : List (Nat × Nat × Nat × qm_C)), qm_CallOK RX4 1 21 q.2.1 q.1 q.2.2.1 q.2.2.2 := List.forall_mem_cons.mpr ⟨Or.inl ⟨yJ9_max_7cf53, cJ9_max_7cf53, 2, (some .int), 0, 0, _, sJ9_max_7cf53, ⟨by decide, by decide⟩, ⟨jJ9_max_7cf53, kRX4_57, uRJ9⟩, ⟨by decide, by decide, rfl⟩, Or.inr (Or.inl ⟨rfl, rfl, iJ9_max_7cf53⟩)⟩, List.forall_mem_cons.mpr ⟨Or.inl ⟨yJ9_min_7cf53, cJ9_min_7cf53, 2, (some .int), 0, 0, _, sJ9_min_7cf53, ⟨by decide, by decide⟩, ⟨jJ9_min_7cf53, kRX4_81, uRJ9⟩, ⟨by decide, by decide, rfl⟩, Or.inr (Or.inl ⟨rfl, rfl, iJ9_min_7cf53⟩)⟩, fun _ h => absurd h List.not_mem_nil⟩⟩
theorem sX4_mostOf : qm_Snd yX4_mostOf cX4_mostOf 8 (some .int) 1 21 wX4_mostOf := qm_met (fld := fun k => qm_lk k pfRX4) (con := fun k => qm_lk k pcRX4) (call := fun k => qm_lk k [(57, 2, 2, wJ9_max_7cf53), (81, 2, 2, wJ9_min_7cf53)]) (tab := qm_tab aX4_mostOf) (plainFor_of_name (by decide)) (qm_fld_ok pfRX4_ok) (qm_con_ok pcRX4_ok) (fun idx kd n f hc => cX4_mostOf_ok (idx, kd, n, f) (qm_lk_mem hc)) (qm_tab_ok aX4_mostOf_ok) (fun vs h o hw => by
  unfold wX4_mostOf at hw
  split at hw
  · obtain ⟨r, hr, rfl⟩ := Option.map_eq_some_iff.mp hw
    exact ⟨Nat.le_of_ble_eq_true rfl, rX4_mostOf_0 (hr)⟩
  · cases hw)
theorem recvX4_mostOf : ∀ vs h o, wX4_mostOf vs h = some o → ∃ ci a rest, vs = qm_r 0 ci a :: rest ∧ qm_R ci = yX4_mostOf.cls := by
  intro vs h o hw
  unfold wX4_mostOf at hw
  split at hw
  · exact ⟨_, _, _, rfl, rfl⟩
  · cases hw
-- RX4 divide(LWillowLaw$Parish;I)V
theorem jX4_divide : Jvm.Cond.code yX4_divide cX4_divide 7 none ∈ qm_all := List.mem_filter.mpr ⟨by decide +kernel, rfl⟩
theorem iX4_divide : Jvm.Cond.instanceMethod yX4_divide ∈ qm_all ∧ Jvm.Cond.selects yX4_divide.cls yX4_divide yX4_divide ∈ qm_all := ⟨List.mem_filter.mpr ⟨by decide +kernel, rfl⟩, List.mem_filter.mpr ⟨by decide +kernel, rfl⟩⟩
def wX4_divide : qm_C := fun vs h => match vs with
  | [.inr (.inr (some (0, 4, p0))), .inr (.inr (some (0, 2, p1))), .inl p2] => (qX4_divide p0 p1 p2 h).map qm_Gv
  | _ => none
def aX4_divide : List (Option (Instr × Nat)) := [some (.iconst 1, 1), some (.istore_n 3, 1), some (.iconst 1, 1), some (.istore 4, 2), none, some (.iload 4, 2), none, some (.aload_n 1, 1), some (.getfield 32, 3), none, none, some (.if_icmp .ge 20, 3), none, none, some (.iload 4, 2), none, some (.bipush 6, 2), none, some (.if_icmp .ge 13, 3), none, none, some (.iload_n 3, 1), some (.iload_n 2, 1), some (.imul, 1), some (.istore_n 3, 1), some (.iinc 4 1, 3), none, none, some (.goto (-23), 3), none, none, some (.iconst 0, 1), some (.istore 4, 2), none, some (.aload_n 0, 1), some (.ldc 47, 2), none, some (.putfield 91, 3), none, none, some (.iconst 0, 1), some (.istore 5, 2), none, some (.iload 5, 2), none, some (.iload_n 3, 1), some (.if_icmp .ge 38, 3), none, none, some (.aload_n 0, 1), some (.aload_n 1, 1), some (.iload_n 2, 1), some (.iload 5, 2), none, some (.invokevirtual 94, 3), none, none, some (.istore 6, 2), none, some (.iload 6, 2), none, some (.aload_n 0, 1), some (.getfield 91, 3), none, none, some (.if_icmp .ge 13, 3), none, none, some (.aload_n 0, 1), some (.iload 6, 2), none, some (.putfield 91, 3), none, none, some (.iload 5, 2), none, some (.istore 4, 2), none, some (.iinc 5 1, 3), none, none, some (.goto (-38), 3), none, none, some (.aload_n 0, 1), some (.aload_n 1, 1), some (.iload_n 2, 1), some (.iload 4, 2), none, some (.invokevirtual 94, 3), none, none, some (.pop, 1), some (.return_, 1)]
theorem aX4_divide_ok : qm_tabok cX4_divide aX4_divide = true := by decide +kernel
def mX4_divide : qm_M := (none, (fun k => qm_lk k pfRX4), (fun k => qm_lk k pcRX4), (fun k => qm_lk k [(94, 0, 4, wX4_mostOf)]), qm_tab aX4_divide)
set_option maxRecDepth 20000 in
set_option maxHeartbeats 2000000 in
theorem rX4_divide_43   : ∀ {fuel : Nat} {a0 : Nat} {a1 : Nat} {x2 : Int32} {x3 : Int32} {x4 : Int32} {x5 : Int32} {d6 : Option qm_V} {h : qm_H} {r : qm_H}, qX4_divide_43  fuel a0 a1 x2 x3 x4 x5 h = some r → qm_Ret mX4_divide (43, [some (qm_r 0 4 a0), some (qm_r 0 2 a1), some (qm_i x2), some (qm_i x3), some (qm_i x4), some (qm_i x5), d6], [], h) (qm_Gv r) := by
  intro fuel
  induction fuel with
  | zero => intros; rename_i ho; cases ho
  | succ n ih =>
    intro a0 a1 x2 x3 x4 x5 d6 h r ho
    unfold qX4_divide_43 at ho
    refine qm_Ret.sts 2 (f' := (46, [some (qm_r 0 4 a0), some (qm_r 0 2 a1), some (qm_i x2), some (qm_i x3), some (qm_i x4), some (qm_i x5), d6], [qm_i x3, qm_i x5], h)) rfl ?_
    refine qm_Ret.ge (t := 84) (e := 49) rfl (fun hc => ?_) (fun hc => ?_)
    · rw [if_pos hc] at ho
      refine qm_Ret.sts 4 (f' := (54, [some (qm_r 0 4 a0), some (qm_r 0 2 a1), some (qm_i x2), some (qm_i x3), some (qm_i x4), some (qm_i x5), d6], [qm_i x5, qm_i x2, qm_r 0 2 a1, qm_r 0 4 a0], h)) rfl ?_
      obtain ⟨r4, h3, hr, ho⟩ := qm_b2e ho
      refine qm_Ret.call (X := wX4_mostOf [qm_r 0 4 a0, qm_r 0 2 a1, qm_i x2, qm_i x5] h) (o1 := (some (qm_i r4), h3)) (qm_mp (G := qm_Gi) hr) rfl ?_
      show qm_Ret _ (57, [some (qm_r 0 4 a0), some (qm_r 0 2 a1), some (qm_i x2), some (qm_i x3), some (qm_i x4), some (qm_i x5), d6], [qm_i r4], h3) _
      refine qm_Ret.sts 4 (f' := (65, [some (qm_r 0 4 a0), some (qm_r 0 2 a1), some (qm_i x2), some (qm_i x3), some (qm_i x4), some (qm_i x5), some (qm_i r4)], [qm_i (h3.1 a0 6), qm_i r4], h3)) rfl ?_
      refine qm_Ret.ge (t := 78) (e := 68) rfl (fun hc => ?_) (fun hc => ?_)
      · rw [if_pos hc] at ho
        refine qm_Ret.sts 7 (f' := (43, [some (qm_r 0 4 a0), some (qm_r 0 2 a1), some (qm_i x2), some (qm_i x3), some (qm_i x5), some (qm_i (x5 + (1 : Int32))), some (qm_i r4)], [], (qm_seti h3 a0 6 r4))) rfl ?_
        exact ih ho
      · rw [if_neg hc] at ho
        refine qm_Ret.sts 2 (f' := (43, [some (qm_r 0 4 a0), some (qm_r 0 2 a1), some (qm_i x2), some (qm_i x3), some (qm_i x4), some (qm_i (x5 + (1 : Int32))), some (qm_i r4)], [], h3)) rfl ?_
        exact ih ho
    · rw [if_neg hc] at ho
      refine qm_Ret.sts 4 (f' := (89, [some (qm_r 0 4 a0), some (qm_r 0 2 a1), some (qm_i x2), some (qm_i x3), some (qm_i x4), some (qm_i x5), d6], [qm_i x4, qm_i x2, qm_r 0 2 a1, qm_r 0 4 a0], h)) rfl ?_
      obtain ⟨r2, h1, hr, ho⟩ := qm_b2e ho
      refine qm_Ret.call (X := wX4_mostOf [qm_r 0 4 a0, qm_r 0 2 a1, qm_i x2, qm_i x4] h) (o1 := (some (qm_i r2), h1)) (qm_mp (G := qm_Gi) hr) rfl ?_
      show qm_Ret _ (92, [some (qm_r 0 4 a0), some (qm_r 0 2 a1), some (qm_i x2), some (qm_i x3), some (qm_i x4), some (qm_i x5), d6], [qm_i r2], h1) _
      cases ho
      exact qm_Ret.ret 2 rfl
set_option maxRecDepth 20000 in
set_option maxHeartbeats 2000000 in
theorem rX4_divide_5   : ∀ {fuel : Nat} {a0 : Nat} {a1 : Nat} {x2 : Int32} {x3 : Int32} {x4 : Int32} {h : qm_H} {r : qm_H}, qX4_divide_5  fuel a0 a1 x2 x3 x4 h = some r → qm_Ret mX4_divide (5, [some (qm_r 0 4 a0), some (qm_r 0 2 a1), some (qm_i x2), some (qm_i x3), some (qm_i x4), none, none], [], h) (qm_Gv r) := by
  intro fuel
  induction fuel with
  | zero => intros; rename_i ho; cases ho
  | succ n ih =>
    intro a0 a1 x2 x3 x4 h r ho
    unfold qX4_divide_5 at ho
    refine qm_Ret.sts 3 (f' := (11, [some (qm_r 0 4 a0), some (qm_r 0 2 a1), some (qm_i x2), some (qm_i x3), some (qm_i x4), none, none], [qm_i (h.1 a1 2), qm_i x4], h)) rfl ?_
    refine qm_Ret.ge (t := 31) (e := 14) rfl (fun hc => ?_) (fun hc => ?_)
    · rw [if_pos hc] at ho
      refine qm_Ret.sts 2 (f' := (18, [some (qm_r 0 4 a0), some (qm_r 0 2 a1), some (qm_i x2), some (qm_i x3), some (qm_i x4), none, none], [qm_i (6 : Int32), qm_i x4], h)) rfl ?_
      refine qm_Ret.ge (t := 31) (e := 21) rfl (fun hc => ?_) (fun hc => ?_)
      · rw [if_pos hc] at ho
        refine qm_Ret.sts 6 (f' := (5, [some (qm_r 0 4 a0), some (qm_r 0 2 a1), some (qm_i x2), some (qm_i (x3 * x2)), some (qm_i (x4 + (1 : Int32))), none, none], [], h)) rfl ?_
        exact ih ho
      · rw [if_neg hc] at ho
        refine qm_Ret.sts 5 (f' := (40, [some (qm_r 0 4 a0), some (qm_r 0 2 a1), some (qm_i x2), some (qm_i x3), some (qm_i (0 : Int32)), none, none], [], (qm_seti h a0 6 (1000000 : Int32)))) rfl ?_
        refine qm_Ret.lets (F := fun h2 => (40, [some (qm_r 0 4 a0), some (qm_r 0 2 a1), some (qm_i x2), some (qm_i x3), some (qm_i (0 : Int32)), none, none], [], h2)) (G := qm_Gv) ho (fun h2 ho => ?_)
        refine qm_Ret.sts 2 (f' := (43, [some (qm_r 0 4 a0), some (qm_r 0 2 a1), some (qm_i x2), some (qm_i x3), some (qm_i (0 : Int32)), some (qm_i (0 : Int32)), none], [], h2)) rfl ?_
        exact rX4_divide_43 ho
    · rw [if_neg hc] at ho
      refine qm_Ret.sts 5 (f' := (40, [some (qm_r 0 4 a0), some (qm_r 0 2 a1), some (qm_i x2), some (qm_i x3), some (qm_i (0 : Int32)), none, none], [], (qm_seti h a0 6 (1000000 : Int32)))) rfl ?_
      refine qm_Ret.lets (F := fun h1 => (40, [some (qm_r 0 4 a0), some (qm_r 0 2 a1), some (qm_i x2), some (qm_i x3), some (qm_i (0 : Int32)), none, none], [], h1)) (G := qm_Gv) ho (fun h1 ho => ?_)
      refine qm_Ret.sts 2 (f' := (43, [some (qm_r 0 4 a0), some (qm_r 0 2 a1), some (qm_i x2), some (qm_i x3), some (qm_i (0 : Int32)), some (qm_i (0 : Int32)), none], [], h1)) rfl ?_
      exact rX4_divide_43 ho
set_option maxRecDepth 20000 in
set_option maxHeartbeats 2000000 in
theorem rX4_divide_0   {a0 : Nat} {a1 : Nat} {x2 : Int32} {h : qm_H} {r : qm_H} (ho : qX4_divide  a0 a1 x2 h = some r) : qm_Ret mX4_divide (0, [some (qm_r 0 4 a0), some (qm_r 0 2 a1), some (qm_i x2), none, none, none, none], [], h) (qm_Gv r) := by
  unfold qX4_divide at ho
  refine qm_Ret.sts 4 (f' := (5, [some (qm_r 0 4 a0), some (qm_r 0 2 a1), some (qm_i x2), some (qm_i (1 : Int32)), some (qm_i (1 : Int32)), none, none], [], h)) rfl ?_
  exact rX4_divide_5 ho
theorem cX4_divide_ok : ∀ q ∈ ([(94, 0, 4, wX4_mostOf)] : List (Nat × Nat × Nat × qm_C)), qm_CallOK RX4 2 48 q.2.1 q.1 q.2.2.1 q.2.2.2 := List.forall_mem_cons.mpr ⟨Or.inl ⟨yX4_mostOf, cX4_mostOf, 8, (some .int), 1, 21, _, sX4_mostOf, ⟨by decide, by decide⟩, ⟨jX4_mostOf, kRX4_94, uRX4⟩, ⟨by decide, by decide, rfl⟩, Or.inl ⟨rfl, rfl, iX4_mostOf, recvX4_mostOf⟩⟩, fun _ h => absurd h List.not_mem_nil⟩
theorem sX4_divide : qm_Snd yX4_divide cX4_divide 7 none 2 48 wX4_divide := qm_met (fld := fun k => qm_lk k pfRX4) (con := fun k => qm_lk k pcRX4) (call := fun k => qm_lk k [(94, 0, 4, wX4_mostOf)]) (tab := qm_tab aX4_divide) (plainFor_of_name (by decide)) (qm_fld_ok pfRX4_ok) (qm_con_ok pcRX4_ok) (fun idx kd n f hc => cX4_divide_ok (idx, kd, n, f) (qm_lk_mem hc)) (qm_tab_ok aX4_divide_ok) (fun vs h o hw => by
  unfold wX4_divide at hw
  split at hw
  · obtain ⟨r, hr, rfl⟩ := Option.map_eq_some_iff.mp hw
    exact ⟨Nat.le_of_ble_eq_true rfl, rX4_divide_0 (hr)⟩
  · cases hw)
theorem recvX4_divide : ∀ vs h o, wX4_divide vs h = some o → ∃ ci a rest, vs = qm_r 0 ci a :: rest ∧ qm_R ci = yX4_divide.cls := by
  intro vs h o hw
  unfold wX4_divide at hw
  split at hw
  · exact ⟨_, _, _, rfl, rfl⟩
  · cases hw
-- RX5 tally(IIII)V
theorem jX5_tally : Jvm.Cond.code yX5_tally cX5_tally 8 none ∈ qm_all := List.mem_filter.mpr ⟨by decide +kernel, rfl⟩
theorem iX5_tally : Jvm.Cond.instanceMethod yX5_tally ∈ qm_all ∧ Jvm.Cond.selects yX5_tally.cls yX5_tally yX5_tally ∈ qm_all := ⟨List.mem_filter.mpr ⟨by decide +kernel, rfl⟩, List.mem_filter.mpr ⟨by decide +kernel, rfl⟩⟩
def wX5_tally : qm_C := fun vs h => match vs with
  | [.inr (.inr (some (0, 5, p0))), .inl p1, .inl p2, .inl p3, .inl p4] => (qX5_tally p0 p1 p2 p3 p4 h).map qm_Gv
  | _ => none
def aX5_tally : List (Option (Instr × Nat)) := [some (.iconst 0, 1), some (.istore 5, 2), none, some (.iload 5, 2), none, some (.iload 4, 2), none, some (.if_icmp .ge 58, 3), none, none, some (.iconst 0, 1), some (.istore 6, 2), none, some (.iload 6, 2), none, some (.iload_n 3, 1), some (.if_icmp .ge 43, 3), none, none, some (.iload_n 2, 1), some (.iload_n 1, 1), some (.iload 5, 2), none, some (.imul, 1), some (.iadd, 1), some (.iload 6, 2), none, some (.iadd, 1), some (.istore 7, 2), none, some (.iload 7, 2), none, some (.ifCond .lt 21, 3), none, none, some (.iload 7, 2), none, some (.bipush 64, 2), none, some (.if_icmp .ge 14, 3), none, none, some (.aload_n 0, 1), some (.getfield 9, 3), none, none, some (.iload 7, 2), none, some (.dup2, 1), some (.iaload, 1), some (.iconst 1, 1), some (.iadd, 1), some (.iastore, 1), some (.iinc 6 1, 3), none, none, some (.goto (-43), 3), none, none, some (.iinc 5 1, 3), none, none, some (.goto (-59), 3), none, none, some (.return_, 1)]
theorem aX5_tally_ok : qm_tabok cX5_tally aX5_tally = true := by decide +kernel
def mX5_tally : qm_M := (none, (fun k => qm_lk k pfRX5), (fun k => qm_lk k pcRX5), (fun k => qm_lk k []), qm_tab aX5_tally)
set_option maxRecDepth 20000 in
set_option maxHeartbeats 2000000 in
theorem rX5_tally_13 {K3 : Nat → Int32 → Int32 → Int32 → Int32 → Int32 → qm_H → Option (qm_H)} (H3 : ∀ {a0 : Nat} {x1 : Int32} {x2 : Int32} {x3 : Int32} {x4 : Int32} {x5 : Int32} {d6 : Option qm_V} {d7 : Option qm_V} {h : qm_H} {r : qm_H}, K3 a0 x1 x2 x3 x4 x5 h = some r → qm_Ret mX5_tally (3, [some (qm_r 0 5 a0), some (qm_i x1), some (qm_i x2), some (qm_i x3), some (qm_i x4), some (qm_i x5), d6, d7], [], h) (qm_Gv r)) : ∀ {fuel : Nat} {a0 : Nat} {x1 : Int32} {x2 : Int32} {x3 : Int32} {x4 : Int32} {x5 : Int32} {x6 : Int32} {d7 : Option qm_V} {h : qm_H} {r : qm_H}, qX5_tally_13 K3 fuel a0 x1 x2 x3 x4 x5 x6 h = some r → qm_Ret mX5_tally (13, [some (qm_r 0 5 a0), some (qm_i x1), some (qm_i x2), some (qm_i x3), some (qm_i x4), some (qm_i x5), some (qm_i x6), d7], [], h) (qm_Gv r) := by
  intro fuel
  induction fuel with
  | zero => intros; rename_i ho; cases ho
  | succ n ih =>
    intro a0 x1 x2 x3 x4 x5 x6 d7 h r ho
    unfold qX5_tally_13 at ho
    refine qm_Ret.sts 2 (f' := (16, [some (qm_r 0 5 a0), some (qm_i x1), some (qm_i x2), some (qm_i x3), some (qm_i x4), some (qm_i x5), some (qm_i x6), d7], [qm_i x3, qm_i x6], h)) rfl ?_
    refine qm_Ret.ge (t := 59) (e := 19) rfl (fun hc => ?_) (fun hc => ?_)
    · rw [if_pos hc] at ho
      refine qm_Ret.sts 7 (f' := (28, [some (qm_r 0 5 a0), some (qm_i x1), some (qm_i x2), some (qm_i x3), some (qm_i x4), some (qm_i x5), some (qm_i x6), d7], [qm_i ((x2 + (x1 * x5)) + x6)], h)) rfl ?_
      refine qm_Ret.lets (F := fun v1 => (28, [some (qm_r 0 5 a0), some (qm_i x1), some (qm_i x2), some (qm_i x3), some (qm_i x4), some (qm_i x5), some (qm_i x6), d7], [qm_i v1], h)) (G := qm_Gv) ho (fun v1 ho => ?_)
      refine qm_Ret.sts 2 (f' := (32, [some (qm_r 0 5 a0), some (qm_i x1), some (qm_i x2), some (qm_i x3), some (qm_i x4), some (qm_i x5), some (qm_i x6), some (qm_i v1)], [qm_i v1], h)) rfl ?_
      refine qm_Ret.lt (t := 53) (e := 35) rfl (fun hc => ?_) (fun hc => ?_)
      · rw [if_pos hc] at ho
        refine qm_Ret.sts 2 (f' := (13, [some (qm_r 0 5 a0), some (qm_i x1), some (qm_i x2), some (qm_i x3), some (qm_i x4), some (qm_i x5), some (qm_i (x6 + (1 : Int32))), some (qm_i v1)], [], h)) rfl ?_
        exact ih ho
      · rw [if_neg hc] at ho
        refine qm_Ret.sts 2 (f' := (39, [some (qm_r 0 5 a0), some (qm_i x1), some (qm_i x2), some (qm_i x3), some (qm_i x4), some (qm_i x5), some (qm_i x6), some (qm_i v1)], [qm_i (64 : Int32), qm_i v1], h)) rfl ?_
        refine qm_Ret.ge (t := 53) (e := 42) rfl (fun hc => ?_) (fun hc => ?_)
        · rw [if_pos hc] at ho
          refine qm_Ret.sts 4 (f' := (49, [some (qm_r 0 5 a0), some (qm_i x1), some (qm_i x2), some (qm_i x3), some (qm_i x4), some (qm_i x5), some (qm_i x6), some (qm_i v1)], [qm_i v1, qm_r 1 64 (a0 + 1), qm_i v1, qm_r 1 64 (a0 + 1)], h)) rfl ?_
          obtain ⟨hg, ho⟩ := qm_ifn ho
          refine qm_Ret.gn (f1 := (50, [some (qm_r 0 5 a0), some (qm_i x1), some (qm_i x2), some (qm_i x3), some (qm_i x4), some (qm_i x5), some (qm_i x6), some (qm_i v1)], [qm_i (h.1 (a0 + 1) (v1).toNatClampNeg), qm_i v1, qm_r 1 64 (a0 + 1)], h)) hg rfl ?_
          refine qm_Ret.sts 2 (f' := (52, [some (qm_r 0 5 a0), some (qm_i x1), some (qm_i x2), some (qm_i x3), some (qm_i x4), some (qm_i x5), some (qm_i x6), some (qm_i v1)], [qm_i ((h.1 (a0 + 1) (v1).toNatClampNeg) + (1 : Int32)), qm_i v1, qm_r 1 64 (a0 + 1)], h)) rfl ?_
          obtain ⟨hg, ho⟩ := qm_ifn ho
          refine qm_Ret.gn (f1 := (53, [some (qm_r 0 5 a0), some (qm_i x1), some (qm_i x2), some (qm_i x3), some (qm_i x4), some (qm_i x5), some (qm_i x6), some (qm_i v1)], [], (qm_seti h (a0 + 1) (v1).toNatClampNeg ((h.1 (a0 + 1) (v1).toNatClampNeg) + (1 : Int32))))) hg rfl ?_
          refine qm_Ret.lets (F := fun h2 => (53, [some (qm_r 0 5 a0), some (qm_i x1), some (qm_i x2), some (qm_i x3), some (qm_i x4), some (qm_i x5), some (qm_i x6), some (qm_i v1)], [], h2)) (G := qm_Gv) ho (fun h2 ho => ?_)
          refine qm_Ret.sts 2 (f' := (13, [some (qm_r 0 5 a0), some (qm_i x1), some (qm_i x2), some (qm_i x3), some (qm_i x4), some (qm_i x5), some (qm_i (x6 + (1 : Int32))), some (qm_i v1)], [], h2)) rfl ?_
          exact ih ho
        · rw [if_neg hc] at ho
          refine qm_Ret.sts 2 (f' := (13, [some (qm_r 0 5 a0), some (qm_i x1), some (qm_i x2), some (qm_i x3), some (qm_i x4), some (qm_i x5), some (qm_i (x6 + (1 : Int32))), some (qm_i v1)], [], h)) rfl ?_
          exact ih ho
    · rw [if_neg hc] at ho
      refine qm_Ret.sts 2 (f' := (3, [some (qm_r 0 5 a0), some (qm_i x1), some (qm_i x2), some (qm_i x3), some (qm_i x4), some (qm_i (x5 + (1 : Int32))), some (qm_i x6), d7], [], h)) rfl ?_
      exact H3 ho
set_option maxRecDepth 20000 in
set_option maxHeartbeats 2000000 in
theorem rX5_tally_3   : ∀ {fuel : Nat} {a0 : Nat} {x1 : Int32} {x2 : Int32} {x3 : Int32} {x4 : Int32} {x5 : Int32} {d6 : Option qm_V} {d7 : Option qm_V} {h : qm_H} {r : qm_H}, qX5_tally_3  fuel a0 x1 x2 x3 x4 x5 h = some r → qm_Ret mX5_tally (3, [some (qm_r 0 5 a0), some (qm_i x1), some (qm_i x2), some (qm_i x3), some (qm_i x4), some (qm_i x5), d6, d7], [], h) (qm_Gv r) := by
  intro fuel
  induction fuel with
  | zero => intros; rename_i ho; cases ho
  | succ n ih =>
    intro a0 x1 x2 x3 x4 x5 d6 d7 h r ho
    unfold qX5_tally_3 at ho
    refine qm_Ret.sts 2 (f' := (7, [some (qm_r 0 5 a0), some (qm_i x1), some (qm_i x2), some (qm_i x3), some (qm_i x4), some (qm_i x5), d6, d7], [qm_i x4, qm_i x5], h)) rfl ?_
    refine qm_Ret.ge (t := 65) (e := 10) rfl (fun hc => ?_) (fun hc => ?_)
    · rw [if_pos hc] at ho
      refine qm_Ret.sts 2 (f' := (13, [some (qm_r 0 5 a0), some (qm_i x1), some (qm_i x2), some (qm_i x3), some (qm_i x4), some (qm_i x5), some (qm_i (0 : Int32)), d7], [], h)) rfl ?_
      exact rX5_tally_13 (ih) ho
    · rw [if_neg hc] at ho
      cases ho
      exact qm_Ret.ret 1 rfl
set_option maxRecDepth 20000 in
set_option maxHeartbeats 2000000 in
theorem rX5_tally_0   {a0 : Nat} {x1 : Int32} {x2 : Int32} {x3 : Int32} {x4 : Int32} {h : qm_H} {r : qm_H} (ho : qX5_tally  a0 x1 x2 x3 x4 h = some r) : qm_Ret mX5_tally (0, [some (qm_r 0 5 a0), some (qm_i x1), some (qm_i x2), some (qm_i x3), some (qm_i x4), none, none, none], [], h) (qm_Gv r) := by
  unfold qX5_tally at ho
  refine qm_Ret.sts 2 (f' := (3, [some (qm_r 0 5 a0), some (qm_i x1), some (qm_i x2), some (qm_i x3), some (qm_i x4), some (qm_i (0 : Int32)), none, none], [], h)) rfl ?_
  exact rX5_tally_3 ho
theorem cX5_tally_ok : ∀ q ∈ ([] : List (Nat × Nat × Nat × qm_C)), qm_CallOK RX5 0 0 q.2.1 q.1 q.2.2.1 q.2.2.2 := fun _ h => absurd h List.not_mem_nil
theorem sX5_tally : qm_Snd yX5_tally cX5_tally 8 none 0 0 wX5_tally := qm_met (fld := fun k => qm_lk k pfRX5) (con := fun k => qm_lk k pcRX5) (call := fun k => qm_lk k []) (tab := qm_tab aX5_tally) (plainFor_of_name (by decide)) (qm_fld_ok pfRX5_ok) (qm_con_ok pcRX5_ok) (fun idx kd n f hc => cX5_tally_ok (idx, kd, n, f) (qm_lk_mem hc)) (qm_tab_ok aX5_tally_ok) (fun vs h o hw => by
  unfold wX5_tally at hw
  split at hw
  · obtain ⟨r, hr, rfl⟩ := Option.map_eq_some_iff.mp hw
    exact ⟨Nat.le_of_ble_eq_true rfl, rX5_tally_0 (hr)⟩
  · cases hw)
theorem recvX5_tally : ∀ vs h o, wX5_tally vs h = some o → ∃ ci a rest, vs = qm_r 0 ci a :: rest ∧ qm_R ci = yX5_tally.cls := by
  intro vs h o hw
  unfold wX5_tally at hw
  split at hw
  · exact ⟨_, _, _, rfl, rfl⟩
  · cases hw
-- RX5 lookAtSize(LWillowLaw$Clues;II)V
theorem jX5_lookAtSize : Jvm.Cond.code yX5_lookAtSize cX5_lookAtSize 7 none ∈ qm_all := List.mem_filter.mpr ⟨by decide +kernel, rfl⟩
theorem iX5_lookAtSize : Jvm.Cond.instanceMethod yX5_lookAtSize ∈ qm_all ∧ Jvm.Cond.selects yX5_lookAtSize.cls yX5_lookAtSize yX5_lookAtSize ∈ qm_all := ⟨List.mem_filter.mpr ⟨by decide +kernel, rfl⟩, List.mem_filter.mpr ⟨by decide +kernel, rfl⟩⟩
def wX5_lookAtSize : qm_C := fun vs h => match vs with
  | [.inr (.inr (some (0, 5, p0))), .inr (.inr (some (0, 1, p1))), .inl p2, .inl p3] => (qX5_lookAtSize p0 p1 p2 p3 h).map qm_Gv
  | _ => none
def aX5_lookAtSize : List (Option (Instr × Nat)) := [some (.iconst 0, 1), some (.istore 4, 2), none, some (.iload 4, 2), none, some (.iload_n 3, 1), some (.iadd, 1), some (.aload_n 1, 1), some (.getfield 31, 3), none, none, some (.if_icmp .gt 115, 3), none, none, some (.iconst 0, 1), some (.istore 5, 2), none, some (.iload 5, 2), none, some (.iload_n 2, 1), some (.iadd, 1), some (.aload_n 1, 1), some (.getfield 26, 3), none, none, some (.if_icmp .gt 95, 3), none, none, some (.aload_n 1, 1), some (.iload 4, 2), none, some (.iload 5, 2), none, some (.iload_n 2, 1), some (.iload_n 3, 1), some (.invokevirtual 51, 3), none, none, some (.ifCond .eq 76, 3), none, none, some (.aload_n 1, 1), some (.getfield 26, 3), none, none, some (.iload 4, 2), none, some (.imul, 1), some (.iload 5, 2), none, some (.iadd, 1), some (.istore 6, 2), none, some (.aload_n 0, 1), some (.getfield 19, 3), none, none, some (.aload_n 0, 1), some (.getfield 40, 3), none, none, some (.if_icmp .ne 24, 3), none, none, some (.aload_n 0, 1), some (.sipush 512, 3), none, none, some (.iload_n 3, 1), some (.iconst 1, 1), some (.isub, 1), some (.imul, 1), some (.bipush 64, 2), none, some (.iload_n 2, 1), some (.iconst 1, 1), some (.isub, 1), some (.imul, 1), some (.iadd, 1), some (.iload 6, 2), none, some (.iadd, 1), some (.putfield 23, 3), none, none, some (.aload_n 0, 1), some (.dup, 1), some (.getfield 19, 3), none, none, some (.iconst 1, 1), some (.iadd, 1), some (.putfield 19, 3), none, none, some (.aload_n 0, 1), some (.getfield 43, 3), none, none, some (.ifCond .eq 15, 3), none, none, some (.aload_n 0, 1), some (.aload_n 1, 1), some (.getfield 26, 3), none, none, some (.iload 6, 2), none, some (.iload_n 2, 1), some (.iload_n 3, 1), some (.invokevirtual 55, 3), none, none, some (.iinc 5 1, 3), none, none, some (.goto (-100), 3), none, none, some (.iinc 4 1, 3), none, none, some (.goto (-120), 3), none, none, some (.return_, 1)]
theorem aX5_lookAtSize_ok : qm_tabok cX5_lookAtSize aX5_lookAtSize = true := by decide +kernel
def mX5_lookAtSize : qm_M := (none, (fun k => qm_lk k pfRX5), (fun k => qm_lk k pcRX5), (fun k => qm_lk k [(55, 0, 5, wX5_tally), (51, 0, 5, wX1_allow)]), qm_tab aX5_lookAtSize)
set_option maxRecDepth 20000 in
set_option maxHeartbeats 2000000 in
theorem rX5_lookAtSize_85 {K3 : Nat → Nat → Int32 → Int32 → Int32 → qm_H → Option (qm_H)} {K17 : Nat → Nat → Int32 → Int32 → Int32 → Int32 → qm_H → Option (qm_H)} (H3 : ∀ {a0 : Nat} {a1 : Nat} {x2 : Int32} {x3 : Int32} {x4 : Int32} {d5 : Option qm_V} {d6 : Option qm_V} {h : qm_H} {r : qm_H}, K3 a0 a1 x2 x3 x4 h = some r → qm_Ret mX5_lookAtSize (3, [some (qm_r 0 5 a0), some (qm_r 0 1 a1), some (qm_i x2), some (qm_i x3), some (qm_i x4), d5, d6], [], h) (qm_Gv r)) (H17 : ∀ {a0 : Nat} {a1 : Nat} {x2 : Int32} {x3 : Int32} {x4 : Int32} {x5 : Int32} {d6 : Option qm_V} {h : qm_H} {r : qm_H}, K17 a0 a1 x2 x3 x4 x5 h = some r → qm_Ret mX5_lookAtSize (17, [some (qm_r 0 5 a0), some (qm_r 0 1 a1), some (qm_i x2), some (qm_i x3), some (qm_i x4), some (qm_i x5), d6], [], h) (qm_Gv r)) {a0 : Nat} {a1 : Nat} {x2 : Int32} {x3 : Int32} {x4 : Int32} {x5 : Int32} {x6 : Int32} {h : qm_H} {r : qm_H} (ho : qX5_lookAtSize_85 K3 K17 a0 a1 x2 x3 x4 x5 x6 h = some r) : qm_Ret mX5_lookAtSize (85, [some (qm_r 0 5 a0), some (qm_r 0 1 a1), some (qm_i x2), some (qm_i x3), some (qm_i x4), some (qm_i x5), some (qm_i x6)], [], h) (qm_Gv r) := by
  unfold qX5_lookAtSize_85 at ho
  refine qm_Ret.sts 6 (f' := (95, [some (qm_r 0 5 a0), some (qm_r 0 1 a1), some (qm_i x2), some (qm_i x3), some (qm_i x4), some (qm_i x5), some (qm_i x6)], [], (qm_seti h a0 1 ((h.1 a0 1) + (1 : Int32))))) rfl ?_
  refine qm_Ret.lets (F := fun h1 => (95, [some (qm_r 0 5 a0), some (qm_r 0 1 a1), some (qm_i x2), some (qm_i x3), some (qm_i x4), some (qm_i x5), some (qm_i x6)], [], h1)) (G := qm_Gv) ho (fun h1 ho => ?_)
  refine qm_Ret.sts 2 (f' := (99, [some (qm_r 0 5 a0), some (qm_r 0 1 a1), some (qm_i x2), some (qm_i x3), some (qm_i x4), some (qm_i x5), some (qm_i x6)], [qm_i (h1.1 a0 4)], h1)) rfl ?_
  refine qm_Ret.eq (t := 114) (e := 102) rfl (fun hc => ?_) (fun hc => ?_)
  · rw [if_pos hc] at ho
    refine qm_Ret.sts 2 (f' := (17, [some (qm_r 0 5 a0), some (qm_r 0 1 a1), some (qm_i x2), some (qm_i x3), some (qm_i x4), some (qm_i (x5 + (1 : Int32))), some (qm_i x6)], [], h1)) rfl ?_
    exact H17 ho
  · rw [if_neg hc] at ho
    refine qm_Ret.sts 6 (f' := (111, [some (qm_r 0 5 a0), some (qm_r 0 1 a1), some (qm_i x2), some (qm_i x3), some (qm_i x4), some (qm_i x5), some (qm_i x6)], [qm_i x3, qm_i x2, qm_i x6, qm_i (h1.1 a1 1), qm_r 0 5 a0], h1)) rfl ?_
    obtain ⟨h2, hr, ho⟩ := qm_bd ho
    refine qm_Ret.call (X := wX5_tally [qm_r 0 5 a0, qm_i (h1.1 a1 1), qm_i x6, qm_i x2, qm_i x3] h1) (o1 := (none, h2)) (qm_mp (G := qm_Gv) hr) rfl ?_
    show qm_Ret _ (114, [some (qm_r 0 5 a0), some (qm_r 0 1 a1), some (qm_i x2), some (qm_i x3), some (qm_i x4), some (qm_i x5), some (qm_i x6)], [], h2) _
    refine qm_Ret.sts 2 (f' := (17, [some (qm_r 0 5 a0), some (qm_r 0 1 a1), some (qm_i x2), some (qm_i x3), some (qm_i x4), some (qm_i (x5 + (1 : Int32))), some (qm_i x6)], [], h2)) rfl ?_
    exact H17 ho
set_option maxRecDepth 20000 in
set_option maxHeartbeats 2000000 in
theorem rX5_lookAtSize_17 {K3 : Nat → Nat → Int32 → Int32 → Int32 → qm_H → Option (qm_H)} (H3 : ∀ {a0 : Nat} {a1 : Nat} {x2 : Int32} {x3 : Int32} {x4 : Int32} {d5 : Option qm_V} {d6 : Option qm_V} {h : qm_H} {r : qm_H}, K3 a0 a1 x2 x3 x4 h = some r → qm_Ret mX5_lookAtSize (3, [some (qm_r 0 5 a0), some (qm_r 0 1 a1), some (qm_i x2), some (qm_i x3), some (qm_i x4), d5, d6], [], h) (qm_Gv r)) : ∀ {fuel : Nat} {a0 : Nat} {a1 : Nat} {x2 : Int32} {x3 : Int32} {x4 : Int32} {x5 : Int32} {d6 : Option qm_V} {h : qm_H} {r : qm_H}, qX5_lookAtSize_17 K3 fuel a0 a1 x2 x3 x4 x5 h = some r → qm_Ret mX5_lookAtSize (17, [some (qm_r 0 5 a0), some (qm_r 0 1 a1), some (qm_i x2), some (qm_i x3), some (qm_i x4), some (qm_i x5), d6], [], h) (qm_Gv r) := by
  intro fuel
  induction fuel with
  | zero => intros; rename_i ho; cases ho
  | succ n ih =>
    intro a0 a1 x2 x3 x4 x5 d6 h r ho
    unfold qX5_lookAtSize_17 at ho
    refine qm_Ret.sts 5 (f' := (25, [some (qm_r 0 5 a0), some (qm_r 0 1 a1), some (qm_i x2), some (qm_i x3), some (qm_i x4), some (qm_i x5), d6], [qm_i (h.1 a1 1), qm_i (x5 + x2)], h)) rfl ?_
    refine qm_Ret.gt (t := 120) (e := 28) rfl (fun hc => ?_) (fun hc => ?_)
    · rw [if_pos hc] at ho
      refine qm_Ret.sts 2 (f' := (3, [some (qm_r 0 5 a0), some (qm_r 0 1 a1), some (qm_i x2), some (qm_i x3), some (qm_i (x4 + (1 : Int32))), some (qm_i x5), d6], [], h)) rfl ?_
      exact H3 ho
    · rw [if_neg hc] at ho
      refine qm_Ret.sts 5 (f' := (35, [some (qm_r 0 5 a0), some (qm_r 0 1 a1), some (qm_i x2), some (qm_i x3), some (qm_i x4), some (qm_i x5), d6], [qm_i x3, qm_i x2, qm_i x5, qm_i x4, qm_r 0 1 a1], h)) rfl ?_
      obtain ⟨r2, h1, hr, ho⟩ := qm_b2e ho
      refine qm_Ret.call (X := wX1_allow [qm_r 0 1 a1, qm_i x4, qm_i x5, qm_i x2, qm_i x3] h) (o1 := (some (qm_i r2), h1)) (qm_mp (G := qm_Gi) hr) rfl ?_
      show qm_Ret _ (38, [some (qm_r 0 5 a0), some (qm_r 0 1 a1), some (qm_i x2), some (qm_i x3), some (qm_i x4), some (qm_i x5), d6], [qm_i r2], h1) _
      refine qm_Ret.eq (t := 114) (e := 41) rfl (fun hc => ?_) (fun hc => ?_)
      · rw [if_pos hc] at ho
        refine qm_Ret.sts 2 (f' := (17, [some (qm_r 0 5 a0), some (qm_r 0 1 a1), some (qm_i x2), some (qm_i x3), some (qm_i x4), some (qm_i (x5 + (1 : Int32))), d6], [], h1)) rfl ?_
        exact ih ho
      · rw [if_neg hc] at ho
        refine qm_Ret.sts 6 (f' := (51, [some (qm_r 0 5 a0), some (qm_r 0 1 a1), some (qm_i x2), some (qm_i x3), some (qm_i x4), some (qm_i x5), d6], [qm_i (((h1.1 a1 1) * x4) + x5)], h1)) rfl ?_
        refine qm_Ret.lets (F := fun v3 => (51, [some (qm_r 0 5 a0), some (qm_r 0 1 a1), some (qm_i x2), some (qm_i x3), some (qm_i x4), some (qm_i x5), d6], [qm_i v3], h1)) (G := qm_Gv) ho (fun v3 ho => ?_)
        refine qm_Ret.sts 5 (f' := (61, [some (qm_r 0 5 a0), some (qm_r 0 1 a1), some (qm_i x2), some (qm_i x3), some (qm_i x4), some (qm_i x5), some (qm_i v3)], [qm_i (h1.1 a0 2), qm_i (h1.1 a0 1)], h1)) rfl ?_
        refine qm_Ret.ne (t := 85) (e := 64) rfl (fun hc => ?_) (fun hc => ?_)
        · rw [if_pos hc] at ho
          refine qm_Ret.sts 15 (f' := (85, [some (qm_r 0 5 a0), some (qm_r 0 1 a1), some (qm_i x2), some (qm_i x3), some (qm_i x4), some (qm_i x5), some (qm_i v3)], [], (qm_seti h1 a0 3 ((((512 : Int32) * (x3 - (1 : Int32))) + ((64 : Int32) * (x2 - (1 : Int32)))) + v3)))) rfl ?_
          exact rX5_lookAtSize_85 H3 (ih) ho
        · rw [if_neg hc] at ho
          exact rX5_lookAtSize_85 H3 (ih) ho
set_option maxRecDepth 20000 in
set_option maxHeartbeats 2000000 in
theorem rX5_lookAtSize_3   : ∀ {fuel : Nat} {a0 : Nat} {a1 : Nat} {x2 : Int32} {x3 : Int32} {x4 : Int32} {d5 : Option qm_V} {d6 : Option qm_V} {h : qm_H} {r : qm_H}, qX5_lookAtSize_3  fuel a0 a1 x2 x3 x4 h = some r → qm_Ret mX5_lookAtSize (3, [some (qm_r 0 5 a0), some (qm_r 0 1 a1), some (qm_i x2), some (qm_i x3), some (qm_i x4), d5, d6], [], h) (qm_Gv r) := by
  intro fuel
  induction fuel with
  | zero => intros; rename_i ho; cases ho
  | succ n ih =>
    intro a0 a1 x2 x3 x4 d5 d6 h r ho
    unfold qX5_lookAtSize_3 at ho
    refine qm_Ret.sts 5 (f' := (11, [some (qm_r 0 5 a0), some (qm_r 0 1 a1), some (qm_i x2), some (qm_i x3), some (qm_i x4), d5, d6], [qm_i (h.1 a1 2), qm_i (x4 + x3)], h)) rfl ?_
    refine qm_Ret.gt (t := 126) (e := 14) rfl (fun hc => ?_) (fun hc => ?_)
    · rw [if_pos hc] at ho
      cases ho
      exact qm_Ret.ret 1 rfl
    · rw [if_neg hc] at ho
      refine qm_Ret.sts 2 (f' := (17, [some (qm_r 0 5 a0), some (qm_r 0 1 a1), some (qm_i x2), some (qm_i x3), some (qm_i x4), some (qm_i (0 : Int32)), d6], [], h)) rfl ?_
      exact rX5_lookAtSize_17 (ih) ho
set_option maxRecDepth 20000 in
set_option maxHeartbeats 2000000 in
theorem rX5_lookAtSize_0   {a0 : Nat} {a1 : Nat} {x2 : Int32} {x3 : Int32} {h : qm_H} {r : qm_H} (ho : qX5_lookAtSize  a0 a1 x2 x3 h = some r) : qm_Ret mX5_lookAtSize (0, [some (qm_r 0 5 a0), some (qm_r 0 1 a1), some (qm_i x2), some (qm_i x3), none, none, none], [], h) (qm_Gv r) := by
  unfold qX5_lookAtSize at ho
  refine qm_Ret.sts 2 (f' := (3, [some (qm_r 0 5 a0), some (qm_r 0 1 a1), some (qm_i x2), some (qm_i x3), some (qm_i (0 : Int32)), none, none], [], h)) rfl ?_
  exact rX5_lookAtSize_3 ho
theorem cX5_lookAtSize_ok : ∀ q ∈ ([(55, 0, 5, wX5_tally), (51, 0, 5, wX1_allow)] : List (Nat × Nat × Nat × qm_C)), qm_CallOK RX5 2 51 q.2.1 q.1 q.2.2.1 q.2.2.2 := List.forall_mem_cons.mpr ⟨Or.inl ⟨yX5_tally, cX5_tally, 8, none, 0, 0, _, sX5_tally, ⟨by decide, by decide⟩, ⟨jX5_tally, kRX5_55, uRX5⟩, ⟨by decide, by decide, rfl⟩, Or.inl ⟨rfl, rfl, iX5_tally, recvX5_tally⟩⟩, List.forall_mem_cons.mpr ⟨Or.inl ⟨yX1_allow, cX1_allow, 10, (some .boolean), 1, 22, _, sX1_allow, ⟨by decide, by decide⟩, ⟨jX1_allow, kRX5_51, uRX1⟩, ⟨by decide, by decide, rfl⟩, Or.inl ⟨rfl, rfl, iX1_allow, recvX1_allow⟩⟩, fun _ h => absurd h List.not_mem_nil⟩⟩
theorem sX5_lookAtSize : qm_Snd yX5_lookAtSize cX5_lookAtSize 7 none 2 51 wX5_lookAtSize := qm_met (fld := fun k => qm_lk k pfRX5) (con := fun k => qm_lk k pcRX5) (call := fun k => qm_lk k [(55, 0, 5, wX5_tally), (51, 0, 5, wX1_allow)]) (tab := qm_tab aX5_lookAtSize) (plainFor_of_name (by decide)) (qm_fld_ok pfRX5_ok) (qm_con_ok pcRX5_ok) (fun idx kd n f hc => cX5_lookAtSize_ok (idx, kd, n, f) (qm_lk_mem hc)) (qm_tab_ok aX5_lookAtSize_ok) (fun vs h o hw => by
  unfold wX5_lookAtSize at hw
  split at hw
  · obtain ⟨r, hr, rfl⟩ := Option.map_eq_some_iff.mp hw
    exact ⟨Nat.le_of_ble_eq_true rfl, rX5_lookAtSize_0 (hr)⟩
  · cases hw)
theorem recvX5_lookAtSize : ∀ vs h o, wX5_lookAtSize vs h = some o → ∃ ci a rest, vs = qm_r 0 ci a :: rest ∧ qm_R ci = yX5_lookAtSize.cls := by
  intro vs h o hw
  unfold wX5_lookAtSize at hw
  split at hw
  · exact ⟨_, _, _, rfl, rfl⟩
  · cases hw
-- RX5 look(LWillowLaw$Clues;IZ)V
theorem jX5_look : Jvm.Cond.code yX5_look cX5_look 6 none ∈ qm_all := List.mem_filter.mpr ⟨by decide +kernel, rfl⟩
theorem iX5_look : Jvm.Cond.instanceMethod yX5_look ∈ qm_all ∧ Jvm.Cond.selects yX5_look.cls yX5_look yX5_look ∈ qm_all := ⟨List.mem_filter.mpr ⟨by decide +kernel, rfl⟩, List.mem_filter.mpr ⟨by decide +kernel, rfl⟩⟩
def wX5_look : qm_C := fun vs h => match vs with
  | [.inr (.inr (some (0, 5, p0))), .inr (.inr (some (0, 1, p1))), .inl p2, .inl p3] => (qX5_look p0 p1 p2 p3 h).map qm_Gv
  | _ => none
def aX5_look : List (Option (Instr × Nat)) := [some (.aload_n 0, 1), some (.iconst 0, 1), some (.putfield 19, 3), none, none, some (.aload_n 0, 1), some (.iload_n 2, 1), some (.putfield 40, 3), none, none, some (.aload_n 0, 1), some (.iconst (-1), 1), some (.putfield 23, 3), none, none, some (.aload_n 0, 1), some (.iload_n 3, 1), some (.putfield 43, 3), none, none, some (.iconst 0, 1), some (.istore 4, 2), none, some (.iload 4, 2), none, some (.bipush 64, 2), none, some (.if_icmp .ge 17, 3), none, none, some (.aload_n 0, 1), some (.getfield 9, 3), none, none, some (.iload 4, 2), none, some (.iconst 0, 1), some (.iastore, 1), some (.iinc 4 1, 3), none, none, some (.goto (-18), 3), none, none, some (.iconst 1, 1), some (.istore 4, 2), none, some (.iload 4, 2), none, some (.aload_n 1, 1), some (.getfield 31, 3), none, none, some (.if_icmp .gt 36, 3), none, none, some (.iconst 1, 1), some (.istore 5, 2), none, some (.iload 5, 2), none, some (.aload_n 1, 1), some (.getfield 26, 3), none, none, some (.if_icmp .gt 18, 3), none, none, some (.aload_n 0, 1), some (.aload_n 1, 1), some (.iload 5, 2), none, some (.iload 4, 2), none, some (.invokevirtual 47, 3), none, none, some (.iinc 5 1, 3), none, none, some (.goto (-21), 3), none, none, some (.iinc 4 1, 3), none, none, some (.goto (-39), 3), none, none, some (.return_, 1)]
theorem aX5_look_ok : qm_tabok cX5_look aX5_look = true := by decide +kernel
def mX5_look : qm_M := (none, (fun k => qm_lk k pfRX5), (fun k => qm_lk k pcRX5), (fun k => qm_lk k [(47, 0, 4, wX5_lookAtSize)]), qm_tab aX5_look)
set_option maxRecDepth 20000 in
set_option maxHeartbeats 2000000 in
theorem rX5_look_59 {K47 : Nat → Nat → Int32 → qm_H → Option (qm_H)} (H47 : ∀ {a0 : Nat} {a1 : Nat} {x4 : Int32} {xd2 : Int32} {xd3 : Int32} {d5 : Option qm_V} {h : qm_H} {r : qm_H}, K47 a0 a1 x4 h = some r → qm_Ret mX5_look (47, [some (qm_r 0 5 a0), some (qm_r 0 1 a1), some (qm_i xd2), some (qm_i xd3), some (qm_i x4), d5], [], h) (qm_Gv r)) : ∀ {fuel : Nat} {a0 : Nat} {a1 : Nat} {x4 : Int32} {x5 : Int32} {xd2 : Int32} {xd3 : Int32} {h : qm_H} {r : qm_H}, qX5_look_59 K47 fuel a0 a1 x4 x5 h = some r → qm_Ret mX5_look (59, [some (qm_r 0 5 a0), some (qm_r 0 1 a1), some (qm_i xd2), some (qm_i xd3), some (qm_i x4), some (qm_i x5)], [], h) (qm_Gv r) := by
  intro fuel
  induction fuel with
  | zero => intros; rename_i ho; cases ho
  | succ n ih =>
    intro a0 a1 x4 x5 xd2 xd3 h r ho
    unfold qX5_look_59 at ho
    refine qm_Ret.sts 3 (f' := (65, [some (qm_r 0 5 a0), some (qm_r 0 1 a1), some (qm_i xd2), some (qm_i xd3), some (qm_i x4), some (qm_i x5)], [qm_i (h.1 a1 1), qm_i x5], h)) rfl ?_
    refine qm_Ret.gt (t := 83) (e := 68) rfl (fun hc => ?_) (fun hc => ?_)
    · rw [if_pos hc] at ho
      refine qm_Ret.sts 2 (f' := (47, [some (qm_r 0 5 a0), some (qm_r 0 1 a1), some (qm_i xd2), some (qm_i xd3), some (qm_i (x4 + (1 : Int32))), some (qm_i x5)], [], h)) rfl ?_
      exact H47 ho
    · rw [if_neg hc] at ho
      refine qm_Ret.sts 4 (f' := (74, [some (qm_r 0 5 a0), some (qm_r 0 1 a1), some (qm_i xd2), some (qm_i xd3), some (qm_i x4), some (qm_i x5)], [qm_i x4, qm_i x5, qm_r 0 1 a1, qm_r 0 5 a0], h)) rfl ?_
      obtain ⟨h1, hr, ho⟩ := qm_bd ho
      refine qm_Ret.call (X := wX5_lookAtSize [qm_r 0 5 a0, qm_r 0 1 a1, qm_i x5, qm_i x4] h) (o1 := (none, h1)) (qm_mp (G := qm_Gv) hr) rfl ?_
      show qm_Ret _ (77, [some (qm_r 0 5 a0), some (qm_r 0 1 a1), some (qm_i xd2), some (qm_i xd3), some (qm_i x4), some (qm_i x5)], [], h1) _
      refine qm_Ret.sts 2 (f' := (59, [some (qm_r 0 5 a0), some (qm_r 0 1 a1), some (qm_i xd2), some (qm_i xd3), some (qm_i x4), some (qm_i (x5 + (1 : Int32)))], [], h1)) rfl ?_
      exact ih ho
set_option maxRecDepth 20000 in
set_option maxHeartbeats 2000000 in
theorem rX5_look_47   : ∀ {fuel : Nat} {a0 : Nat} {a1 : Nat} {x4 : Int32} {xd2 : Int32} {xd3 : Int32} {d5 : Option qm_V} {h : qm_H} {r : qm_H}, qX5_look_47  fuel a0 a1 x4 h = some r → qm_Ret mX5_look (47, [some (qm_r 0 5 a0), some (qm_r 0 1 a1), some (qm_i xd2), some (qm_i xd3), some (qm_i x4), d5], [], h) (qm_Gv r) := by
  intro fuel
  induction fuel with
  | zero => intros; rename_i ho; cases ho
  | succ n ih =>
    intro a0 a1 x4 xd2 xd3 d5 h r ho
    unfold qX5_look_47 at ho
    refine qm_Ret.sts 3 (f' := (53, [some (qm_r 0 5 a0), some (qm_r 0 1 a1), some (qm_i xd2), some (qm_i xd3), some (qm_i x4), d5], [qm_i (h.1 a1 2), qm_i x4], h)) rfl ?_
    refine qm_Ret.gt (t := 89) (e := 56) rfl (fun hc => ?_) (fun hc => ?_)
    · rw [if_pos hc] at ho
      cases ho
      exact qm_Ret.ret 1 rfl
    · rw [if_neg hc] at ho
      refine qm_Ret.sts 2 (f' := (59, [some (qm_r 0 5 a0), some (qm_r 0 1 a1), some (qm_i xd2), some (qm_i xd3), some (qm_i x4), some (qm_i (1 : Int32))], [], h)) rfl ?_
      exact rX5_look_59 (ih) ho
set_option maxRecDepth 20000 in
set_option maxHeartbeats 2000000 in
theorem rX5_look_23   : ∀ {fuel : Nat} {a0 : Nat} {a1 : Nat} {x4 : Int32} {xd2 : Int32} {xd3 : Int32} {h : qm_H} {r : qm_H}, qX5_look_23  fuel a0 a1 x4 h = some r → qm_Ret mX5_look (23, [some (qm_r 0 5 a0), some (qm_r 0 1 a1), some (qm_i xd2), some (qm_i xd3), some (qm_i x4), none], [], h) (qm_Gv r) := by
  intro fuel
  induction fuel with
  | zero => intros; rename_i ho; cases ho
  | succ n ih =>
    intro a0 a1 x4 xd2 xd3 h r ho
    unfold qX5_look_23 at ho
    refine qm_Ret.sts 2 (f' := (27, [some (qm_r 0 5 a0), some (qm_r 0 1 a1), some (qm_i xd2), some (qm_i xd3), some (qm_i x4), none], [qm_i (64 : Int32), qm_i x4], h)) rfl ?_
    refine qm_Ret.ge (t := 44) (e := 30) rfl (fun hc => ?_) (fun hc => ?_)
    · rw [if_pos hc] at ho
      refine qm_Ret.sts 4 (f' := (37, [some (qm_r 0 5 a0), some (qm_r 0 1 a1), some (qm_i xd2), some (qm_i xd3), some (qm_i x4), none], [qm_i (0 : Int32), qm_i x4, qm_r 1 64 (a0 + 1)], h)) rfl ?_
      obtain ⟨hg, ho⟩ := qm_ifn ho
      refine qm_Ret.gn (f1 := (38, [some (qm_r 0 5 a0), some (qm_r 0 1 a1), some (qm_i xd2), some (qm_i xd3), some (qm_i x4), none], [], (qm_seti h (a0 + 1) (x4).toNatClampNeg (0 : Int32)))) hg rfl ?_
      refine qm_Ret.lets (F := fun h1 => (38, [some (qm_r 0 5 a0), some (qm_r 0 1 a1), some (qm_i xd2), some (qm_i xd3), some (qm_i x4), none], [], h1)) (G := qm_Gv) ho (fun h1 ho => ?_)
      refine qm_Ret.sts 2 (f' := (23, [some (qm_r 0 5 a0), some (qm_r 0 1 a1), some (qm_i xd2), some (qm_i xd3), some (qm_i (x4 + (1 : Int32))), none], [], h1)) rfl ?_
      exact ih ho
    · rw [if_neg hc] at ho
      refine qm_Ret.sts 2 (f' := (47, [some (qm_r 0 5 a0), some (qm_r 0 1 a1), some (qm_i xd2), some (qm_i xd3), some (qm_i (1 : Int32)), none], [], h)) rfl ?_
      exact rX5_look_47 ho
set_option maxRecDepth 20000 in
set_option maxHeartbeats 2000000 in
theorem rX5_look_0   {a0 : Nat} {a1 : Nat} {x2 : Int32} {x3 : Int32} {h : qm_H} {r : qm_H} (ho : qX5_look  a0 a1 x2 x3 h = some r) : qm_Ret mX5_look (0, [some (qm_r 0 5 a0), some (qm_r 0 1 a1), some (qm_i x2), some (qm_i x3), none, none], [], h) (qm_Gv r) := by
  unfold qX5_look at ho
  refine qm_Ret.sts 3 (f' := (5, [some (qm_r 0 5 a0), some (qm_r 0 1 a1), some (qm_i x2), some (qm_i x3), none, none], [], (qm_seti h a0 1 (0 : Int32)))) rfl ?_
  refine qm_Ret.lets (F := fun h1 => (5, [some (qm_r 0 5 a0), some (qm_r 0 1 a1), some (qm_i x2), some (qm_i x3), none, none], [], h1)) (G := qm_Gv) ho (fun h1 ho => ?_)
  refine qm_Ret.sts 6 (f' := (15, [some (qm_r 0 5 a0), some (qm_r 0 1 a1), some (qm_i x2), some (qm_i x3), none, none], [], (qm_seti (qm_seti h1 a0 2 x2) a0 3 (-1 : Int32)))) rfl ?_
  refine qm_Ret.lets (F := fun h2 => (15, [some (qm_r 0 5 a0), some (qm_r 0 1 a1), some (qm_i x2), some (qm_i x3), none, none], [], h2)) (G := qm_Gv) ho (fun h2 ho => ?_)
  refine qm_Ret.sts 2 (f' := (17, [some (qm_r 0 5 a0), some (qm_r 0 1 a1), some (qm_i x2), some (qm_i x3), none, none], [qm_i x3, qm_r 0 5 a0], h2)) rfl ?_
  obtain ⟨hg, ho⟩ := qm_if ho
  refine qm_Ret.gd (f1 := (20, [some (qm_r 0 5 a0), some (qm_r 0 1 a1), some (qm_i x2), some (qm_i x3), none, none], [], (qm_seti h2 a0 4 x3))) ⟨rfl, Or.inr ⟨rfl, hg⟩⟩ rfl ?_
  refine qm_Ret.sts 2 (f' := (23, [some (qm_r 0 5 a0), some (qm_r 0 1 a1), some (qm_i x2), some (qm_i x3), some (qm_i (0 : Int32)), none], [], (qm_seti h2 a0 4 x3))) rfl ?_
  exact rX5_look_23 ho
theorem cX5_look_ok : ∀ q ∈ ([(47, 0, 4, wX5_lookAtSize)] : List (Nat × Nat × Nat × qm_C)), qm_CallOK RX5 3 77 q.2.1 q.1 q.2.2.1 q.2.2.2 := List.forall_mem_cons.mpr ⟨Or.inl ⟨yX5_lookAtSize, cX5_lookAtSize, 7, none, 2, 51, _, sX5_lookAtSize, ⟨by decide, by decide⟩, ⟨jX5_lookAtSize, kRX5_47, uRX5⟩, ⟨by decide, by decide, rfl⟩, Or.inl ⟨rfl, rfl, iX5_lookAtSize, recvX5_lookAtSize⟩⟩, fun _ h => absurd h List.not_mem_nil⟩
theorem sX5_look : qm_Snd yX5_look cX5_look 6 none 3 77 wX5_look := qm_met (fld := fun k => qm_lk k pfRX5) (con := fun k => qm_lk k pcRX5) (call := fun k => qm_lk k [(47, 0, 4, wX5_lookAtSize)]) (tab := qm_tab aX5_look) (plainFor_of_name (by decide)) (qm_fld_ok pfRX5_ok) (qm_con_ok pcRX5_ok) (fun idx kd n f hc => cX5_look_ok (idx, kd, n, f) (qm_lk_mem hc)) (qm_tab_ok aX5_look_ok) (fun vs h o hw => by
  unfold wX5_look at hw
  split at hw
  · obtain ⟨r, hr, rfl⟩ := Option.map_eq_some_iff.mp hw
    exact ⟨Nat.le_of_ble_eq_true rfl, rX5_look_0 (hr)⟩
  · cases hw)
theorem recvX5_look : ∀ vs h o, wX5_look vs h = some o → ∃ ci a rest, vs = qm_r 0 ci a :: rest ∧ qm_R ci = yX5_look.cls := by
  intro vs h o hw
  unfold wX5_look at hw
  split at hw
  · exact ⟨_, _, _, rfl, rfl⟩
  · cases hw
-- RX5 howMany(LWillowLaw$Clues;)I
theorem jX5_howMany : Jvm.Cond.code yX5_howMany cX5_howMany 2 (some .int) ∈ qm_all := List.mem_filter.mpr ⟨by decide +kernel, rfl⟩
theorem iX5_howMany : Jvm.Cond.instanceMethod yX5_howMany ∈ qm_all ∧ Jvm.Cond.selects yX5_howMany.cls yX5_howMany yX5_howMany ∈ qm_all := ⟨List.mem_filter.mpr ⟨by decide +kernel, rfl⟩, List.mem_filter.mpr ⟨by decide +kernel, rfl⟩⟩
def wX5_howMany : qm_C := fun vs h => match vs with
  | [.inr (.inr (some (0, 5, p0))), .inr (.inr (some (0, 1, p1)))] => (qX5_howMany p0 p1 h).map qm_Gi
  | _ => none
def aX5_howMany : List (Option (Instr × Nat)) := [some (.aload_n 0, 1), some (.aload_n 1, 1), some (.iconst (-1), 1), some (.iconst 0, 1), some (.invokevirtual 15, 3), none, none, some (.aload_n 0, 1), some (.getfield 19, 3), none, none, some (.ireturn, 1)]
theorem aX5_howMany_ok : qm_tabok cX5_howMany aX5_howMany = true := by decide +kernel
def mX5_howMany : qm_M := ((some .int), (fun k => qm_lk k pfRX5), (fun k => qm_lk k pcRX5), (fun k => qm_lk k [(15, 0, 4, wX5_look)]), qm_tab aX5_howMany)
set_option maxRecDepth 20000 in
set_option maxHeartbeats 2000000 in
theorem rX5_howMany_0   {a0 : Nat} {a1 : Nat} {h : qm_H} {r : Int32 × qm_H} (ho : qX5_howMany  a0 a1 h = some r) : qm_Ret mX5_howMany (0, [some (qm_r 0 5 a0), some (qm_r 0 1 a1)], [], h) (qm_Gi r) := by
  unfold qX5_howMany at ho
  refine qm_Ret.sts 4 (f' := (4, [some (qm_r 0 5 a0), some (qm_r 0 1 a1)], [qm_i (0 : Int32), qm_i (-1 : Int32), qm_r 0 1 a1, qm_r 0 5 a0], h)) rfl ?_
  obtain ⟨h1, hr, ho⟩ := qm_bd ho
  refine qm_Ret.call (X := wX5_look [qm_r 0 5 a0, qm_r 0 1 a1, qm_i (-1 : Int32), qm_i (0 : Int32)] h) (o1 := (none, h1)) (qm_mp (G := qm_Gv) hr) rfl ?_
  show qm_Ret _ (7, [some (qm_r 0 5 a0), some (qm_r 0 1 a1)], [], h1) _
  cases ho
  exact qm_Ret.ret 3 rfl
theorem cX5_howMany_ok : ∀ q ∈ ([(15, 0, 4, wX5_look)] : List (Nat × Nat × Nat × qm_C)), qm_CallOK RX5 4 102 q.2.1 q.1 q.2.2.1 q.2.2.2 := List.forall_mem_cons.mpr ⟨Or.inl ⟨yX5_look, cX5_look, 6, none, 3, 77, _, sX5_look, ⟨by decide, by decide⟩, ⟨jX5_look, kRX5_15, uRX5⟩, ⟨by decide, by decide, rfl⟩, Or.inl ⟨rfl, rfl, iX5_look, recvX5_look⟩⟩, fun _ h => absurd h List.not_mem_nil⟩
theorem sX5_howMany : qm_Snd yX5_howMany cX5_howMany 2 (some .int) 4 102 wX5_howMany := qm_met (fld := fun k => qm_lk k pfRX5) (con := fun k => qm_lk k pcRX5) (call := fun k => qm_lk k [(15, 0, 4, wX5_look)]) (tab := qm_tab aX5_howMany) (plainFor_of_name (by decide)) (qm_fld_ok pfRX5_ok) (qm_con_ok pcRX5_ok) (fun idx kd n f hc => cX5_howMany_ok (idx, kd, n, f) (qm_lk_mem hc)) (qm_tab_ok aX5_howMany_ok) (fun vs h o hw => by
  unfold wX5_howMany at hw
  split at hw
  · obtain ⟨r, hr, rfl⟩ := Option.map_eq_some_iff.mp hw
    exact ⟨Nat.le_of_ble_eq_true rfl, rX5_howMany_0 (hr)⟩
  · cases hw)
theorem recvX5_howMany : ∀ vs h o, wX5_howMany vs h = some o → ∃ ci a rest, vs = qm_r 0 ci a :: rest ∧ qm_R ci = yX5_howMany.cls := by
  intro vs h o hw
  unfold wX5_howMany at hw
  split at hw
  · exact ⟨_, _, _, rfl, rfl⟩
  · cases hw
