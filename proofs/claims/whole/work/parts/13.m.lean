-- RX0 likeliest(II)I
theorem jX0_likeliest : Jvm.Cond.code yX0_likeliest cX0_likeliest 9 (some .int) ∈ qm_all := List.mem_filter.mpr ⟨by decide +kernel, rfl⟩
theorem iX0_likeliest : Jvm.Cond.instanceMethod yX0_likeliest ∈ qm_all ∧ Jvm.Cond.selects yX0_likeliest.cls yX0_likeliest yX0_likeliest ∈ qm_all := ⟨List.mem_filter.mpr ⟨by decide +kernel, rfl⟩, List.mem_filter.mpr ⟨by decide +kernel, rfl⟩⟩
def wX0_likeliest : qm_C := fun vs h => match vs with
  | [.inr (.inr (some (0, 0, p0))), .inl p1, .inl p2] => (qX0_likeliest p0 p1 p2 h).map qm_Gi
  | _ => none
def aX0_likeliest : List (Option (Instr × Nat)) := [some (.iconst (-1), 1), some (.istore_n 3, 1), some (.iconst 0, 1), some (.istore 4, 2), none, some (.iconst 0, 1), some (.istore 5, 2), none, some (.iload 5, 2), none, some (.iload_n 2, 1), some (.iadd, 1), some (.aload_n 0, 1), some (.getfield 25, 3), none, none, some (.if_icmp .gt 70, 3), none, none, some (.iconst 0, 1), some (.istore 6, 2), none, some (.iload 6, 2), none, some (.iload_n 1, 1), some (.iadd, 1), some (.aload_n 0, 1), some (.getfield 21, 3), none, none, some (.if_icmp .gt 50, 3), none, none, some (.aload_n 0, 1), some (.getfield 21, 3), none, none, some (.iload 5, 2), none, some (.imul, 1), some (.iload 6, 2), none, some (.iadd, 1), some (.istore 7, 2), none, some (.aload_n 0, 1), some (.iload 7, 2), none, some (.iload_n 1, 1), some (.iload_n 2, 1), some (.invokevirtual 103, 3), none, none, some (.istore 8, 2), none, some (.iload_n 3, 1), some (.iconst (-1), 1), some (.if_icmp .eq 10, 3), none, none, some (.iload 8, 2), none, some (.iload 4, 2), none, some (.if_icmp .ge 10, 3), none, none, some (.iload 7, 2), none, some (.istore_n 3, 1), some (.iload 8, 2), none, some (.istore 4, 2), none, some (.iinc 6 1, 3), none, none, some (.goto (-55), 3), none, none, some (.iinc 5 1, 3), none, none, some (.goto (-75), 3), none, none, some (.iload_n 3, 1), some (.ireturn, 1)]
theorem aX0_likeliest_ok : qm_tabok cX0_likeliest aX0_likeliest = true := by decide +kernel
def mX0_likeliest : qm_M := ((some .int), (fun k => qm_lk k pfRX0), (fun k => qm_lk k pcRX0), (fun k => qm_lk k [(103, 0, 4, wX0_shutIn)]), qm_tab aX0_likeliest)
set_option maxRecDepth 20000 in
set_option maxHeartbeats 2000000 in
theorem rX0_likeliest_22 {K8 : Nat → Int32 → Int32 → Int32 → Int32 → Int32 → qm_H → Option (Int32 × qm_H)} (H8 : ∀ {a0 : Nat} {x1 : Int32} {x2 : Int32} {x3 : Int32} {x4 : Int32} {x5 : Int32} {d6 : Option qm_V} {d7 : Option qm_V} {d8 : Option qm_V} {h : qm_H} {r : Int32 × qm_H}, K8 a0 x1 x2 x3 x4 x5 h = some r → qm_Ret mX0_likeliest (8, [some (qm_r 0 0 a0), some (qm_i x1), some (qm_i x2), some (qm_i x3), some (qm_i x4), some (qm_i x5), d6, d7, d8], [], h) (qm_Gi r)) : ∀ {fuel : Nat} {a0 : Nat} {x1 : Int32} {x2 : Int32} {x3 : Int32} {x4 : Int32} {x5 : Int32} {x6 : Int32} {d7 : Option qm_V} {d8 : Option qm_V} {h : qm_H} {r : Int32 × qm_H}, qX0_likeliest_22 K8 fuel a0 x1 x2 x3 x4 x5 x6 h = some r → qm_Ret mX0_likeliest (22, [some (qm_r 0 0 a0), some (qm_i x1), some (qm_i x2), some (qm_i x3), some (qm_i x4), some (qm_i x5), some (qm_i x6), d7, d8], [], h) (qm_Gi r) := by
  intro fuel
  induction fuel with
  | zero => intros; rename_i ho; cases ho
  | succ n ih =>
    intro a0 x1 x2 x3 x4 x5 x6 d7 d8 h r ho
    unfold qX0_likeliest_22 at ho
    refine qm_Ret.sts 5 (f' := (30, [some (qm_r 0 0 a0), some (qm_i x1), some (qm_i x2), some (qm_i x3), some (qm_i x4), some (qm_i x5), some (qm_i x6), d7, d8], [qm_i (h.1 a0 3), qm_i (x6 + x1)], h)) rfl ?_
    refine qm_Ret.gt (t := 80) (e := 33) rfl (fun hc => ?_) (fun hc => ?_)
    · rw [if_pos hc] at ho
      refine qm_Ret.sts 2 (f' := (8, [some (qm_r 0 0 a0), some (qm_i x1), some (qm_i x2), some (qm_i x3), some (qm_i x4), some (qm_i (x5 + (1 : Int32))), some (qm_i x6), d7, d8], [], h)) rfl ?_
      exact H8 ho
    · rw [if_neg hc] at ho
      refine qm_Ret.sts 6 (f' := (43, [some (qm_r 0 0 a0), some (qm_i x1), some (qm_i x2), some (qm_i x3), some (qm_i x4), some (qm_i x5), some (qm_i x6), d7, d8], [qm_i (((h.1 a0 3) * x5) + x6)], h)) rfl ?_
      refine qm_Ret.lets (F := fun v1 => (43, [some (qm_r 0 0 a0), some (qm_i x1), some (qm_i x2), some (qm_i x3), some (qm_i x4), some (qm_i x5), some (qm_i x6), d7, d8], [qm_i v1], h)) (G := qm_Gi) ho (fun v1 ho => ?_)
      refine qm_Ret.sts 5 (f' := (50, [some (qm_r 0 0 a0), some (qm_i x1), some (qm_i x2), some (qm_i x3), some (qm_i x4), some (qm_i x5), some (qm_i x6), some (qm_i v1), d8], [qm_i x2, qm_i x1, qm_i v1, qm_r 0 0 a0], h)) rfl ?_
      obtain ⟨r3, h2, hr, ho⟩ := qm_b2e ho
      refine qm_Ret.call (X := wX0_shutIn [qm_r 0 0 a0, qm_i v1, qm_i x1, qm_i x2] h) (o1 := (some (qm_i r3), h2)) (qm_mp (G := qm_Gi) hr) rfl ?_
      show qm_Ret _ (53, [some (qm_r 0 0 a0), some (qm_i x1), some (qm_i x2), some (qm_i x3), some (qm_i x4), some (qm_i x5), some (qm_i x6), some (qm_i v1), d8], [qm_i r3], h2) _
      refine qm_Ret.sts 3 (f' := (57, [some (qm_r 0 0 a0), some (qm_i x1), some (qm_i x2), some (qm_i x3), some (qm_i x4), some (qm_i x5), some (qm_i x6), some (qm_i v1), some (qm_i r3)], [qm_i (-1 : Int32), qm_i x3], h2)) rfl ?_
      refine qm_Ret.eq (t := 67) (e := 60) rfl (fun hc => ?_) (fun hc => ?_)
      · rw [if_pos hc] at ho
        refine qm_Ret.sts 6 (f' := (22, [some (qm_r 0 0 a0), some (qm_i x1), some (qm_i x2), some (qm_i v1), some (qm_i r3), some (qm_i x5), some (qm_i (x6 + (1 : Int32))), some (qm_i v1), some (qm_i r3)], [], h2)) rfl ?_
        exact ih ho
      · rw [if_neg hc] at ho
        refine qm_Ret.sts 2 (f' := (64, [some (qm_r 0 0 a0), some (qm_i x1), some (qm_i x2), some (qm_i x3), some (qm_i x4), some (qm_i x5), some (qm_i x6), some (qm_i v1), some (qm_i r3)], [qm_i x4, qm_i r3], h2)) rfl ?_
        refine qm_Ret.ge (t := 74) (e := 67) rfl (fun hc => ?_) (fun hc => ?_)
        · rw [if_pos hc] at ho
          refine qm_Ret.sts 6 (f' := (22, [some (qm_r 0 0 a0), some (qm_i x1), some (qm_i x2), some (qm_i v1), some (qm_i r3), some (qm_i x5), some (qm_i (x6 + (1 : Int32))), some (qm_i v1), some (qm_i r3)], [], h2)) rfl ?_
          exact ih ho
        · rw [if_neg hc] at ho
          refine qm_Ret.sts 2 (f' := (22, [some (qm_r 0 0 a0), some (qm_i x1), some (qm_i x2), some (qm_i x3), some (qm_i x4), some (qm_i x5), some (qm_i (x6 + (1 : Int32))), some (qm_i v1), some (qm_i r3)], [], h2)) rfl ?_
          exact ih ho
set_option maxRecDepth 20000 in
set_option maxHeartbeats 2000000 in
theorem rX0_likeliest_8   : ∀ {fuel : Nat} {a0 : Nat} {x1 : Int32} {x2 : Int32} {x3 : Int32} {x4 : Int32} {x5 : Int32} {d6 : Option qm_V} {d7 : Option qm_V} {d8 : Option qm_V} {h : qm_H} {r : Int32 × qm_H}, qX0_likeliest_8  fuel a0 x1 x2 x3 x4 x5 h = some r → qm_Ret mX0_likeliest (8, [some (qm_r 0 0 a0), some (qm_i x1), some (qm_i x2), some (qm_i x3), some (qm_i x4), some (qm_i x5), d6, d7, d8], [], h) (qm_Gi r) := by
  intro fuel
  induction fuel with
  | zero => intros; rename_i ho; cases ho
  | succ n ih =>
    intro a0 x1 x2 x3 x4 x5 d6 d7 d8 h r ho
    unfold qX0_likeliest_8 at ho
    refine qm_Ret.sts 5 (f' := (16, [some (qm_r 0 0 a0), some (qm_i x1), some (qm_i x2), some (qm_i x3), some (qm_i x4), some (qm_i x5), d6, d7, d8], [qm_i (h.1 a0 4), qm_i (x5 + x2)], h)) rfl ?_
    refine qm_Ret.gt (t := 86) (e := 19) rfl (fun hc => ?_) (fun hc => ?_)
    · rw [if_pos hc] at ho
      cases ho
      exact qm_Ret.ret 2 rfl
    · rw [if_neg hc] at ho
      refine qm_Ret.sts 2 (f' := (22, [some (qm_r 0 0 a0), some (qm_i x1), some (qm_i x2), some (qm_i x3), some (qm_i x4), some (qm_i x5), some (qm_i (0 : Int32)), d7, d8], [], h)) rfl ?_
      exact rX0_likeliest_22 (ih) ho
set_option maxRecDepth 20000 in
set_option maxHeartbeats 2000000 in
theorem rX0_likeliest_0   {a0 : Nat} {x1 : Int32} {x2 : Int32} {h : qm_H} {r : Int32 × qm_H} (ho : qX0_likeliest  a0 x1 x2 h = some r) : qm_Ret mX0_likeliest (0, [some (qm_r 0 0 a0), some (qm_i x1), some (qm_i x2), none, none, none, none, none, none], [], h) (qm_Gi r) := by
  unfold qX0_likeliest at ho
  refine qm_Ret.sts 6 (f' := (8, [some (qm_r 0 0 a0), some (qm_i x1), some (qm_i x2), some (qm_i (-1 : Int32)), some (qm_i (0 : Int32)), some (qm_i (0 : Int32)), none, none, none], [], h)) rfl ?_
  exact rX0_likeliest_8 ho
theorem cX0_likeliest_ok : ∀ q ∈ ([(103, 0, 4, wX0_shutIn)] : List (Nat × Nat × Nat × qm_C)), qm_CallOK RX0 2 51 q.2.1 q.1 q.2.2.1 q.2.2.2 := List.forall_mem_cons.mpr ⟨Or.inl ⟨yX0_shutIn, cX0_shutIn, 4, (some .int), 1, 28, _, sX0_shutIn, ⟨by decide, by decide⟩, ⟨jX0_shutIn, kRX0_103, uRX0⟩, ⟨by decide, by decide, rfl⟩, Or.inl ⟨rfl, rfl, iX0_shutIn, recvX0_shutIn⟩⟩, fun _ h => absurd h List.not_mem_nil⟩
theorem sX0_likeliest : qm_Snd yX0_likeliest cX0_likeliest 9 (some .int) 2 51 wX0_likeliest := qm_met (fld := fun k => qm_lk k pfRX0) (con := fun k => qm_lk k pcRX0) (call := fun k => qm_lk k [(103, 0, 4, wX0_shutIn)]) (tab := qm_tab aX0_likeliest) (plainFor_of_name (by decide)) (qm_fld_ok pfRX0_ok) (qm_con_ok pcRX0_ok) (fun idx kd n f hc => cX0_likeliest_ok (idx, kd, n, f) (qm_lk_mem hc)) (qm_tab_ok aX0_likeliest_ok) (fun vs h o hw => by
  unfold wX0_likeliest at hw
  split at hw
  · obtain ⟨r, hr, rfl⟩ := Option.map_eq_some_iff.mp hw
    exact ⟨Nat.le_of_ble_eq_true rfl, rX0_likeliest_0 (hr)⟩
  · cases hw)
theorem recvX0_likeliest : ∀ vs h o, wX0_likeliest vs h = some o → ∃ ci a rest, vs = qm_r 0 ci a :: rest ∧ qm_R ci = yX0_likeliest.cls := by
  intro vs h o hw
  unfold wX0_likeliest at hw
  split at hw
  · exact ⟨_, _, _, rfl, rfl⟩
  · cases hw
-- RX0 joinedTo(J)J
theorem jX0_joinedTo : Jvm.Cond.code yX0_joinedTo cX0_joinedTo 10 (some .long) ∈ qm_all := List.mem_filter.mpr ⟨by decide +kernel, rfl⟩
theorem iX0_joinedTo : Jvm.Cond.instanceMethod yX0_joinedTo ∈ qm_all ∧ Jvm.Cond.selects yX0_joinedTo.cls yX0_joinedTo yX0_joinedTo ∈ qm_all := ⟨List.mem_filter.mpr ⟨by decide +kernel, rfl⟩, List.mem_filter.mpr ⟨by decide +kernel, rfl⟩⟩
def wX0_joinedTo : qm_C := fun vs h => match vs with
  | [.inr (.inr (some (0, 0, p0))), .inr (.inl p1)] => (qX0_joinedTo p0 p1 h).map qm_Gl
  | _ => none
def aX0_joinedTo : List (Option (Instr × Nat)) := [some (.lload_n 1, 1), some (.lstore_n 3, 1), some (.iconst 0, 1), some (.istore 5, 2), none, some (.iload 5, 2), none, some (.bipush 64, 2), none, some (.if_icmp .ge 60, 3), none, none, some (.lload_n 3, 1), some (.iconst 1, 1), some (.lshl, 1), some (.ldc2_w 118, 3), none, none, some (.land, 1), some (.lload_n 3, 1), some (.iconst 1, 1), some (.lushr, 1), some (.ldc2_w 120, 3), none, none, some (.land, 1), some (.lor, 1), some (.lstore 6, 2), none, some (.lload_n 3, 1), some (.lload 6, 2), none, some (.lor, 1), some (.lload_n 3, 1), some (.bipush 8, 2), none, some (.lshl, 1), some (.lor, 1), some (.lload_n 3, 1), some (.bipush 8, 2), none, some (.lushr, 1), some (.lor, 1), some (.aload_n 0, 1), some (.getfield 32, 3), none, none, some (.land, 1), some (.lstore 8, 2), none, some (.lload 8, 2), none, some (.lload_n 3, 1), some (.lcmp, 1), some (.ifCond .ne 6, 3), none, none, some (.goto 12, 3), none, none, some (.lload 8, 2), none, some (.lstore_n 3, 1), some (.iinc 5 1, 3), none, none, some (.goto (-61), 3), none, none, some (.lload_n 3, 1), some (.lreturn, 1)]
theorem aX0_joinedTo_ok : qm_tabok cX0_joinedTo aX0_joinedTo = true := by decide +kernel
def mX0_joinedTo : qm_M := ((some .long), (fun k => qm_lk k pfRX0), (fun k => qm_lk k pcRX0), (fun k => qm_lk k []), qm_tab aX0_joinedTo)
set_option maxRecDepth 20000 in
set_option maxHeartbeats 2000000 in
theorem rX0_joinedTo_5   : ∀ {fuel : Nat} {a0 : Nat} {l3 : Int64} {x5 : Int32} {ld1 : Int64} {d6 : Option qm_V} {d8 : Option qm_V} {h : qm_H} {r : Int64 × qm_H}, qX0_joinedTo_5  fuel a0 l3 x5 h = some r → qm_Ret mX0_joinedTo (5, [some (qm_r 0 0 a0), some (qm_l ld1), none, some (qm_l l3), none, some (qm_i x5), d6, none, d8, none], [], h) (qm_Gl r) := by
  intro fuel
  induction fuel with
  | zero => intros; rename_i ho; cases ho
  | succ n ih =>
    intro a0 l3 x5 ld1 d6 d8 h r ho
    unfold qX0_joinedTo_5 at ho
    refine qm_Ret.sts 2 (f' := (9, [some (qm_r 0 0 a0), some (qm_l ld1), none, some (qm_l l3), none, some (qm_i x5), d6, none, d8, none], [qm_i (64 : Int32), qm_i x5], h)) rfl ?_
    refine qm_Ret.ge (t := 69) (e := 12) rfl (fun hc => ?_) (fun hc => ?_)
    · rw [if_pos hc] at ho
      refine qm_Ret.sts 11 (f' := (27, [some (qm_r 0 0 a0), some (qm_l ld1), none, some (qm_l l3), none, some (qm_i x5), d6, none, d8, none], [qm_l (((qm_lshl l3 (1 : Int32)) &&& (-72340172838076674 : Int64)) ||| ((qm_lushr l3 (1 : Int32)) &&& (9187201950435737471 : Int64)))], h)) rfl ?_
      refine qm_Ret.lets (F := fun v1 => (27, [some (qm_r 0 0 a0), some (qm_l ld1), none, some (qm_l l3), none, some (qm_i x5), d6, none, d8, none], [qm_l v1], h)) (G := qm_Gl) ho (fun v1 ho => ?_)
      refine qm_Ret.sts 15 (f' := (48, [some (qm_r 0 0 a0), some (qm_l ld1), none, some (qm_l l3), none, some (qm_i x5), some (qm_l v1), none, d8, none], [qm_l ((((l3 ||| v1) ||| (qm_lshl l3 (8 : Int32))) ||| (qm_lushr l3 (8 : Int32))) &&& (h.2 a0 6))], h)) rfl ?_
      refine qm_Ret.lets (F := fun v2 => (48, [some (qm_r 0 0 a0), some (qm_l ld1), none, some (qm_l l3), none, some (qm_i x5), some (qm_l v1), none, d8, none], [qm_l v2], h)) (G := qm_Gl) ho (fun v2 ho => ?_)
      refine qm_Ret.sts 4 (f' := (54, [some (qm_r 0 0 a0), some (qm_l ld1), none, some (qm_l l3), none, some (qm_i x5), some (qm_l v1), none, some (qm_l v2), none], [qm_i (lg_cmp v2 l3)], h)) rfl ?_
      refine qm_Ret.ne (t := 60) (e := 57) rfl (fun hc => ?_) (fun hc => ?_)
      · rw [if_pos hc] at ho
        cases ho
        exact qm_Ret.ret 3 rfl
      · rw [if_neg hc] at ho
        refine qm_Ret.sts 4 (f' := (5, [some (qm_r 0 0 a0), some (qm_l ld1), none, some (qm_l v2), none, some (qm_i (x5 + (1 : Int32))), some (qm_l v1), none, some (qm_l v2), none], [], h)) rfl ?_
        exact ih ho
    · rw [if_neg hc] at ho
      cases ho
      exact qm_Ret.ret 2 rfl
set_option maxRecDepth 20000 in
set_option maxHeartbeats 2000000 in
theorem rX0_joinedTo_0   {a0 : Nat} {l1 : Int64} {h : qm_H} {r : Int64 × qm_H} (ho : qX0_joinedTo  a0 l1 h = some r) : qm_Ret mX0_joinedTo (0, [some (qm_r 0 0 a0), some (qm_l l1), none, none, none, none, none, none, none, none], [], h) (qm_Gl r) := by
  unfold qX0_joinedTo at ho
  refine qm_Ret.sts 4 (f' := (5, [some (qm_r 0 0 a0), some (qm_l l1), none, some (qm_l l1), none, some (qm_i (0 : Int32)), none, none, none, none], [], h)) rfl ?_
  exact rX0_joinedTo_5 ho
theorem cX0_joinedTo_ok : ∀ q ∈ ([] : List (Nat × Nat × Nat × qm_C)), qm_CallOK RX0 0 0 q.2.1 q.1 q.2.2.1 q.2.2.2 := fun _ h => absurd h List.not_mem_nil
theorem sX0_joinedTo : qm_Snd yX0_joinedTo cX0_joinedTo 10 (some .long) 0 0 wX0_joinedTo := qm_met (fld := fun k => qm_lk k pfRX0) (con := fun k => qm_lk k pcRX0) (call := fun k => qm_lk k []) (tab := qm_tab aX0_joinedTo) (plainFor_of_name (by decide)) (qm_fld_ok pfRX0_ok) (qm_con_ok pcRX0_ok) (fun idx kd n f hc => cX0_joinedTo_ok (idx, kd, n, f) (qm_lk_mem hc)) (qm_tab_ok aX0_joinedTo_ok) (fun vs h o hw => by
  unfold wX0_joinedTo at hw
  split at hw
  · obtain ⟨r, hr, rfl⟩ := Option.map_eq_some_iff.mp hw
    exact ⟨Nat.le_of_ble_eq_true rfl, rX0_joinedTo_0 (hr)⟩
  · cases hw)
theorem recvX0_joinedTo : ∀ vs h o, wX0_joinedTo vs h = some o → ∃ ci a rest, vs = qm_r 0 ci a :: rest ∧ qm_R ci = yX0_joinedTo.cls := by
  intro vs h o hw
  unfold wX0_joinedTo at hw
  split at hw
  · exact ⟨_, _, _, rfl, rfl⟩
  · cases hw
-- RX0 holesOrLargest(Z)I
theorem jX0_holesOrLargest : Jvm.Cond.code yX0_holesOrLargest cX0_holesOrLargest 9 (some .int) ∈ qm_all := List.mem_filter.mpr ⟨by decide +kernel, rfl⟩
theorem iX0_holesOrLargest : Jvm.Cond.instanceMethod yX0_holesOrLargest ∈ qm_all ∧ Jvm.Cond.selects yX0_holesOrLargest.cls yX0_holesOrLargest yX0_holesOrLargest ∈ qm_all := ⟨List.mem_filter.mpr ⟨by decide +kernel, rfl⟩, List.mem_filter.mpr ⟨by decide +kernel, rfl⟩⟩
def wX0_holesOrLargest : qm_C := fun vs h => match vs with
  | [.inr (.inr (some (0, 0, p0))), .inl p1] => (qX0_holesOrLargest p0 p1 h).map qm_Gi
  | _ => none
def aX0_holesOrLargest : List (Option (Instr × Nat)) := [some (.aload_n 0, 1), some (.getfield 32, 3), none, none, some (.lstore_n 2, 1), some (.iconst 0, 1), some (.istore 4, 2), none, some (.iconst 0, 1), some (.istore 5, 2), none, some (.iconst 0, 1), some (.istore 6, 2), none, some (.iload 6, 2), none, some (.bipush 64, 2), none, some (.if_icmp .ge 49, 3), none, none, some (.lload_n 2, 1), some (.lconst 0, 1), some (.lcmp, 1), some (.ifCond .eq 43, 3), none, none, some (.aload_n 0, 1), some (.lload_n 2, 1), some (.lload_n 2, 1), some (.lneg, 1), some (.land, 1), some (.invokevirtual 114, 3), none, none, some (.lstore 7, 2), none, some (.lload_n 2, 1), some (.lload 7, 2), none, some (.ldc2_w 106, 3), none, none, some (.lxor, 1), some (.land, 1), some (.lstore_n 2, 1), some (.iinc 4 1, 3), none, none, some (.iload 5, 2), none, some (.lload 7, 2), none, some (.invokestatic 108, 3), none, none, some (.invokestatic 46, 3), none, none, some (.istore 5, 2), none, some (.iinc 6 1, 3), none, none, some (.goto (-50), 3), none, none, some (.iload_n 1, 1), some (.ifCond .eq 8, 3), none, none, some (.iload 5, 2), none, some (.goto 5, 3), none, none, some (.iload 4, 2), none, some (.ireturn, 1)]
theorem aX0_holesOrLargest_ok : qm_tabok cX0_holesOrLargest aX0_holesOrLargest = true := by decide +kernel
def mX0_holesOrLargest : qm_M := ((some .int), (fun k => qm_lk k pfRX0), (fun k => qm_lk k pcRX0), (fun k => qm_lk k [(114, 0, 2, wX0_joinedTo), (108, 2, 1, wJ13_bitCount_95d88), (46, 2, 2, wJ9_max_7cf53)]), qm_tab aX0_holesOrLargest)
set_option maxRecDepth 20000 in
set_option maxHeartbeats 2000000 in
theorem rX0_holesOrLargest_14   : ∀ {fuel : Nat} {a0 : Nat} {x1 : Int32} {l2 : Int64} {x4 : Int32} {x5 : Int32} {x6 : Int32} {d7 : Option qm_V} {h : qm_H} {r : Int32 × qm_H}, qX0_holesOrLargest_14  fuel a0 x1 l2 x4 x5 x6 h = some r → qm_Ret mX0_holesOrLargest (14, [some (qm_r 0 0 a0), some (qm_i x1), some (qm_l l2), none, some (qm_i x4), some (qm_i x5), some (qm_i x6), d7, none], [], h) (qm_Gi r) := by
  intro fuel
  induction fuel with
  | zero => intros; rename_i ho; cases ho
  | succ n ih =>
    intro a0 x1 l2 x4 x5 x6 d7 h r ho
    unfold qX0_holesOrLargest_14 at ho
    refine qm_Ret.sts 2 (f' := (18, [some (qm_r 0 0 a0), some (qm_i x1), some (qm_l l2), none, some (qm_i x4), some (qm_i x5), some (qm_i x6), d7, none], [qm_i (64 : Int32), qm_i x6], h)) rfl ?_
    refine qm_Ret.ge (t := 67) (e := 21) rfl (fun hc => ?_) (fun hc => ?_)
    · rw [if_pos hc] at ho
      refine qm_Ret.sts 3 (f' := (24, [some (qm_r 0 0 a0), some (qm_i x1), some (qm_l l2), none, some (qm_i x4), some (qm_i x5), some (qm_i x6), d7, none], [qm_i (lg_cmp l2 (0 : Int64))], h)) rfl ?_
      refine qm_Ret.eq (t := 67) (e := 27) rfl (fun hc => ?_) (fun hc => ?_)
      · rw [if_pos hc] at ho
        refine qm_Ret.sts 1 (f' := (68, [some (qm_r 0 0 a0), some (qm_i x1), some (qm_l l2), none, some (qm_i x4), some (qm_i x5), some (qm_i x6), d7, none], [qm_i x1], h)) rfl ?_
        refine qm_Ret.eq (t := 76) (e := 71) rfl (fun hc => ?_) (fun hc => ?_)
        · rw [if_pos hc] at ho
          cases ho
          exact qm_Ret.ret 2 rfl
        · rw [if_neg hc] at ho
          cases ho
          exact qm_Ret.ret 3 rfl
      · rw [if_neg hc] at ho
        refine qm_Ret.sts 5 (f' := (32, [some (qm_r 0 0 a0), some (qm_i x1), some (qm_l l2), none, some (qm_i x4), some (qm_i x5), some (qm_i x6), d7, none], [qm_l (l2 &&& (-l2)), qm_r 0 0 a0], h)) rfl ?_
        obtain ⟨r2, h1, hr, ho⟩ := qm_b2e ho
        refine qm_Ret.call (X := wX0_joinedTo [qm_r 0 0 a0, qm_l (l2 &&& (-l2))] h) (o1 := (some (qm_l r2), h1)) (qm_mp (G := qm_Gl) hr) rfl ?_
        show qm_Ret _ (35, [some (qm_r 0 0 a0), some (qm_i x1), some (qm_l l2), none, some (qm_i x4), some (qm_i x5), some (qm_i x6), d7, none], [qm_l r2], h1) _
        refine qm_Ret.sts 6 (f' := (45, [some (qm_r 0 0 a0), some (qm_i x1), some (qm_l l2), none, some (qm_i x4), some (qm_i x5), some (qm_i x6), some (qm_l r2), none], [qm_l (l2 &&& (r2 ^^^ (-1 : Int64)))], h1)) rfl ?_
        refine qm_Ret.lets (F := fun v3 => (45, [some (qm_r 0 0 a0), some (qm_i x1), some (qm_l l2), none, some (qm_i x4), some (qm_i x5), some (qm_i x6), some (qm_l r2), none], [qm_l v3], h1)) (G := qm_Gi) ho (fun v3 ho => ?_)
        refine qm_Ret.sts 4 (f' := (53, [some (qm_r 0 0 a0), some (qm_i x1), some (qm_l v3), none, some (qm_i (x4 + (1 : Int32))), some (qm_i x5), some (qm_i x6), some (qm_l r2), none], [qm_l r2, qm_i x5], h1)) rfl ?_
        obtain ⟨r5, h4, hr, ho⟩ := qm_b2e ho
        refine qm_Ret.call (X := wJ13_bitCount_95d88 [qm_l r2] h1) (o1 := (some (qm_i r5), h4)) (qm_mp (G := qm_Gi) hr) rfl ?_
        show qm_Ret _ (56, [some (qm_r 0 0 a0), some (qm_i x1), some (qm_l v3), none, some (qm_i (x4 + (1 : Int32))), some (qm_i x5), some (qm_i x6), some (qm_l r2), none], [qm_i r5, qm_i x5], h4) _
        obtain ⟨r7, h6, hr, ho⟩ := qm_b2e ho
        refine qm_Ret.call (X := wJ9_max_7cf53 [qm_i x5, qm_i r5] h4) (o1 := (some (qm_i r7), h6)) (qm_mp (G := qm_Gi) hr) rfl ?_
        show qm_Ret _ (59, [some (qm_r 0 0 a0), some (qm_i x1), some (qm_l v3), none, some (qm_i (x4 + (1 : Int32))), some (qm_i x5), some (qm_i x6), some (qm_l r2), none], [qm_i r7], h6) _
        refine qm_Ret.sts 3 (f' := (14, [some (qm_r 0 0 a0), some (qm_i x1), some (qm_l v3), none, some (qm_i (x4 + (1 : Int32))), some (qm_i r7), some (qm_i (x6 + (1 : Int32))), some (qm_l r2), none], [], h6)) rfl ?_
        exact ih ho
    · rw [if_neg hc] at ho
      refine qm_Ret.sts 1 (f' := (68, [some (qm_r 0 0 a0), some (qm_i x1), some (qm_l l2), none, some (qm_i x4), some (qm_i x5), some (qm_i x6), d7, none], [qm_i x1], h)) rfl ?_
      refine qm_Ret.eq (t := 76) (e := 71) rfl (fun hc => ?_) (fun hc => ?_)
      · rw [if_pos hc] at ho
        cases ho
        exact qm_Ret.ret 2 rfl
      · rw [if_neg hc] at ho
        cases ho
        exact qm_Ret.ret 3 rfl
set_option maxRecDepth 20000 in
set_option maxHeartbeats 2000000 in
theorem rX0_holesOrLargest_0   {a0 : Nat} {x1 : Int32} {h : qm_H} {r : Int32 × qm_H} (ho : qX0_holesOrLargest  a0 x1 h = some r) : qm_Ret mX0_holesOrLargest (0, [some (qm_r 0 0 a0), some (qm_i x1), none, none, none, none, none, none, none], [], h) (qm_Gi r) := by
  unfold qX0_holesOrLargest at ho
  refine qm_Ret.sts 9 (f' := (14, [some (qm_r 0 0 a0), some (qm_i x1), some (qm_l (h.2 a0 6)), none, some (qm_i (0 : Int32)), some (qm_i (0 : Int32)), some (qm_i (0 : Int32)), none, none], [], h)) rfl ?_
  exact rX0_holesOrLargest_14 ho
theorem cX0_holesOrLargest_ok : ∀ q ∈ ([(114, 0, 2, wX0_joinedTo), (108, 2, 1, wJ13_bitCount_95d88), (46, 2, 2, wJ9_max_7cf53)] : List (Nat × Nat × Nat × qm_C)), qm_CallOK RX0 1 29 q.2.1 q.1 q.2.2.1 q.2.2.2 := List.forall_mem_cons.mpr ⟨Or.inl ⟨yX0_joinedTo, cX0_joinedTo, 10, (some .long), 0, 0, _, sX0_joinedTo, ⟨by decide, by decide⟩, ⟨jX0_joinedTo, kRX0_114, uRX0⟩, ⟨by decide, by decide, rfl⟩, Or.inl ⟨rfl, rfl, iX0_joinedTo, recvX0_joinedTo⟩⟩, List.forall_mem_cons.mpr ⟨Or.inl ⟨yJ13_bitCount_95d88, cJ13_bitCount_95d88, 2, (some .int), 0, 0, _, sJ13_bitCount_95d88, ⟨by decide, by decide⟩, ⟨jJ13_bitCount_95d88, kRX0_108, uRJ13⟩, ⟨by decide, by decide, rfl⟩, Or.inr (Or.inl ⟨rfl, rfl, iJ13_bitCount_95d88⟩)⟩, List.forall_mem_cons.mpr ⟨Or.inl ⟨yJ9_max_7cf53, cJ9_max_7cf53, 2, (some .int), 0, 0, _, sJ9_max_7cf53, ⟨by decide, by decide⟩, ⟨jJ9_max_7cf53, kRX0_46, uRJ9⟩, ⟨by decide, by decide, rfl⟩, Or.inr (Or.inl ⟨rfl, rfl, iJ9_max_7cf53⟩)⟩, fun _ h => absurd h List.not_mem_nil⟩⟩⟩
theorem sX0_holesOrLargest : qm_Snd yX0_holesOrLargest cX0_holesOrLargest 9 (some .int) 1 29 wX0_holesOrLargest := qm_met (fld := fun k => qm_lk k pfRX0) (con := fun k => qm_lk k pcRX0) (call := fun k => qm_lk k [(114, 0, 2, wX0_joinedTo), (108, 2, 1, wJ13_bitCount_95d88), (46, 2, 2, wJ9_max_7cf53)]) (tab := qm_tab aX0_holesOrLargest) (plainFor_of_name (by decide)) (qm_fld_ok pfRX0_ok) (qm_con_ok pcRX0_ok) (fun idx kd n f hc => cX0_holesOrLargest_ok (idx, kd, n, f) (qm_lk_mem hc)) (qm_tab_ok aX0_holesOrLargest_ok) (fun vs h o hw => by
  unfold wX0_holesOrLargest at hw
  split at hw
  · obtain ⟨r, hr, rfl⟩ := Option.map_eq_some_iff.mp hw
    exact ⟨Nat.le_of_ble_eq_true rfl, rX0_holesOrLargest_0 (hr)⟩
  · cases hw)
theorem recvX0_holesOrLargest : ∀ vs h o, wX0_holesOrLargest vs h = some o → ∃ ci a rest, vs = qm_r 0 ci a :: rest ∧ qm_R ci = yX0_holesOrLargest.cls := by
  intro vs h o hw
  unfold wX0_holesOrLargest at hw
  split at hw
  · exact ⟨_, _, _, rfl, rfl⟩
  · cases hw
-- RX0 largestGap()I
theorem jX0_largestGap : Jvm.Cond.code yX0_largestGap cX0_largestGap 4 (some .int) ∈ qm_all := List.mem_filter.mpr ⟨by decide +kernel, rfl⟩
theorem iX0_largestGap : Jvm.Cond.instanceMethod yX0_largestGap ∈ qm_all ∧ Jvm.Cond.selects yX0_largestGap.cls yX0_largestGap yX0_largestGap ∈ qm_all := ⟨List.mem_filter.mpr ⟨by decide +kernel, rfl⟩, List.mem_filter.mpr ⟨by decide +kernel, rfl⟩⟩
def wX0_largestGap : qm_C := fun vs h => match vs with
  | [.inr (.inr (some (0, 0, p0)))] => (qX0_largestGap p0 h).map qm_Gi
  | _ => none
def aX0_largestGap : List (Option (Instr × Nat)) := [some (.iconst 0, 1), some (.istore_n 1, 1), some (.iconst 1, 1), some (.istore_n 2, 1), some (.iload_n 2, 1), some (.aload_n 0, 1), some (.getfield 21, 3), none, none, some (.if_icmp .gt 46, 3), none, none, some (.iconst 1, 1), some (.istore_n 3, 1), some (.iload_n 3, 1), some (.aload_n 0, 1), some (.getfield 25, 3), none, none, some (.if_icmp .gt 30, 3), none, none, some (.iload_n 2, 1), some (.iload_n 3, 1), some (.imul, 1), some (.iload_n 1, 1), some (.if_icmp .le 17, 3), none, none, some (.aload_n 0, 1), some (.iload_n 2, 1), some (.iload_n 3, 1), some (.invokevirtual 94, 3), none, none, some (.iconst (-1), 1), some (.if_icmp .eq 7, 3), none, none, some (.iload_n 2, 1), some (.iload_n 3, 1), some (.imul, 1), some (.istore_n 1, 1), some (.iinc 3 1, 3), none, none, some (.goto (-32), 3), none, none, some (.iinc 2 1, 3), none, none, some (.goto (-48), 3), none, none, some (.iload_n 1, 1), some (.ireturn, 1)]
theorem aX0_largestGap_ok : qm_tabok cX0_largestGap aX0_largestGap = true := by decide +kernel
def mX0_largestGap : qm_M := ((some .int), (fun k => qm_lk k pfRX0), (fun k => qm_lk k pcRX0), (fun k => qm_lk k [(94, 0, 3, wX0_gapFor)]), qm_tab aX0_largestGap)
set_option maxRecDepth 20000 in
set_option maxHeartbeats 2000000 in
theorem rX0_largestGap_14 {K4 : Nat → Int32 → Int32 → qm_H → Option (Int32 × qm_H)} (H4 : ∀ {a0 : Nat} {x1 : Int32} {x2 : Int32} {d3 : Option qm_V} {h : qm_H} {r : Int32 × qm_H}, K4 a0 x1 x2 h = some r → qm_Ret mX0_largestGap (4, [some (qm_r 0 0 a0), some (qm_i x1), some (qm_i x2), d3], [], h) (qm_Gi r)) : ∀ {fuel : Nat} {a0 : Nat} {x1 : Int32} {x2 : Int32} {x3 : Int32} {h : qm_H} {r : Int32 × qm_H}, qX0_largestGap_14 K4 fuel a0 x1 x2 x3 h = some r → qm_Ret mX0_largestGap (14, [some (qm_r 0 0 a0), some (qm_i x1), some (qm_i x2), some (qm_i x3)], [], h) (qm_Gi r) := by
  intro fuel
  induction fuel with
  | zero => intros; rename_i ho; cases ho
  | succ n ih =>
    intro a0 x1 x2 x3 h r ho
    unfold qX0_largestGap_14 at ho
    refine qm_Ret.sts 3 (f' := (19, [some (qm_r 0 0 a0), some (qm_i x1), some (qm_i x2), some (qm_i x3)], [qm_i (h.1 a0 4), qm_i x3], h)) rfl ?_
    refine qm_Ret.gt (t := 49) (e := 22) rfl (fun hc => ?_) (fun hc => ?_)
    · rw [if_pos hc] at ho
      refine qm_Ret.sts 2 (f' := (4, [some (qm_r 0 0 a0), some (qm_i x1), some (qm_i (x2 + (1 : Int32))), some (qm_i x3)], [], h)) rfl ?_
      exact H4 ho
    · rw [if_neg hc] at ho
      refine qm_Ret.sts 4 (f' := (26, [some (qm_r 0 0 a0), some (qm_i x1), some (qm_i x2), some (qm_i x3)], [qm_i x1, qm_i (x2 * x3)], h)) rfl ?_
      refine qm_Ret.le (t := 43) (e := 29) rfl (fun hc => ?_) (fun hc => ?_)
      · rw [if_pos hc] at ho
        refine qm_Ret.sts 3 (f' := (32, [some (qm_r 0 0 a0), some (qm_i x1), some (qm_i x2), some (qm_i x3)], [qm_i x3, qm_i x2, qm_r 0 0 a0], h)) rfl ?_
        obtain ⟨r2, h1, hr, ho⟩ := qm_b2e ho
        refine qm_Ret.call (X := wX0_gapFor [qm_r 0 0 a0, qm_i x2, qm_i x3] h) (o1 := (some (qm_i r2), h1)) (qm_mp (G := qm_Gi) hr) rfl ?_
        show qm_Ret _ (35, [some (qm_r 0 0 a0), some (qm_i x1), some (qm_i x2), some (qm_i x3)], [qm_i r2], h1) _
        refine qm_Ret.sts 1 (f' := (36, [some (qm_r 0 0 a0), some (qm_i x1), some (qm_i x2), some (qm_i x3)], [qm_i (-1 : Int32), qm_i r2], h1)) rfl ?_
        refine qm_Ret.eq (t := 43) (e := 39) rfl (fun hc => ?_) (fun hc => ?_)
        · rw [if_pos hc] at ho
          refine qm_Ret.sts 2 (f' := (14, [some (qm_r 0 0 a0), some (qm_i x1), some (qm_i x2), some (qm_i (x3 + (1 : Int32)))], [], h1)) rfl ?_
          exact ih ho
        · rw [if_neg hc] at ho
          refine qm_Ret.sts 6 (f' := (14, [some (qm_r 0 0 a0), some (qm_i (x2 * x3)), some (qm_i x2), some (qm_i (x3 + (1 : Int32)))], [], h1)) rfl ?_
          exact ih ho
      · rw [if_neg hc] at ho
        refine qm_Ret.sts 2 (f' := (14, [some (qm_r 0 0 a0), some (qm_i x1), some (qm_i x2), some (qm_i (x3 + (1 : Int32)))], [], h)) rfl ?_
        exact ih ho
set_option maxRecDepth 20000 in
set_option maxHeartbeats 2000000 in
theorem rX0_largestGap_4   : ∀ {fuel : Nat} {a0 : Nat} {x1 : Int32} {x2 : Int32} {d3 : Option qm_V} {h : qm_H} {r : Int32 × qm_H}, qX0_largestGap_4  fuel a0 x1 x2 h = some r → qm_Ret mX0_largestGap (4, [some (qm_r 0 0 a0), some (qm_i x1), some (qm_i x2), d3], [], h) (qm_Gi r) := by
  intro fuel
  induction fuel with
  | zero => intros; rename_i ho; cases ho
  | succ n ih =>
    intro a0 x1 x2 d3 h r ho
    unfold qX0_largestGap_4 at ho
    refine qm_Ret.sts 3 (f' := (9, [some (qm_r 0 0 a0), some (qm_i x1), some (qm_i x2), d3], [qm_i (h.1 a0 3), qm_i x2], h)) rfl ?_
    refine qm_Ret.gt (t := 55) (e := 12) rfl (fun hc => ?_) (fun hc => ?_)
    · rw [if_pos hc] at ho
      cases ho
      exact qm_Ret.ret 2 rfl
    · rw [if_neg hc] at ho
      refine qm_Ret.sts 2 (f' := (14, [some (qm_r 0 0 a0), some (qm_i x1), some (qm_i x2), some (qm_i (1 : Int32))], [], h)) rfl ?_
      exact rX0_largestGap_14 (ih) ho
set_option maxRecDepth 20000 in
set_option maxHeartbeats 2000000 in
theorem rX0_largestGap_0   {a0 : Nat} {h : qm_H} {r : Int32 × qm_H} (ho : qX0_largestGap  a0 h = some r) : qm_Ret mX0_largestGap (0, [some (qm_r 0 0 a0), none, none, none], [], h) (qm_Gi r) := by
  unfold qX0_largestGap at ho
  refine qm_Ret.sts 4 (f' := (4, [some (qm_r 0 0 a0), some (qm_i (0 : Int32)), some (qm_i (1 : Int32)), none], [], h)) rfl ?_
  exact rX0_largestGap_4 ho
theorem cX0_largestGap_ok : ∀ q ∈ ([(94, 0, 3, wX0_gapFor)] : List (Nat × Nat × Nat × qm_C)), qm_CallOK RX0 3 80 q.2.1 q.1 q.2.2.1 q.2.2.2 := List.forall_mem_cons.mpr ⟨Or.inl ⟨yX0_gapFor, cX0_gapFor, 3, (some .int), 2, 58, _, sX0_gapFor, ⟨by decide, by decide⟩, ⟨jX0_gapFor, kRX0_94, uRX0⟩, ⟨by decide, by decide, rfl⟩, Or.inl ⟨rfl, rfl, iX0_gapFor, recvX0_gapFor⟩⟩, fun _ h => absurd h List.not_mem_nil⟩
theorem sX0_largestGap : qm_Snd yX0_largestGap cX0_largestGap 4 (some .int) 3 80 wX0_largestGap := qm_met (fld := fun k => qm_lk k pfRX0) (con := fun k => qm_lk k pcRX0) (call := fun k => qm_lk k [(94, 0, 3, wX0_gapFor)]) (tab := qm_tab aX0_largestGap) (plainFor_of_name (by decide)) (qm_fld_ok pfRX0_ok) (qm_con_ok pcRX0_ok) (fun idx kd n f hc => cX0_largestGap_ok (idx, kd, n, f) (qm_lk_mem hc)) (qm_tab_ok aX0_largestGap_ok) (fun vs h o hw => by
  unfold wX0_largestGap at hw
  split at hw
  · obtain ⟨r, hr, rfl⟩ := Option.map_eq_some_iff.mp hw
    exact ⟨Nat.le_of_ble_eq_true rfl, rX0_largestGap_0 (hr)⟩
  · cases hw)
theorem recvX0_largestGap : ∀ vs h o, wX0_largestGap vs h = some o → ∃ ci a rest, vs = qm_r 0 ci a :: rest ∧ qm_R ci = yX0_largestGap.cls := by
  intro vs h o hw
  unfold wX0_largestGap at hw
  split at hw
  · exact ⟨_, _, _, rfl, rfl⟩
  · cases hw
-- RX0 mendedFirst(I)I
theorem jX0_mendedFirst : Jvm.Cond.code yX0_mendedFirst cX0_mendedFirst 7 (some .int) ∈ qm_all := List.mem_filter.mpr ⟨by decide +kernel, rfl⟩
theorem iX0_mendedFirst : Jvm.Cond.instanceMethod yX0_mendedFirst ∈ qm_all ∧ Jvm.Cond.selects yX0_mendedFirst.cls yX0_mendedFirst yX0_mendedFirst ∈ qm_all := ⟨List.mem_filter.mpr ⟨by decide +kernel, rfl⟩, List.mem_filter.mpr ⟨by decide +kernel, rfl⟩⟩
def wX0_mendedFirst : qm_C := fun vs h => match vs with
  | [.inr (.inr (some (0, 0, p0))), .inl p1] => (qX0_mendedFirst p0 p1 h).map qm_Gi
  | _ => none
def aX0_mendedFirst : List (Option (Instr × Nat)) := [some (.iconst 0, 1), some (.istore_n 2, 1), some (.iconst 0, 1), some (.istore_n 3, 1), some (.iload_n 3, 1), some (.iload_n 1, 1), some (.if_icmp .ge 108, 3), none, none, some (.iconst (-1), 1), some (.istore 4, 2), none, some (.iconst 0, 1), some (.istore 5, 2), none, some (.iload 5, 2), none, some (.aload_n 0, 1), some (.getfield 25, 3), none, none, some (.if_icmp .ge 74, 3), none, none, some (.iload 5, 2), none, some (.bipush 8, 2), none, some (.if_icmp .ge 67, 3), none, none, some (.iload_n 2, 1), some (.iload 5, 2), none, some (.ishr, 1), some (.iconst 1, 1), some (.iand, 1), some (.ifCond .ne 13, 3), none, none, some (.aload_n 0, 1), some (.getfield 15, 3), none, none, some (.iload 5, 2), none, some (.iaload, 1), some (.ifCond .ne 7, 3), none, none, some (.iconst 1, 1), some (.goto 4, 3), none, none, some (.iconst 0, 1), some (.istore 6, 2), none, some (.iload 6, 2), none, some (.ifCond .ne 30, 3), none, none, some (.iload 4, 2), none, some (.iconst (-1), 1), some (.if_icmp .eq 20, 3), none, none, some (.aload_n 0, 1), some (.getfield 15, 3), none, none, some (.iload 5, 2), none, some (.iaload, 1), some (.aload_n 0, 1), some (.getfield 15, 3), none, none, some (.iload 4, 2), none, some (.iaload, 1), some (.if_icmp .le 7, 3), none, none, some (.iload 5, 2), none, some (.istore 4, 2), none, some (.iinc 5 1, 3), none, none, some (.goto (-77), 3), none, none, some (.iload 4, 2), none, some (.iconst (-1), 1), some (.if_icmp .eq 10, 3), none, none, some (.iload_n 2, 1), some (.iconst 1, 1), some (.iload 4, 2), none, some (.ishl, 1), some (.ior, 1), some (.istore_n 2, 1), some (.iinc 3 1, 3), none, none, some (.goto (-107), 3), none, none, some (.iload_n 2, 1), some (.ireturn, 1)]
theorem aX0_mendedFirst_ok : qm_tabok cX0_mendedFirst aX0_mendedFirst = true := by decide +kernel
def mX0_mendedFirst : qm_M := ((some .int), (fun k => qm_lk k pfRX0), (fun k => qm_lk k pcRX0), (fun k => qm_lk k []), qm_tab aX0_mendedFirst)
set_option maxRecDepth 20000 in
set_option maxHeartbeats 2000000 in
theorem rX0_mendedFirst_55 {K4 : Nat → Int32 → Int32 → Int32 → qm_H → Option (Int32 × qm_H)} {K15 : Nat → Int32 → Int32 → Int32 → Int32 → Int32 → qm_H → Option (Int32 × qm_H)} (H4 : ∀ {a0 : Nat} {x1 : Int32} {x2 : Int32} {x3 : Int32} {d4 : Option qm_V} {d5 : Option qm_V} {d6 : Option qm_V} {h : qm_H} {r : Int32 × qm_H}, K4 a0 x1 x2 x3 h = some r → qm_Ret mX0_mendedFirst (4, [some (qm_r 0 0 a0), some (qm_i x1), some (qm_i x2), some (qm_i x3), d4, d5, d6], [], h) (qm_Gi r)) (H15 : ∀ {a0 : Nat} {x1 : Int32} {x2 : Int32} {x3 : Int32} {x4 : Int32} {x5 : Int32} {d6 : Option qm_V} {h : qm_H} {r : Int32 × qm_H}, K15 a0 x1 x2 x3 x4 x5 h = some r → qm_Ret mX0_mendedFirst (15, [some (qm_r 0 0 a0), some (qm_i x1), some (qm_i x2), some (qm_i x3), some (qm_i x4), some (qm_i x5), d6], [], h) (qm_Gi r)) {a0 : Nat} {x1 : Int32} {x2 : Int32} {x3 : Int32} {x4 : Int32} {x5 : Int32} {xs0 : Int32} {d6 : Option qm_V} {h : qm_H} {r : Int32 × qm_H} (ho : qX0_mendedFirst_55 K4 K15 a0 x1 x2 x3 x4 x5 xs0 h = some r) : qm_Ret mX0_mendedFirst (55, [some (qm_r 0 0 a0), some (qm_i x1), some (qm_i x2), some (qm_i x3), some (qm_i x4), some (qm_i x5), d6], [qm_i xs0], h) (qm_Gi r) := by
  unfold qX0_mendedFirst_55 at ho
  refine qm_Ret.sts 2 (f' := (59, [some (qm_r 0 0 a0), some (qm_i x1), some (qm_i x2), some (qm_i x3), some (qm_i x4), some (qm_i x5), some (qm_i xs0)], [qm_i xs0], h)) rfl ?_
  refine qm_Ret.ne (t := 89) (e := 62) rfl (fun hc => ?_) (fun hc => ?_)
  · rw [if_pos hc] at ho
    refine qm_Ret.sts 2 (f' := (65, [some (qm_r 0 0 a0), some (qm_i x1), some (qm_i x2), some (qm_i x3), some (qm_i x4), some (qm_i x5), some (qm_i xs0)], [qm_i (-1 : Int32), qm_i x4], h)) rfl ?_
    refine qm_Ret.eq (t := 85) (e := 68) rfl (fun hc => ?_) (fun hc => ?_)
    · rw [if_pos hc] at ho
      refine qm_Ret.sts 4 (f' := (15, [some (qm_r 0 0 a0), some (qm_i x1), some (qm_i x2), some (qm_i x3), some (qm_i x5), some (qm_i (x5 + (1 : Int32))), some (qm_i xs0)], [], h)) rfl ?_
      exact H15 ho
    · rw [if_neg hc] at ho
      refine qm_Ret.sts 3 (f' := (74, [some (qm_r 0 0 a0), some (qm_i x1), some (qm_i x2), some (qm_i x3), some (qm_i x4), some (qm_i x5), some (qm_i xs0)], [qm_i x5, qm_r 1 16 (a0 + 2)], h)) rfl ?_
      obtain ⟨hg, ho⟩ := qm_ifn ho
      refine qm_Ret.gn (f1 := (75, [some (qm_r 0 0 a0), some (qm_i x1), some (qm_i x2), some (qm_i x3), some (qm_i x4), some (qm_i x5), some (qm_i xs0)], [qm_i (h.1 (a0 + 2) (x5).toNatClampNeg)], h)) hg rfl ?_
      refine qm_Ret.sts 3 (f' := (81, [some (qm_r 0 0 a0), some (qm_i x1), some (qm_i x2), some (qm_i x3), some (qm_i x4), some (qm_i x5), some (qm_i xs0)], [qm_i x4, qm_r 1 16 (a0 + 2), qm_i (h.1 (a0 + 2) (x5).toNatClampNeg)], h)) rfl ?_
      obtain ⟨hg, ho⟩ := qm_ifn ho
      refine qm_Ret.gn (f1 := (82, [some (qm_r 0 0 a0), some (qm_i x1), some (qm_i x2), some (qm_i x3), some (qm_i x4), some (qm_i x5), some (qm_i xs0)], [qm_i (h.1 (a0 + 2) (x4).toNatClampNeg), qm_i (h.1 (a0 + 2) (x5).toNatClampNeg)], h)) hg rfl ?_
      refine qm_Ret.le (t := 89) (e := 85) rfl (fun hc => ?_) (fun hc => ?_)
      · rw [if_pos hc] at ho
        refine qm_Ret.sts 4 (f' := (15, [some (qm_r 0 0 a0), some (qm_i x1), some (qm_i x2), some (qm_i x3), some (qm_i x5), some (qm_i (x5 + (1 : Int32))), some (qm_i xs0)], [], h)) rfl ?_
        exact H15 ho
      · rw [if_neg hc] at ho
        refine qm_Ret.sts 2 (f' := (15, [some (qm_r 0 0 a0), some (qm_i x1), some (qm_i x2), some (qm_i x3), some (qm_i x4), some (qm_i (x5 + (1 : Int32))), some (qm_i xs0)], [], h)) rfl ?_
        exact H15 ho
  · rw [if_neg hc] at ho
    refine qm_Ret.sts 2 (f' := (15, [some (qm_r 0 0 a0), some (qm_i x1), some (qm_i x2), some (qm_i x3), some (qm_i x4), some (qm_i (x5 + (1 : Int32))), some (qm_i xs0)], [], h)) rfl ?_
    exact H15 ho
set_option maxRecDepth 20000 in
set_option maxHeartbeats 2000000 in
theorem rX0_mendedFirst_15 {K4 : Nat → Int32 → Int32 → Int32 → qm_H → Option (Int32 × qm_H)} (H4 : ∀ {a0 : Nat} {x1 : Int32} {x2 : Int32} {x3 : Int32} {d4 : Option qm_V} {d5 : Option qm_V} {d6 : Option qm_V} {h : qm_H} {r : Int32 × qm_H}, K4 a0 x1 x2 x3 h = some r → qm_Ret mX0_mendedFirst (4, [some (qm_r 0 0 a0), some (qm_i x1), some (qm_i x2), some (qm_i x3), d4, d5, d6], [], h) (qm_Gi r)) : ∀ {fuel : Nat} {a0 : Nat} {x1 : Int32} {x2 : Int32} {x3 : Int32} {x4 : Int32} {x5 : Int32} {d6 : Option qm_V} {h : qm_H} {r : Int32 × qm_H}, qX0_mendedFirst_15 K4 fuel a0 x1 x2 x3 x4 x5 h = some r → qm_Ret mX0_mendedFirst (15, [some (qm_r 0 0 a0), some (qm_i x1), some (qm_i x2), some (qm_i x3), some (qm_i x4), some (qm_i x5), d6], [], h) (qm_Gi r) := by
  intro fuel
  induction fuel with
  | zero => intros; rename_i ho; cases ho
  | succ n ih =>
    intro a0 x1 x2 x3 x4 x5 d6 h r ho
    unfold qX0_mendedFirst_15 at ho
    refine qm_Ret.sts 3 (f' := (21, [some (qm_r 0 0 a0), some (qm_i x1), some (qm_i x2), some (qm_i x3), some (qm_i x4), some (qm_i x5), d6], [qm_i (h.1 a0 4), qm_i x5], h)) rfl ?_
    refine qm_Ret.ge (t := 95) (e := 24) rfl (fun hc => ?_) (fun hc => ?_)
    · rw [if_pos hc] at ho
      refine qm_Ret.sts 2 (f' := (28, [some (qm_r 0 0 a0), some (qm_i x1), some (qm_i x2), some (qm_i x3), some (qm_i x4), some (qm_i x5), d6], [qm_i (8 : Int32), qm_i x5], h)) rfl ?_
      refine qm_Ret.ge (t := 95) (e := 31) rfl (fun hc => ?_) (fun hc => ?_)
      · rw [if_pos hc] at ho
        refine qm_Ret.sts 5 (f' := (37, [some (qm_r 0 0 a0), some (qm_i x1), some (qm_i x2), some (qm_i x3), some (qm_i x4), some (qm_i x5), d6], [qm_i ((qm_ishr x2 x5) &&& (1 : Int32))], h)) rfl ?_
        refine qm_Ret.ne (t := 50) (e := 40) rfl (fun hc => ?_) (fun hc => ?_)
        · rw [if_pos hc] at ho
          refine qm_Ret.sts 3 (f' := (46, [some (qm_r 0 0 a0), some (qm_i x1), some (qm_i x2), some (qm_i x3), some (qm_i x4), some (qm_i x5), d6], [qm_i x5, qm_r 1 16 (a0 + 2)], h)) rfl ?_
          obtain ⟨hg, ho⟩ := qm_ifn ho
          refine qm_Ret.gn (f1 := (47, [some (qm_r 0 0 a0), some (qm_i x1), some (qm_i x2), some (qm_i x3), some (qm_i x4), some (qm_i x5), d6], [qm_i (h.1 (a0 + 2) (x5).toNatClampNeg)], h)) hg rfl ?_
          refine qm_Ret.ne (t := 54) (e := 50) rfl (fun hc => ?_) (fun hc => ?_)
          · rw [if_pos hc] at ho
            refine qm_Ret.sts 2 (f' := (55, [some (qm_r 0 0 a0), some (qm_i x1), some (qm_i x2), some (qm_i x3), some (qm_i x4), some (qm_i x5), d6], [qm_i (1 : Int32)], h)) rfl ?_
            exact rX0_mendedFirst_55 H4 (ih) ho
          · rw [if_neg hc] at ho
            refine qm_Ret.sts 1 (f' := (55, [some (qm_r 0 0 a0), some (qm_i x1), some (qm_i x2), some (qm_i x3), some (qm_i x4), some (qm_i x5), d6], [qm_i (0 : Int32)], h)) rfl ?_
            exact rX0_mendedFirst_55 H4 (ih) ho
        · rw [if_neg hc] at ho
          refine qm_Ret.sts 2 (f' := (55, [some (qm_r 0 0 a0), some (qm_i x1), some (qm_i x2), some (qm_i x3), some (qm_i x4), some (qm_i x5), d6], [qm_i (1 : Int32)], h)) rfl ?_
          exact rX0_mendedFirst_55 H4 (ih) ho
      · rw [if_neg hc] at ho
        refine qm_Ret.sts 2 (f' := (98, [some (qm_r 0 0 a0), some (qm_i x1), some (qm_i x2), some (qm_i x3), some (qm_i x4), some (qm_i x5), d6], [qm_i (-1 : Int32), qm_i x4], h)) rfl ?_
        refine qm_Ret.eq (t := 108) (e := 101) rfl (fun hc => ?_) (fun hc => ?_)
        · rw [if_pos hc] at ho
          refine qm_Ret.sts 2 (f' := (4, [some (qm_r 0 0 a0), some (qm_i x1), some (qm_i x2), some (qm_i (x3 + (1 : Int32))), some (qm_i x4), some (qm_i x5), d6], [], h)) rfl ?_
          exact H4 ho
        · rw [if_neg hc] at ho
          refine qm_Ret.sts 5 (f' := (107, [some (qm_r 0 0 a0), some (qm_i x1), some (qm_i x2), some (qm_i x3), some (qm_i x4), some (qm_i x5), d6], [qm_i (x2 ||| (qm_ishl (1 : Int32) x4))], h)) rfl ?_
          refine qm_Ret.lets (F := fun v2 => (107, [some (qm_r 0 0 a0), some (qm_i x1), some (qm_i x2), some (qm_i x3), some (qm_i x4), some (qm_i x5), d6], [qm_i v2], h)) (G := qm_Gi) ho (fun v2 ho => ?_)
          refine qm_Ret.sts 3 (f' := (4, [some (qm_r 0 0 a0), some (qm_i x1), some (qm_i v2), some (qm_i (x3 + (1 : Int32))), some (qm_i x4), some (qm_i x5), d6], [], h)) rfl ?_
          exact H4 ho
    · rw [if_neg hc] at ho
      refine qm_Ret.sts 2 (f' := (98, [some (qm_r 0 0 a0), some (qm_i x1), some (qm_i x2), some (qm_i x3), some (qm_i x4), some (qm_i x5), d6], [qm_i (-1 : Int32), qm_i x4], h)) rfl ?_
      refine qm_Ret.eq (t := 108) (e := 101) rfl (fun hc => ?_) (fun hc => ?_)
      · rw [if_pos hc] at ho
        refine qm_Ret.sts 2 (f' := (4, [some (qm_r 0 0 a0), some (qm_i x1), some (qm_i x2), some (qm_i (x3 + (1 : Int32))), some (qm_i x4), some (qm_i x5), d6], [], h)) rfl ?_
        exact H4 ho
      · rw [if_neg hc] at ho
        refine qm_Ret.sts 5 (f' := (107, [some (qm_r 0 0 a0), some (qm_i x1), some (qm_i x2), some (qm_i x3), some (qm_i x4), some (qm_i x5), d6], [qm_i (x2 ||| (qm_ishl (1 : Int32) x4))], h)) rfl ?_
        refine qm_Ret.lets (F := fun v1 => (107, [some (qm_r 0 0 a0), some (qm_i x1), some (qm_i x2), some (qm_i x3), some (qm_i x4), some (qm_i x5), d6], [qm_i v1], h)) (G := qm_Gi) ho (fun v1 ho => ?_)
        refine qm_Ret.sts 3 (f' := (4, [some (qm_r 0 0 a0), some (qm_i x1), some (qm_i v1), some (qm_i (x3 + (1 : Int32))), some (qm_i x4), some (qm_i x5), d6], [], h)) rfl ?_
        exact H4 ho
set_option maxRecDepth 20000 in
set_option maxHeartbeats 2000000 in
theorem rX0_mendedFirst_4   : ∀ {fuel : Nat} {a0 : Nat} {x1 : Int32} {x2 : Int32} {x3 : Int32} {d4 : Option qm_V} {d5 : Option qm_V} {d6 : Option qm_V} {h : qm_H} {r : Int32 × qm_H}, qX0_mendedFirst_4  fuel a0 x1 x2 x3 h = some r → qm_Ret mX0_mendedFirst (4, [some (qm_r 0 0 a0), some (qm_i x1), some (qm_i x2), some (qm_i x3), d4, d5, d6], [], h) (qm_Gi r) := by
  intro fuel
  induction fuel with
  | zero => intros; rename_i ho; cases ho
  | succ n ih =>
    intro a0 x1 x2 x3 d4 d5 d6 h r ho
    unfold qX0_mendedFirst_4 at ho
    refine qm_Ret.sts 2 (f' := (6, [some (qm_r 0 0 a0), some (qm_i x1), some (qm_i x2), some (qm_i x3), d4, d5, d6], [qm_i x1, qm_i x3], h)) rfl ?_
    refine qm_Ret.ge (t := 114) (e := 9) rfl (fun hc => ?_) (fun hc => ?_)
    · rw [if_pos hc] at ho
      refine qm_Ret.sts 4 (f' := (15, [some (qm_r 0 0 a0), some (qm_i x1), some (qm_i x2), some (qm_i x3), some (qm_i (-1 : Int32)), some (qm_i (0 : Int32)), d6], [], h)) rfl ?_
      exact rX0_mendedFirst_15 (ih) ho
    · rw [if_neg hc] at ho
      cases ho
      exact qm_Ret.ret 2 rfl
set_option maxRecDepth 20000 in
set_option maxHeartbeats 2000000 in
theorem rX0_mendedFirst_0   {a0 : Nat} {x1 : Int32} {h : qm_H} {r : Int32 × qm_H} (ho : qX0_mendedFirst  a0 x1 h = some r) : qm_Ret mX0_mendedFirst (0, [some (qm_r 0 0 a0), some (qm_i x1), none, none, none, none, none], [], h) (qm_Gi r) := by
  unfold qX0_mendedFirst at ho
  refine qm_Ret.sts 4 (f' := (4, [some (qm_r 0 0 a0), some (qm_i x1), some (qm_i (0 : Int32)), some (qm_i (0 : Int32)), none, none, none], [], h)) rfl ?_
  exact rX0_mendedFirst_4 ho
theorem cX0_mendedFirst_ok : ∀ q ∈ ([] : List (Nat × Nat × Nat × qm_C)), qm_CallOK RX0 0 0 q.2.1 q.1 q.2.2.1 q.2.2.2 := fun _ h => absurd h List.not_mem_nil
theorem sX0_mendedFirst : qm_Snd yX0_mendedFirst cX0_mendedFirst 7 (some .int) 0 0 wX0_mendedFirst := qm_met (fld := fun k => qm_lk k pfRX0) (con := fun k => qm_lk k pcRX0) (call := fun k => qm_lk k []) (tab := qm_tab aX0_mendedFirst) (plainFor_of_name (by decide)) (qm_fld_ok pfRX0_ok) (qm_con_ok pcRX0_ok) (fun idx kd n f hc => cX0_mendedFirst_ok (idx, kd, n, f) (qm_lk_mem hc)) (qm_tab_ok aX0_mendedFirst_ok) (fun vs h o hw => by
  unfold wX0_mendedFirst at hw
  split at hw
  · obtain ⟨r, hr, rfl⟩ := Option.map_eq_some_iff.mp hw
    exact ⟨Nat.le_of_ble_eq_true rfl, rX0_mendedFirst_0 (hr)⟩
  · cases hw)
theorem recvX0_mendedFirst : ∀ vs h o, wX0_mendedFirst vs h = some o → ∃ ci a rest, vs = qm_r 0 ci a :: rest ∧ qm_R ci = yX0_mendedFirst.cls := by
  intro vs h o hw
  unfold wX0_mendedFirst at hw
  split at hw
  · exact ⟨_, _, _, rfl, rfl⟩
  · cases hw
-- RX0 soundWays(I)J
theorem jX0_soundWays : Jvm.Cond.code yX0_soundWays cX0_soundWays 5 (some .long) ∈ qm_all := List.mem_filter.mpr ⟨by decide +kernel, rfl⟩
theorem iX0_soundWays : Jvm.Cond.instanceMethod yX0_soundWays ∈ qm_all ∧ Jvm.Cond.selects yX0_soundWays.cls yX0_soundWays yX0_soundWays ∈ qm_all := ⟨List.mem_filter.mpr ⟨by decide +kernel, rfl⟩, List.mem_filter.mpr ⟨by decide +kernel, rfl⟩⟩
def wX0_soundWays : qm_C := fun vs h => match vs with
  | [.inr (.inr (some (0, 0, p0))), .inl p1] => (qX0_soundWays p0 p1 h).map qm_Gl
  | _ => none
def aX0_soundWays : List (Option (Instr × Nat)) := [some (.lconst 1, 1), some (.lstore_n 2, 1), some (.iconst 0, 1), some (.istore 4, 2), none, some (.iload 4, 2), none, some (.aload_n 0, 1), some (.getfield 25, 3), none, none, some (.if_icmp .ge 45, 3), none, none, some (.iload 4, 2), none, some (.bipush 8, 2), none, some (.if_icmp .ge 38, 3), none, none, some (.lload_n 2, 1), some (.iload_n 1, 1), some (.iload 4, 2), none, some (.ishr, 1), some (.iconst 1, 1), some (.iand, 1), some (.ifCond .eq 9, 3), none, none, some (.ldc2_w 122, 3), none, none, some (.goto 14, 3), none, none, some (.bipush 10, 2), none, some (.aload_n 0, 1), some (.getfield 15, 3), none, none, some (.iload 4, 2), none, some (.iaload, 1), some (.isub, 1), some (.i2l, 1), some (.lmul, 1), some (.lstore_n 2, 1), some (.iinc 4 1, 3), none, none, some (.goto (-48), 3), none, none, some (.lload_n 2, 1), some (.lreturn, 1)]
theorem aX0_soundWays_ok : qm_tabok cX0_soundWays aX0_soundWays = true := by decide +kernel
def mX0_soundWays : qm_M := ((some .long), (fun k => qm_lk k pfRX0), (fun k => qm_lk k pcRX0), (fun k => qm_lk k []), qm_tab aX0_soundWays)
set_option maxRecDepth 20000 in
set_option maxHeartbeats 2000000 in
theorem rX0_soundWays_5   : ∀ {fuel : Nat} {a0 : Nat} {x1 : Int32} {l2 : Int64} {x4 : Int32} {h : qm_H} {r : Int64 × qm_H}, qX0_soundWays_5  fuel a0 x1 l2 x4 h = some r → qm_Ret mX0_soundWays (5, [some (qm_r 0 0 a0), some (qm_i x1), some (qm_l l2), none, some (qm_i x4)], [], h) (qm_Gl r) := by
  intro fuel
  induction fuel with
  | zero => intros; rename_i ho; cases ho
  | succ n ih =>
    intro a0 x1 l2 x4 h r ho
    unfold qX0_soundWays_5 at ho
    refine qm_Ret.sts 3 (f' := (11, [some (qm_r 0 0 a0), some (qm_i x1), some (qm_l l2), none, some (qm_i x4)], [qm_i (h.1 a0 4), qm_i x4], h)) rfl ?_
    refine qm_Ret.ge (t := 56) (e := 14) rfl (fun hc => ?_) (fun hc => ?_)
    · rw [if_pos hc] at ho
      refine qm_Ret.sts 2 (f' := (18, [some (qm_r 0 0 a0), some (qm_i x1), some (qm_l l2), none, some (qm_i x4)], [qm_i (8 : Int32), qm_i x4], h)) rfl ?_
      refine qm_Ret.ge (t := 56) (e := 21) rfl (fun hc => ?_) (fun hc => ?_)
      · rw [if_pos hc] at ho
        refine qm_Ret.sts 6 (f' := (28, [some (qm_r 0 0 a0), some (qm_i x1), some (qm_l l2), none, some (qm_i x4)], [qm_i ((qm_ishr x1 x4) &&& (1 : Int32)), qm_l l2], h)) rfl ?_
        refine qm_Ret.eq (t := 37) (e := 31) rfl (fun hc => ?_) (fun hc => ?_)
        · rw [if_pos hc] at ho
          refine qm_Ret.sts 4 (f' := (45, [some (qm_r 0 0 a0), some (qm_i x1), some (qm_l l2), none, some (qm_i x4)], [qm_i x4, qm_r 1 16 (a0 + 2), qm_i (10 : Int32), qm_l l2], h)) rfl ?_
          obtain ⟨hg, ho⟩ := qm_ifn ho
          refine qm_Ret.gn (f1 := (46, [some (qm_r 0 0 a0), some (qm_i x1), some (qm_l l2), none, some (qm_i x4)], [qm_i (h.1 (a0 + 2) (x4).toNatClampNeg), qm_i (10 : Int32), qm_l l2], h)) hg rfl ?_
          refine qm_Ret.sts 3 (f' := (49, [some (qm_r 0 0 a0), some (qm_i x1), some (qm_l l2), none, some (qm_i x4)], [qm_l (l2 * (((10 : Int32) - (h.1 (a0 + 2) (x4).toNatClampNeg))).toInt64)], h)) rfl ?_
          refine qm_Ret.lets (F := fun v1 => (49, [some (qm_r 0 0 a0), some (qm_i x1), some (qm_l l2), none, some (qm_i x4)], [qm_l v1], h)) (G := qm_Gl) ho (fun v1 ho => ?_)
          refine qm_Ret.sts 3 (f' := (5, [some (qm_r 0 0 a0), some (qm_i x1), some (qm_l v1), none, some (qm_i (x4 + (1 : Int32)))], [], h)) rfl ?_
          exact ih ho
        · rw [if_neg hc] at ho
          refine qm_Ret.sts 3 (f' := (49, [some (qm_r 0 0 a0), some (qm_i x1), some (qm_l l2), none, some (qm_i x4)], [qm_l (l2 * (10 : Int64))], h)) rfl ?_
          refine qm_Ret.lets (F := fun v2 => (49, [some (qm_r 0 0 a0), some (qm_i x1), some (qm_l l2), none, some (qm_i x4)], [qm_l v2], h)) (G := qm_Gl) ho (fun v2 ho => ?_)
          refine qm_Ret.sts 3 (f' := (5, [some (qm_r 0 0 a0), some (qm_i x1), some (qm_l v2), none, some (qm_i (x4 + (1 : Int32)))], [], h)) rfl ?_
          exact ih ho
      · rw [if_neg hc] at ho
        cases ho
        exact qm_Ret.ret 2 rfl
    · rw [if_neg hc] at ho
      cases ho
      exact qm_Ret.ret 2 rfl
set_option maxRecDepth 20000 in
set_option maxHeartbeats 2000000 in
theorem rX0_soundWays_0   {a0 : Nat} {x1 : Int32} {h : qm_H} {r : Int64 × qm_H} (ho : qX0_soundWays  a0 x1 h = some r) : qm_Ret mX0_soundWays (0, [some (qm_r 0 0 a0), some (qm_i x1), none, none, none], [], h) (qm_Gl r) := by
  unfold qX0_soundWays at ho
  refine qm_Ret.sts 4 (f' := (5, [some (qm_r 0 0 a0), some (qm_i x1), some (qm_l (1 : Int64)), none, some (qm_i (0 : Int32))], [], h)) rfl ?_
  exact rX0_soundWays_5 ho
theorem cX0_soundWays_ok : ∀ q ∈ ([] : List (Nat × Nat × Nat × qm_C)), qm_CallOK RX0 0 0 q.2.1 q.1 q.2.2.1 q.2.2.2 := fun _ h => absurd h List.not_mem_nil
theorem sX0_soundWays : qm_Snd yX0_soundWays cX0_soundWays 5 (some .long) 0 0 wX0_soundWays := qm_met (fld := fun k => qm_lk k pfRX0) (con := fun k => qm_lk k pcRX0) (call := fun k => qm_lk k []) (tab := qm_tab aX0_soundWays) (plainFor_of_name (by decide)) (qm_fld_ok pfRX0_ok) (qm_con_ok pcRX0_ok) (fun idx kd n f hc => cX0_soundWays_ok (idx, kd, n, f) (qm_lk_mem hc)) (qm_tab_ok aX0_soundWays_ok) (fun vs h o hw => by
  unfold wX0_soundWays at hw
  split at hw
  · obtain ⟨r, hr, rfl⟩ := Option.map_eq_some_iff.mp hw
    exact ⟨Nat.le_of_ble_eq_true rfl, rX0_soundWays_0 (hr)⟩
  · cases hw)
theorem recvX0_soundWays : ∀ vs h o, wX0_soundWays vs h = some o → ∃ ci a rest, vs = qm_r 0 ci a :: rest ∧ qm_R ci = yX0_soundWays.cls := by
  intro vs h o hw
  unfold wX0_soundWays at hw
  split at hw
  · exact ⟨_, _, _, rfl, rfl⟩
  · cases hw
-- RX0 allWays()J
theorem jX0_allWays : Jvm.Cond.code yX0_allWays cX0_allWays 4 (some .long) ∈ qm_all := List.mem_filter.mpr ⟨by decide +kernel, rfl⟩
theorem iX0_allWays : Jvm.Cond.instanceMethod yX0_allWays ∈ qm_all ∧ Jvm.Cond.selects yX0_allWays.cls yX0_allWays yX0_allWays ∈ qm_all := ⟨List.mem_filter.mpr ⟨by decide +kernel, rfl⟩, List.mem_filter.mpr ⟨by decide +kernel, rfl⟩⟩
def wX0_allWays : qm_C := fun vs h => match vs with
  | [.inr (.inr (some (0, 0, p0)))] => (qX0_allWays p0 h).map qm_Gl
  | _ => none
def aX0_allWays : List (Option (Instr × Nat)) := [some (.lconst 1, 1), some (.lstore_n 1, 1), some (.iconst 0, 1), some (.istore_n 3, 1), some (.iload_n 3, 1), some (.aload_n 0, 1), some (.getfield 25, 3), none, none, some (.if_icmp .ge 21, 3), none, none, some (.iload_n 3, 1), some (.bipush 8, 2), none, some (.if_icmp .ge 15, 3), none, none, some (.lload_n 1, 1), some (.ldc2_w 122, 3), none, none, some (.lmul, 1), some (.lstore_n 1, 1), some (.iinc 3 1, 3), none, none, some (.goto (-23), 3), none, none, some (.lload_n 1, 1), some (.lreturn, 1)]
theorem aX0_allWays_ok : qm_tabok cX0_allWays aX0_allWays = true := by decide +kernel
def mX0_allWays : qm_M := ((some .long), (fun k => qm_lk k pfRX0), (fun k => qm_lk k pcRX0), (fun k => qm_lk k []), qm_tab aX0_allWays)
set_option maxRecDepth 20000 in
set_option maxHeartbeats 2000000 in
theorem rX0_allWays_4   : ∀ {fuel : Nat} {a0 : Nat} {l1 : Int64} {x3 : Int32} {h : qm_H} {r : Int64 × qm_H}, qX0_allWays_4  fuel a0 l1 x3 h = some r → qm_Ret mX0_allWays (4, [some (qm_r 0 0 a0), some (qm_l l1), none, some (qm_i x3)], [], h) (qm_Gl r) := by
  intro fuel
  induction fuel with
  | zero => intros; rename_i ho; cases ho
  | succ n ih =>
    intro a0 l1 x3 h r ho
    unfold qX0_allWays_4 at ho
    refine qm_Ret.sts 3 (f' := (9, [some (qm_r 0 0 a0), some (qm_l l1), none, some (qm_i x3)], [qm_i (h.1 a0 4), qm_i x3], h)) rfl ?_
    refine qm_Ret.ge (t := 30) (e := 12) rfl (fun hc => ?_) (fun hc => ?_)
    · rw [if_pos hc] at ho
      refine qm_Ret.sts 2 (f' := (15, [some (qm_r 0 0 a0), some (qm_l l1), none, some (qm_i x3)], [qm_i (8 : Int32), qm_i x3], h)) rfl ?_
      refine qm_Ret.ge (t := 30) (e := 18) rfl (fun hc => ?_) (fun hc => ?_)
      · rw [if_pos hc] at ho
        refine qm_Ret.sts 3 (f' := (23, [some (qm_r 0 0 a0), some (qm_l l1), none, some (qm_i x3)], [qm_l (l1 * (10 : Int64))], h)) rfl ?_
        refine qm_Ret.lets (F := fun v1 => (23, [some (qm_r 0 0 a0), some (qm_l l1), none, some (qm_i x3)], [qm_l v1], h)) (G := qm_Gl) ho (fun v1 ho => ?_)
        refine qm_Ret.sts 3 (f' := (4, [some (qm_r 0 0 a0), some (qm_l v1), none, some (qm_i (x3 + (1 : Int32)))], [], h)) rfl ?_
        exact ih ho
      · rw [if_neg hc] at ho
        cases ho
        exact qm_Ret.ret 2 rfl
    · rw [if_neg hc] at ho
      cases ho
      exact qm_Ret.ret 2 rfl
set_option maxRecDepth 20000 in
set_option maxHeartbeats 2000000 in
theorem rX0_allWays_0   {a0 : Nat} {h : qm_H} {r : Int64 × qm_H} (ho : qX0_allWays  a0 h = some r) : qm_Ret mX0_allWays (0, [some (qm_r 0 0 a0), none, none, none], [], h) (qm_Gl r) := by
  unfold qX0_allWays at ho
  refine qm_Ret.sts 4 (f' := (4, [some (qm_r 0 0 a0), some (qm_l (1 : Int64)), none, some (qm_i (0 : Int32))], [], h)) rfl ?_
  exact rX0_allWays_4 ho
theorem cX0_allWays_ok : ∀ q ∈ ([] : List (Nat × Nat × Nat × qm_C)), qm_CallOK RX0 0 0 q.2.1 q.1 q.2.2.1 q.2.2.2 := fun _ h => absurd h List.not_mem_nil
theorem sX0_allWays : qm_Snd yX0_allWays cX0_allWays 4 (some .long) 0 0 wX0_allWays := qm_met (fld := fun k => qm_lk k pfRX0) (con := fun k => qm_lk k pcRX0) (call := fun k => qm_lk k []) (tab := qm_tab aX0_allWays) (plainFor_of_name (by decide)) (qm_fld_ok pfRX0_ok) (qm_con_ok pcRX0_ok) (fun idx kd n f hc => cX0_allWays_ok (idx, kd, n, f) (qm_lk_mem hc)) (qm_tab_ok aX0_allWays_ok) (fun vs h o hw => by
  unfold wX0_allWays at hw
  split at hw
  · obtain ⟨r, hr, rfl⟩ := Option.map_eq_some_iff.mp hw
    exact ⟨Nat.le_of_ble_eq_true rfl, rX0_allWays_0 (hr)⟩
  · cases hw)
theorem recvX0_allWays : ∀ vs h o, wX0_allWays vs h = some o → ∃ ci a rest, vs = qm_r 0 ci a :: rest ∧ qm_R ci = yX0_allWays.cls := by
  intro vs h o hw
  unfold wX0_allWays at hw
  split at hw
  · exact ⟨_, _, _, rfl, rfl⟩
  · cases hw
-- RX0 mirrors()I
theorem jX0_mirrors : Jvm.Cond.code yX0_mirrors cX0_mirrors 6 (some .int) ∈ qm_all := List.mem_filter.mpr ⟨by decide +kernel, rfl⟩
theorem iX0_mirrors : Jvm.Cond.instanceMethod yX0_mirrors ∈ qm_all ∧ Jvm.Cond.selects yX0_mirrors.cls yX0_mirrors yX0_mirrors ∈ qm_all := ⟨List.mem_filter.mpr ⟨by decide +kernel, rfl⟩, List.mem_filter.mpr ⟨by decide +kernel, rfl⟩⟩
def wX0_mirrors : qm_C := fun vs h => match vs with
  | [.inr (.inr (some (0, 0, p0)))] => (qX0_mirrors p0 h).map qm_Gi
  | _ => none
def aX0_mirrors : List (Option (Instr × Nat)) := [some (.iconst 1, 1), some (.istore_n 1, 1), some (.iconst 1, 1), some (.istore_n 2, 1), some (.iconst 0, 1), some (.istore_n 3, 1), some (.iload_n 3, 1), some (.aload_n 0, 1), some (.getfield 25, 3), none, none, some (.if_icmp .ge 90, 3), none, none, some (.iconst 0, 1), some (.istore 4, 2), none, some (.iload 4, 2), none, some (.aload_n 0, 1), some (.getfield 21, 3), none, none, some (.if_icmp .ge 72, 3), none, none, some (.aload_n 0, 1), some (.iload_n 3, 1), some (.iload 4, 2), none, some (.invokevirtual 70, 3), none, none, some (.istore 5, 2), none, some (.iload_n 1, 1), some (.iload 5, 2), none, some (.aload_n 0, 1), some (.iload_n 3, 1), some (.aload_n 0, 1), some (.getfield 21, 3), none, none, some (.iconst 1, 1), some (.isub, 1), some (.iload 4, 2), none, some (.isub, 1), some (.invokevirtual 70, 3), none, none, some (.if_icmp .ne 7, 3), none, none, some (.iconst 1, 1), some (.goto 4, 3), none, none, some (.iconst 0, 1), some (.iand, 1), some (.istore_n 1, 1), some (.iload_n 2, 1), some (.iload 5, 2), none, some (.aload_n 0, 1), some (.aload_n 0, 1), some (.getfield 25, 3), none, none, some (.iconst 1, 1), some (.isub, 1), some (.iload_n 3, 1), some (.isub, 1), some (.iload 4, 2), none, some (.invokevirtual 70, 3), none, none, some (.if_icmp .ne 7, 3), none, none, some (.iconst 1, 1), some (.goto 4, 3), none, none, some (.iconst 0, 1), some (.iand, 1), some (.istore_n 2, 1), some (.iinc 4 1, 3), none, none, some (.goto (-75), 3), none, none, some (.iinc 3 1, 3), none, none, some (.goto (-92), 3), none, none, some (.iload_n 1, 1), some (.ifCond .eq 7, 3), none, none, some (.iconst 1, 1), some (.goto 4, 3), none, none, some (.iconst 0, 1), some (.iload_n 2, 1), some (.ifCond .eq 7, 3), none, none, some (.iconst 2, 1), some (.goto 4, 3), none, none, some (.iconst 0, 1), some (.iadd, 1), some (.ireturn, 1)]
theorem aX0_mirrors_ok : qm_tabok cX0_mirrors aX0_mirrors = true := by decide +kernel
def mX0_mirrors : qm_M := ((some .int), (fun k => qm_lk k pfRX0), (fun k => qm_lk k pcRX0), (fun k => qm_lk k [(70, 0, 3, wX0_isOpen)]), qm_tab aX0_mirrors)
set_option maxRecDepth 20000 in
set_option maxHeartbeats 2000000 in
theorem rX0_mirrors_60 {K6 : Nat → Int32 → Int32 → Int32 → qm_H → Option (Int32 × qm_H)} {K17 : Nat → Int32 → Int32 → Int32 → Int32 → qm_H → Option (Int32 × qm_H)} (H6 : ∀ {a0 : Nat} {x1 : Int32} {x2 : Int32} {x3 : Int32} {d4 : Option qm_V} {d5 : Option qm_V} {h : qm_H} {r : Int32 × qm_H}, K6 a0 x1 x2 x3 h = some r → qm_Ret mX0_mirrors (6, [some (qm_r 0 0 a0), some (qm_i x1), some (qm_i x2), some (qm_i x3), d4, d5], [], h) (qm_Gi r)) (H17 : ∀ {a0 : Nat} {x1 : Int32} {x2 : Int32} {x3 : Int32} {x4 : Int32} {d5 : Option qm_V} {h : qm_H} {r : Int32 × qm_H}, K17 a0 x1 x2 x3 x4 h = some r → qm_Ret mX0_mirrors (17, [some (qm_r 0 0 a0), some (qm_i x1), some (qm_i x2), some (qm_i x3), some (qm_i x4), d5], [], h) (qm_Gi r)) {a0 : Nat} {x2 : Int32} {x3 : Int32} {x4 : Int32} {x5 : Int32} {xs0 : Int32} {xs1 : Int32} {xd1 : Int32} {h : qm_H} {r : Int32 × qm_H} (ho : qX0_mirrors_60 K6 K17 a0 x2 x3 x4 x5 xs0 xs1 h = some r) : qm_Ret mX0_mirrors (60, [some (qm_r 0 0 a0), some (qm_i xd1), some (qm_i x2), some (qm_i x3), some (qm_i x4), some (qm_i x5)], [qm_i xs0, qm_i xs1], h) (qm_Gi r) := by
  unfold qX0_mirrors_60 at ho
  refine qm_Ret.sts 1 (f' := (61, [some (qm_r 0 0 a0), some (qm_i xd1), some (qm_i x2), some (qm_i x3), some (qm_i x4), some (qm_i x5)], [qm_i (xs1 &&& xs0)], h)) rfl ?_
  refine qm_Ret.lets (F := fun v1 => (61, [some (qm_r 0 0 a0), some (qm_i xd1), some (qm_i x2), some (qm_i x3), some (qm_i x4), some (qm_i x5)], [qm_i v1], h)) (G := qm_Gi) ho (fun v1 ho => ?_)
  refine qm_Ret.sts 11 (f' := (76, [some (qm_r 0 0 a0), some (qm_i v1), some (qm_i x2), some (qm_i x3), some (qm_i x4), some (qm_i x5)], [qm_i x4, qm_i (((h.1 a0 4) - (1 : Int32)) - x3), qm_r 0 0 a0, qm_i x5, qm_i x2], h)) rfl ?_
  obtain ⟨r3, h2, hr, ho⟩ := qm_b2e ho
  refine qm_Ret.call (X := wX0_isOpen [qm_r 0 0 a0, qm_i (((h.1 a0 4) - (1 : Int32)) - x3), qm_i x4] h) (o1 := (some (qm_i r3), h2)) (qm_mp (G := qm_Gi) hr) rfl ?_
  show qm_Ret _ (79, [some (qm_r 0 0 a0), some (qm_i v1), some (qm_i x2), some (qm_i x3), some (qm_i x4), some (qm_i x5)], [qm_i r3, qm_i x5, qm_i x2], h2) _
  refine qm_Ret.ne (t := 86) (e := 82) rfl (fun hc => ?_) (fun hc => ?_)
  · rw [if_pos hc] at ho
    refine qm_Ret.sts 3 (f' := (88, [some (qm_r 0 0 a0), some (qm_i v1), some (qm_i x2), some (qm_i x3), some (qm_i x4), some (qm_i x5)], [qm_i (x2 &&& (1 : Int32))], h2)) rfl ?_
    refine qm_Ret.lets (F := fun v5 => (88, [some (qm_r 0 0 a0), some (qm_i v1), some (qm_i x2), some (qm_i x3), some (qm_i x4), some (qm_i x5)], [qm_i v5], h2)) (G := qm_Gi) ho (fun v5 ho => ?_)
    refine qm_Ret.sts 3 (f' := (17, [some (qm_r 0 0 a0), some (qm_i v1), some (qm_i v5), some (qm_i x3), some (qm_i (x4 + (1 : Int32))), some (qm_i x5)], [], h2)) rfl ?_
    exact H17 ho
  · rw [if_neg hc] at ho
    refine qm_Ret.sts 2 (f' := (88, [some (qm_r 0 0 a0), some (qm_i v1), some (qm_i x2), some (qm_i x3), some (qm_i x4), some (qm_i x5)], [qm_i (x2 &&& (0 : Int32))], h2)) rfl ?_
    refine qm_Ret.lets (F := fun v4 => (88, [some (qm_r 0 0 a0), some (qm_i v1), some (qm_i x2), some (qm_i x3), some (qm_i x4), some (qm_i x5)], [qm_i v4], h2)) (G := qm_Gi) ho (fun v4 ho => ?_)
    refine qm_Ret.sts 3 (f' := (17, [some (qm_r 0 0 a0), some (qm_i v1), some (qm_i v4), some (qm_i x3), some (qm_i (x4 + (1 : Int32))), some (qm_i x5)], [], h2)) rfl ?_
    exact H17 ho
set_option maxRecDepth 20000 in
set_option maxHeartbeats 2000000 in
theorem rX0_mirrors_17 {K6 : Nat → Int32 → Int32 → Int32 → qm_H → Option (Int32 × qm_H)} (H6 : ∀ {a0 : Nat} {x1 : Int32} {x2 : Int32} {x3 : Int32} {d4 : Option qm_V} {d5 : Option qm_V} {h : qm_H} {r : Int32 × qm_H}, K6 a0 x1 x2 x3 h = some r → qm_Ret mX0_mirrors (6, [some (qm_r 0 0 a0), some (qm_i x1), some (qm_i x2), some (qm_i x3), d4, d5], [], h) (qm_Gi r)) : ∀ {fuel : Nat} {a0 : Nat} {x1 : Int32} {x2 : Int32} {x3 : Int32} {x4 : Int32} {d5 : Option qm_V} {h : qm_H} {r : Int32 × qm_H}, qX0_mirrors_17 K6 fuel a0 x1 x2 x3 x4 h = some r → qm_Ret mX0_mirrors (17, [some (qm_r 0 0 a0), some (qm_i x1), some (qm_i x2), some (qm_i x3), some (qm_i x4), d5], [], h) (qm_Gi r) := by
  intro fuel
  induction fuel with
  | zero => intros; rename_i ho; cases ho
  | succ n ih =>
    intro a0 x1 x2 x3 x4 d5 h r ho
    unfold qX0_mirrors_17 at ho
    refine qm_Ret.sts 3 (f' := (23, [some (qm_r 0 0 a0), some (qm_i x1), some (qm_i x2), some (qm_i x3), some (qm_i x4), d5], [qm_i (h.1 a0 3), qm_i x4], h)) rfl ?_
    refine qm_Ret.ge (t := 95) (e := 26) rfl (fun hc => ?_) (fun hc => ?_)
    · rw [if_pos hc] at ho
      refine qm_Ret.sts 3 (f' := (30, [some (qm_r 0 0 a0), some (qm_i x1), some (qm_i x2), some (qm_i x3), some (qm_i x4), d5], [qm_i x4, qm_i x3, qm_r 0 0 a0], h)) rfl ?_
      obtain ⟨r2, h1, hr, ho⟩ := qm_b2e ho
      refine qm_Ret.call (X := wX0_isOpen [qm_r 0 0 a0, qm_i x3, qm_i x4] h) (o1 := (some (qm_i r2), h1)) (qm_mp (G := qm_Gi) hr) rfl ?_
      show qm_Ret _ (33, [some (qm_r 0 0 a0), some (qm_i x1), some (qm_i x2), some (qm_i x3), some (qm_i x4), d5], [qm_i r2], h1) _
      refine qm_Ret.sts 11 (f' := (49, [some (qm_r 0 0 a0), some (qm_i x1), some (qm_i x2), some (qm_i x3), some (qm_i x4), some (qm_i r2)], [qm_i (((h1.1 a0 3) - (1 : Int32)) - x4), qm_i x3, qm_r 0 0 a0, qm_i r2, qm_i x1], h1)) rfl ?_
      obtain ⟨r4, h3, hr, ho⟩ := qm_b2e ho
      refine qm_Ret.call (X := wX0_isOpen [qm_r 0 0 a0, qm_i x3, qm_i (((h1.1 a0 3) - (1 : Int32)) - x4)] h1) (o1 := (some (qm_i r4), h3)) (qm_mp (G := qm_Gi) hr) rfl ?_
      show qm_Ret _ (52, [some (qm_r 0 0 a0), some (qm_i x1), some (qm_i x2), some (qm_i x3), some (qm_i x4), some (qm_i r2)], [qm_i r4, qm_i r2, qm_i x1], h3) _
      refine qm_Ret.ne (t := 59) (e := 55) rfl (fun hc => ?_) (fun hc => ?_)
      · rw [if_pos hc] at ho
        refine qm_Ret.sts 2 (f' := (60, [some (qm_r 0 0 a0), some (qm_i x1), some (qm_i x2), some (qm_i x3), some (qm_i x4), some (qm_i r2)], [qm_i (1 : Int32), qm_i x1], h3)) rfl ?_
        exact rX0_mirrors_60 H6 (ih) ho
      · rw [if_neg hc] at ho
        refine qm_Ret.sts 1 (f' := (60, [some (qm_r 0 0 a0), some (qm_i x1), some (qm_i x2), some (qm_i x3), some (qm_i x4), some (qm_i r2)], [qm_i (0 : Int32), qm_i x1], h3)) rfl ?_
        exact rX0_mirrors_60 H6 (ih) ho
    · rw [if_neg hc] at ho
      refine qm_Ret.sts 2 (f' := (6, [some (qm_r 0 0 a0), some (qm_i x1), some (qm_i x2), some (qm_i (x3 + (1 : Int32))), some (qm_i x4), d5], [], h)) rfl ?_
      exact H6 ho
set_option maxRecDepth 20000 in
set_option maxHeartbeats 2000000 in
theorem rX0_mirrors_6   : ∀ {fuel : Nat} {a0 : Nat} {x1 : Int32} {x2 : Int32} {x3 : Int32} {d4 : Option qm_V} {d5 : Option qm_V} {h : qm_H} {r : Int32 × qm_H}, qX0_mirrors_6  fuel a0 x1 x2 x3 h = some r → qm_Ret mX0_mirrors (6, [some (qm_r 0 0 a0), some (qm_i x1), some (qm_i x2), some (qm_i x3), d4, d5], [], h) (qm_Gi r) := by
  intro fuel
  induction fuel with
  | zero => intros; rename_i ho; cases ho
  | succ n ih =>
    intro a0 x1 x2 x3 d4 d5 h r ho
    unfold qX0_mirrors_6 at ho
    refine qm_Ret.sts 3 (f' := (11, [some (qm_r 0 0 a0), some (qm_i x1), some (qm_i x2), some (qm_i x3), d4, d5], [qm_i (h.1 a0 4), qm_i x3], h)) rfl ?_
    refine qm_Ret.ge (t := 101) (e := 14) rfl (fun hc => ?_) (fun hc => ?_)
    · rw [if_pos hc] at ho
      refine qm_Ret.sts 2 (f' := (17, [some (qm_r 0 0 a0), some (qm_i x1), some (qm_i x2), some (qm_i x3), some (qm_i (0 : Int32)), d5], [], h)) rfl ?_
      exact rX0_mirrors_17 (ih) ho
    · rw [if_neg hc] at ho
      refine qm_Ret.sts 1 (f' := (102, [some (qm_r 0 0 a0), some (qm_i x1), some (qm_i x2), some (qm_i x3), d4, d5], [qm_i x1], h)) rfl ?_
      refine qm_Ret.eq (t := 109) (e := 105) rfl (fun hc => ?_) (fun hc => ?_)
      · rw [if_pos hc] at ho
        refine qm_Ret.sts 2 (f' := (111, [some (qm_r 0 0 a0), some (qm_i x1), some (qm_i x2), some (qm_i x3), d4, d5], [qm_i x2, qm_i (0 : Int32)], h)) rfl ?_
        refine qm_Ret.eq (t := 118) (e := 114) rfl (fun hc => ?_) (fun hc => ?_)
        · rw [if_pos hc] at ho
          cases ho
          exact qm_Ret.ret 3 rfl
        · rw [if_neg hc] at ho
          cases ho
          exact qm_Ret.ret 4 rfl
      · rw [if_neg hc] at ho
        refine qm_Ret.sts 3 (f' := (111, [some (qm_r 0 0 a0), some (qm_i x1), some (qm_i x2), some (qm_i x3), d4, d5], [qm_i x2, qm_i (1 : Int32)], h)) rfl ?_
        refine qm_Ret.eq (t := 118) (e := 114) rfl (fun hc => ?_) (fun hc => ?_)
        · rw [if_pos hc] at ho
          cases ho
          exact qm_Ret.ret 3 rfl
        · rw [if_neg hc] at ho
          cases ho
          exact qm_Ret.ret 4 rfl
set_option maxRecDepth 20000 in
set_option maxHeartbeats 2000000 in
theorem rX0_mirrors_0   {a0 : Nat} {h : qm_H} {r : Int32 × qm_H} (ho : qX0_mirrors  a0 h = some r) : qm_Ret mX0_mirrors (0, [some (qm_r 0 0 a0), none, none, none, none, none], [], h) (qm_Gi r) := by
  unfold qX0_mirrors at ho
  refine qm_Ret.sts 6 (f' := (6, [some (qm_r 0 0 a0), some (qm_i (1 : Int32)), some (qm_i (1 : Int32)), some (qm_i (0 : Int32)), none, none], [], h)) rfl ?_
  exact rX0_mirrors_6 ho
theorem cX0_mirrors_ok : ∀ q ∈ ([(70, 0, 3, wX0_isOpen)] : List (Nat × Nat × Nat × qm_C)), qm_CallOK RX0 2 43 q.2.1 q.1 q.2.2.1 q.2.2.2 := List.forall_mem_cons.mpr ⟨Or.inl ⟨yX0_isOpen, cX0_isOpen, 3, (some .boolean), 1, 21, _, sX0_isOpen, ⟨by decide, by decide⟩, ⟨jX0_isOpen, kRX0_70, uRX0⟩, ⟨by decide, by decide, rfl⟩, Or.inl ⟨rfl, rfl, iX0_isOpen, recvX0_isOpen⟩⟩, fun _ h => absurd h List.not_mem_nil⟩
theorem sX0_mirrors : qm_Snd yX0_mirrors cX0_mirrors 6 (some .int) 2 43 wX0_mirrors := qm_met (fld := fun k => qm_lk k pfRX0) (con := fun k => qm_lk k pcRX0) (call := fun k => qm_lk k [(70, 0, 3, wX0_isOpen)]) (tab := qm_tab aX0_mirrors) (plainFor_of_name (by decide)) (qm_fld_ok pfRX0_ok) (qm_con_ok pcRX0_ok) (fun idx kd n f hc => cX0_mirrors_ok (idx, kd, n, f) (qm_lk_mem hc)) (qm_tab_ok aX0_mirrors_ok) (fun vs h o hw => by
  unfold wX0_mirrors at hw
  split at hw
  · obtain ⟨r, hr, rfl⟩ := Option.map_eq_some_iff.mp hw
    exact ⟨Nat.le_of_ble_eq_true rfl, rX0_mirrors_0 (hr)⟩
  · cases hw)
theorem recvX0_mirrors : ∀ vs h o, wX0_mirrors vs h = some o → ∃ ci a rest, vs = qm_r 0 ci a :: rest ∧ qm_R ci = yX0_mirrors.cls := by
  intro vs h o hw
  unfold wX0_mirrors at hw
  split at hw
  · exact ⟨_, _, _, rfl, rfl⟩
  · cases hw
-- RX0 openIn(J)I
theorem jX0_openIn : Jvm.Cond.code yX0_openIn cX0_openIn 3 (some .int) ∈ qm_all := List.mem_filter.mpr ⟨by decide +kernel, rfl⟩
theorem iX0_openIn : Jvm.Cond.instanceMethod yX0_openIn ∈ qm_all ∧ Jvm.Cond.selects yX0_openIn.cls yX0_openIn yX0_openIn ∈ qm_all := ⟨List.mem_filter.mpr ⟨by decide +kernel, rfl⟩, List.mem_filter.mpr ⟨by decide +kernel, rfl⟩⟩
def wX0_openIn : qm_C := fun vs h => match vs with
  | [.inr (.inr (some (0, 0, p0))), .inr (.inl p1)] => (qX0_openIn p0 p1 h).map qm_Gi
  | _ => none
def aX0_openIn : List (Option (Instr × Nat)) := [some (.aload_n 0, 1), some (.getfield 32, 3), none, none, some (.lload_n 1, 1), some (.land, 1), some (.invokestatic 108, 3), none, none, some (.ireturn, 1)]
theorem aX0_openIn_ok : qm_tabok cX0_openIn aX0_openIn = true := by decide +kernel
def mX0_openIn : qm_M := ((some .int), (fun k => qm_lk k pfRX0), (fun k => qm_lk k pcRX0), (fun k => qm_lk k [(108, 2, 1, wJ13_bitCount_95d88)]), qm_tab aX0_openIn)
set_option maxRecDepth 20000 in
set_option maxHeartbeats 2000000 in
theorem rX0_openIn_0   {a0 : Nat} {l1 : Int64} {h : qm_H} {r : Int32 × qm_H} (ho : qX0_openIn  a0 l1 h = some r) : qm_Ret mX0_openIn (0, [some (qm_r 0 0 a0), some (qm_l l1), none], [], h) (qm_Gi r) := by
  unfold qX0_openIn at ho
  refine qm_Ret.sts 4 (f' := (6, [some (qm_r 0 0 a0), some (qm_l l1), none], [qm_l ((h.2 a0 6) &&& l1)], h)) rfl ?_
  obtain ⟨r2, h1, hr, ho⟩ := qm_b2e ho
  refine qm_Ret.call (X := wJ13_bitCount_95d88 [qm_l ((h.2 a0 6) &&& l1)] h) (o1 := (some (qm_i r2), h1)) (qm_mp (G := qm_Gi) hr) rfl ?_
  show qm_Ret _ (9, [some (qm_r 0 0 a0), some (qm_l l1), none], [qm_i r2], h1) _
  cases ho
  exact qm_Ret.ret 1 rfl
theorem cX0_openIn_ok : ∀ q ∈ ([(108, 2, 1, wJ13_bitCount_95d88)] : List (Nat × Nat × Nat × qm_C)), qm_CallOK RX0 1 21 q.2.1 q.1 q.2.2.1 q.2.2.2 := List.forall_mem_cons.mpr ⟨Or.inl ⟨yJ13_bitCount_95d88, cJ13_bitCount_95d88, 2, (some .int), 0, 0, _, sJ13_bitCount_95d88, ⟨by decide, by decide⟩, ⟨jJ13_bitCount_95d88, kRX0_108, uRJ13⟩, ⟨by decide, by decide, rfl⟩, Or.inr (Or.inl ⟨rfl, rfl, iJ13_bitCount_95d88⟩)⟩, fun _ h => absurd h List.not_mem_nil⟩
theorem sX0_openIn : qm_Snd yX0_openIn cX0_openIn 3 (some .int) 1 21 wX0_openIn := qm_met (fld := fun k => qm_lk k pfRX0) (con := fun k => qm_lk k pcRX0) (call := fun k => qm_lk k [(108, 2, 1, wJ13_bitCount_95d88)]) (tab := qm_tab aX0_openIn) (plainFor_of_name (by decide)) (qm_fld_ok pfRX0_ok) (qm_con_ok pcRX0_ok) (fun idx kd n f hc => cX0_openIn_ok (idx, kd, n, f) (qm_lk_mem hc)) (qm_tab_ok aX0_openIn_ok) (fun vs h o hw => by
  unfold wX0_openIn at hw
  split at hw
  · obtain ⟨r, hr, rfl⟩ := Option.map_eq_some_iff.mp hw
    exact ⟨Nat.le_of_ble_eq_true rfl, rX0_openIn_0 (hr)⟩
  · cases hw)
theorem recvX0_openIn : ∀ vs h o, wX0_openIn vs h = some o → ∃ ci a rest, vs = qm_r 0 ci a :: rest ∧ qm_R ci = yX0_openIn.cls := by
  intro vs h o hw
  unfold wX0_openIn at hw
  split at hw
  · exact ⟨_, _, _, rfl, rfl⟩
  · cases hw
-- RX0 crowdedRow()I
theorem jX0_crowdedRow : Jvm.Cond.code yX0_crowdedRow cX0_crowdedRow 3 (some .int) ∈ qm_all := List.mem_filter.mpr ⟨by decide +kernel, rfl⟩
theorem iX0_crowdedRow : Jvm.Cond.instanceMethod yX0_crowdedRow ∈ qm_all ∧ Jvm.Cond.selects yX0_crowdedRow.cls yX0_crowdedRow yX0_crowdedRow ∈ qm_all := ⟨List.mem_filter.mpr ⟨by decide +kernel, rfl⟩, List.mem_filter.mpr ⟨by decide +kernel, rfl⟩⟩
def wX0_crowdedRow : qm_C := fun vs h => match vs with
  | [.inr (.inr (some (0, 0, p0)))] => (qX0_crowdedRow p0 h).map qm_Gi
  | _ => none
def aX0_crowdedRow : List (Option (Instr × Nat)) := [some (.iconst 0, 1), some (.istore_n 1, 1), some (.iconst 1, 1), some (.istore_n 2, 1), some (.iload_n 2, 1), some (.aload_n 0, 1), some (.getfield 25, 3), none, none, some (.if_icmp .ge 42, 3), none, none, some (.aload_n 0, 1), some (.iload_n 2, 1), some (.iconst 0, 1), some (.aload_n 0, 1), some (.getfield 21, 3), none, none, some (.iconst 1, 1), some (.invokestatic 84, 3), none, none, some (.invokevirtual 124, 3), none, none, some (.aload_n 0, 1), some (.iload_n 1, 1), some (.iconst 0, 1), some (.aload_n 0, 1), some (.getfield 21, 3), none, none, some (.iconst 1, 1), some (.invokestatic 84, 3), none, none, some (.invokevirtual 124, 3), none, none, some (.if_icmp .le 5, 3), none, none, some (.iload_n 2, 1), some (.istore_n 1, 1), some (.iinc 2 1, 3), none, none, some (.goto (-44), 3), none, none, some (.iload_n 1, 1), some (.ireturn, 1)]
theorem aX0_crowdedRow_ok : qm_tabok cX0_crowdedRow aX0_crowdedRow = true := by decide +kernel
def mX0_crowdedRow : qm_M := ((some .int), (fun k => qm_lk k pfRX0), (fun k => qm_lk k pcRX0), (fun k => qm_lk k [(84, 2, 4, wX0_block), (124, 0, 2, wX0_openIn)]), qm_tab aX0_crowdedRow)
set_option maxRecDepth 20000 in
set_option maxHeartbeats 2000000 in
theorem rX0_crowdedRow_4   : ∀ {fuel : Nat} {a0 : Nat} {x1 : Int32} {x2 : Int32} {h : qm_H} {r : Int32 × qm_H}, qX0_crowdedRow_4  fuel a0 x1 x2 h = some r → qm_Ret mX0_crowdedRow (4, [some (qm_r 0 0 a0), some (qm_i x1), some (qm_i x2)], [], h) (qm_Gi r) := by
  intro fuel
  induction fuel with
  | zero => intros; rename_i ho; cases ho
  | succ n ih =>
    intro a0 x1 x2 h r ho
    unfold qX0_crowdedRow_4 at ho
    refine qm_Ret.sts 3 (f' := (9, [some (qm_r 0 0 a0), some (qm_i x1), some (qm_i x2)], [qm_i (h.1 a0 4), qm_i x2], h)) rfl ?_
    refine qm_Ret.ge (t := 51) (e := 12) rfl (fun hc => ?_) (fun hc => ?_)
    · rw [if_pos hc] at ho
      refine qm_Ret.sts 6 (f' := (20, [some (qm_r 0 0 a0), some (qm_i x1), some (qm_i x2)], [qm_i (1 : Int32), qm_i (h.1 a0 3), qm_i (0 : Int32), qm_i x2, qm_r 0 0 a0], h)) rfl ?_
      obtain ⟨r2, h1, hr, ho⟩ := qm_b2e ho
      refine qm_Ret.call (X := wX0_block [qm_i x2, qm_i (0 : Int32), qm_i (h.1 a0 3), qm_i (1 : Int32)] h) (o1 := (some (qm_l r2), h1)) (qm_mp (G := qm_Gl) hr) rfl ?_
      show qm_Ret _ (23, [some (qm_r 0 0 a0), some (qm_i x1), some (qm_i x2)], [qm_l r2, qm_r 0 0 a0], h1) _
      obtain ⟨r4, h3, hr, ho⟩ := qm_b2e ho
      refine qm_Ret.call (X := wX0_openIn [qm_r 0 0 a0, qm_l r2] h1) (o1 := (some (qm_i r4), h3)) (qm_mp (G := qm_Gi) hr) rfl ?_
      show qm_Ret _ (26, [some (qm_r 0 0 a0), some (qm_i x1), some (qm_i x2)], [qm_i r4], h3) _
      refine qm_Ret.sts 6 (f' := (34, [some (qm_r 0 0 a0), some (qm_i x1), some (qm_i x2)], [qm_i (1 : Int32), qm_i (h3.1 a0 3), qm_i (0 : Int32), qm_i x1, qm_r 0 0 a0, qm_i r4], h3)) rfl ?_
      obtain ⟨r6, h5, hr, ho⟩ := qm_b2e ho
      refine qm_Ret.call (X := wX0_block [qm_i x1, qm_i (0 : Int32), qm_i (h3.1 a0 3), qm_i (1 : Int32)] h3) (o1 := (some (qm_l r6), h5)) (qm_mp (G := qm_Gl) hr) rfl ?_
      show qm_Ret _ (37, [some (qm_r 0 0 a0), some (qm_i x1), some (qm_i x2)], [qm_l r6, qm_r 0 0 a0, qm_i r4], h5) _
      obtain ⟨r8, h7, hr, ho⟩ := qm_b2e ho
      refine qm_Ret.call (X := wX0_openIn [qm_r 0 0 a0, qm_l r6] h5) (o1 := (some (qm_i r8), h7)) (qm_mp (G := qm_Gi) hr) rfl ?_
      show qm_Ret _ (40, [some (qm_r 0 0 a0), some (qm_i x1), some (qm_i x2)], [qm_i r8, qm_i r4], h7) _
      refine qm_Ret.le (t := 45) (e := 43) rfl (fun hc => ?_) (fun hc => ?_)
      · rw [if_pos hc] at ho
        refine qm_Ret.sts 4 (f' := (4, [some (qm_r 0 0 a0), some (qm_i x2), some (qm_i (x2 + (1 : Int32)))], [], h7)) rfl ?_
        exact ih ho
      · rw [if_neg hc] at ho
        refine qm_Ret.sts 2 (f' := (4, [some (qm_r 0 0 a0), some (qm_i x1), some (qm_i (x2 + (1 : Int32)))], [], h7)) rfl ?_
        exact ih ho
    · rw [if_neg hc] at ho
      cases ho
      exact qm_Ret.ret 2 rfl
set_option maxRecDepth 20000 in
set_option maxHeartbeats 2000000 in
theorem rX0_crowdedRow_0   {a0 : Nat} {h : qm_H} {r : Int32 × qm_H} (ho : qX0_crowdedRow  a0 h = some r) : qm_Ret mX0_crowdedRow (0, [some (qm_r 0 0 a0), none, none], [], h) (qm_Gi r) := by
  unfold qX0_crowdedRow at ho
  refine qm_Ret.sts 4 (f' := (4, [some (qm_r 0 0 a0), some (qm_i (0 : Int32)), some (qm_i (1 : Int32))], [], h)) rfl ?_
  exact rX0_crowdedRow_4 ho
theorem cX0_crowdedRow_ok : ∀ q ∈ ([(84, 2, 4, wX0_block), (124, 0, 2, wX0_openIn)] : List (Nat × Nat × Nat × qm_C)), qm_CallOK RX0 2 43 q.2.1 q.1 q.2.2.1 q.2.2.2 := List.forall_mem_cons.mpr ⟨Or.inl ⟨yX0_block, cX0_block, 9, (some .long), 0, 0, _, sX0_block, ⟨by decide, by decide⟩, ⟨jX0_block, kRX0_84, uRX0⟩, ⟨by decide, by decide, rfl⟩, Or.inr (Or.inl ⟨rfl, rfl, iX0_block⟩)⟩, List.forall_mem_cons.mpr ⟨Or.inl ⟨yX0_openIn, cX0_openIn, 3, (some .int), 1, 21, _, sX0_openIn, ⟨by decide, by decide⟩, ⟨jX0_openIn, kRX0_124, uRX0⟩, ⟨by decide, by decide, rfl⟩, Or.inl ⟨rfl, rfl, iX0_openIn, recvX0_openIn⟩⟩, fun _ h => absurd h List.not_mem_nil⟩⟩
theorem sX0_crowdedRow : qm_Snd yX0_crowdedRow cX0_crowdedRow 3 (some .int) 2 43 wX0_crowdedRow := qm_met (fld := fun k => qm_lk k pfRX0) (con := fun k => qm_lk k pcRX0) (call := fun k => qm_lk k [(84, 2, 4, wX0_block), (124, 0, 2, wX0_openIn)]) (tab := qm_tab aX0_crowdedRow) (plainFor_of_name (by decide)) (qm_fld_ok pfRX0_ok) (qm_con_ok pcRX0_ok) (fun idx kd n f hc => cX0_crowdedRow_ok (idx, kd, n, f) (qm_lk_mem hc)) (qm_tab_ok aX0_crowdedRow_ok) (fun vs h o hw => by
  unfold wX0_crowdedRow at hw
  split at hw
  · obtain ⟨r, hr, rfl⟩ := Option.map_eq_some_iff.mp hw
    exact ⟨Nat.le_of_ble_eq_true rfl, rX0_crowdedRow_0 (hr)⟩
  · cases hw)
theorem recvX0_crowdedRow : ∀ vs h o, wX0_crowdedRow vs h = some o → ∃ ci a rest, vs = qm_r 0 ci a :: rest ∧ qm_R ci = yX0_crowdedRow.cls := by
  intro vs h o hw
  unfold wX0_crowdedRow at hw
  split at hw
  · exact ⟨_, _, _, rfl, rfl⟩
  · cases hw
