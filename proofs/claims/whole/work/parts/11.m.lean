abbrev qm_Gi (r : Int32 × qm_H) : qm_O := (some (qm_i r.1), r.2)
abbrev qm_Gl (r : Int64 × qm_H) : qm_O := (some (qm_l r.1), r.2)
abbrev qm_Gv (r : qm_H) : qm_O := (none, r)
abbrev qm_Go (c : Nat) (r : Option Nat × qm_H) : qm_O := (some (qm_oo c r.1), r.2)
-- RX0 begin()V
theorem jX0_begin : Jvm.Cond.code yX0_begin cX0_begin 2 none ∈ qm_all := List.mem_filter.mpr ⟨by decide +kernel, rfl⟩
theorem iX0_begin : Jvm.Cond.instanceMethod yX0_begin ∈ qm_all ∧ Jvm.Cond.selects yX0_begin.cls yX0_begin yX0_begin ∈ qm_all := ⟨List.mem_filter.mpr ⟨by decide +kernel, rfl⟩, List.mem_filter.mpr ⟨by decide +kernel, rfl⟩⟩
def wX0_begin : qm_C := fun vs h => match vs with
  | [.inr (.inr (some (0, 0, p0)))] => (qX0_begin p0 h).map qm_Gv
  | _ => none
def aX0_begin : List (Option (Instr × Nat)) := [some (.aload_n 0, 1), some (.bipush 6, 2), none, some (.putfield 21, 3), none, none, some (.aload_n 0, 1), some (.bipush 6, 2), none, some (.putfield 25, 3), none, none, some (.aload_n 0, 1), some (.iconst 0, 1), some (.putfield 28, 3), none, none, some (.aload_n 0, 1), some (.lconst 0, 1), some (.putfield 32, 3), none, none, some (.iconst 0, 1), some (.istore_n 1, 1), some (.iload_n 1, 1), some (.bipush 16, 2), none, some (.if_icmp .ge 23, 3), none, none, some (.aload_n 0, 1), some (.getfield 9, 3), none, none, some (.iload_n 1, 1), some (.iconst 2, 1), some (.iastore, 1), some (.aload_n 0, 1), some (.getfield 15, 3), none, none, some (.iload_n 1, 1), some (.iconst 0, 1), some (.iastore, 1), some (.iinc 1 1, 3), none, none, some (.goto (-23), 3), none, none, some (.return_, 1)]
theorem aX0_begin_ok : qm_tabok cX0_begin aX0_begin = true := by decide +kernel
def mX0_begin : qm_M := (none, (fun k => qm_lk k pfRX0), (fun k => qm_lk k pcRX0), (fun k => qm_lk k []), qm_tab aX0_begin)
set_option maxRecDepth 20000 in
set_option maxHeartbeats 2000000 in
theorem rX0_begin_24   : ∀ {fuel : Nat} {a0 : Nat} {x1 : Int32} {h : qm_H} {r : qm_H}, qX0_begin_24  fuel a0 x1 h = some r → qm_Ret mX0_begin (24, [some (qm_r 0 0 a0), some (qm_i x1)], [], h) (qm_Gv r) := by
  intro fuel
  induction fuel with
  | zero => intros; rename_i ho; cases ho
  | succ n ih =>
    intro a0 x1 h r ho
    unfold qX0_begin_24 at ho
    refine qm_Ret.sts 2 (f' := (27, [some (qm_r 0 0 a0), some (qm_i x1)], [qm_i (16 : Int32), qm_i x1], h)) rfl ?_
    refine qm_Ret.ge (t := 50) (e := 30) rfl (fun hc => ?_) (fun hc => ?_)
    · rw [if_pos hc] at ho
      refine qm_Ret.sts 4 (f' := (36, [some (qm_r 0 0 a0), some (qm_i x1)], [qm_i (2 : Int32), qm_i x1, qm_r 1 16 (a0 + 1)], h)) rfl ?_
      obtain ⟨hg, ho⟩ := qm_ifn ho
      refine qm_Ret.gn (f1 := (37, [some (qm_r 0 0 a0), some (qm_i x1)], [], (qm_seti h (a0 + 1) (x1).toNatClampNeg (2 : Int32)))) hg rfl ?_
      refine qm_Ret.lets (F := fun h1 => (37, [some (qm_r 0 0 a0), some (qm_i x1)], [], h1)) (G := qm_Gv) ho (fun h1 ho => ?_)
      refine qm_Ret.sts 4 (f' := (43, [some (qm_r 0 0 a0), some (qm_i x1)], [qm_i (0 : Int32), qm_i x1, qm_r 1 16 (a0 + 2)], h1)) rfl ?_
      obtain ⟨hg, ho⟩ := qm_ifn ho
      refine qm_Ret.gn (f1 := (44, [some (qm_r 0 0 a0), some (qm_i x1)], [], (qm_seti h1 (a0 + 2) (x1).toNatClampNeg (0 : Int32)))) hg rfl ?_
      refine qm_Ret.lets (F := fun h2 => (44, [some (qm_r 0 0 a0), some (qm_i x1)], [], h2)) (G := qm_Gv) ho (fun h2 ho => ?_)
      refine qm_Ret.sts 2 (f' := (24, [some (qm_r 0 0 a0), some (qm_i (x1 + (1 : Int32)))], [], h2)) rfl ?_
      exact ih ho
    · rw [if_neg hc] at ho
      cases ho
      exact qm_Ret.ret 1 rfl
set_option maxRecDepth 20000 in
set_option maxHeartbeats 2000000 in
theorem rX0_begin_0   {a0 : Nat} {h : qm_H} {r : qm_H} (ho : qX0_begin  a0 h = some r) : qm_Ret mX0_begin (0, [some (qm_r 0 0 a0), none], [], h) (qm_Gv r) := by
  unfold qX0_begin at ho
  refine qm_Ret.sts 3 (f' := (6, [some (qm_r 0 0 a0), none], [], (qm_seti h a0 3 (6 : Int32)))) rfl ?_
  refine qm_Ret.lets (F := fun h1 => (6, [some (qm_r 0 0 a0), none], [], h1)) (G := qm_Gv) ho (fun h1 ho => ?_)
  refine qm_Ret.sts 3 (f' := (12, [some (qm_r 0 0 a0), none], [], (qm_seti h1 a0 4 (6 : Int32)))) rfl ?_
  refine qm_Ret.lets (F := fun h2 => (12, [some (qm_r 0 0 a0), none], [], h2)) (G := qm_Gv) ho (fun h2 ho => ?_)
  refine qm_Ret.sts 3 (f' := (17, [some (qm_r 0 0 a0), none], [], (qm_seti h2 a0 5 (0 : Int32)))) rfl ?_
  refine qm_Ret.lets (F := fun h3 => (17, [some (qm_r 0 0 a0), none], [], h3)) (G := qm_Gv) ho (fun h3 ho => ?_)
  refine qm_Ret.sts 3 (f' := (22, [some (qm_r 0 0 a0), none], [], (qm_setl h3 a0 6 (0 : Int64)))) rfl ?_
  refine qm_Ret.lets (F := fun h4 => (22, [some (qm_r 0 0 a0), none], [], h4)) (G := qm_Gv) ho (fun h4 ho => ?_)
  refine qm_Ret.sts 2 (f' := (24, [some (qm_r 0 0 a0), some (qm_i (0 : Int32))], [], h4)) rfl ?_
  exact rX0_begin_24 ho
theorem cX0_begin_ok : ∀ q ∈ ([] : List (Nat × Nat × Nat × qm_C)), qm_CallOK RX0 0 0 q.2.1 q.1 q.2.2.1 q.2.2.2 := fun _ h => absurd h List.not_mem_nil
theorem sX0_begin : qm_Snd yX0_begin cX0_begin 2 none 0 0 wX0_begin := qm_met (fld := fun k => qm_lk k pfRX0) (con := fun k => qm_lk k pcRX0) (call := fun k => qm_lk k []) (tab := qm_tab aX0_begin) (plainFor_of_name (by decide)) (qm_fld_ok pfRX0_ok) (qm_con_ok pcRX0_ok) (fun idx kd n f hc => cX0_begin_ok (idx, kd, n, f) (qm_lk_mem hc)) (qm_tab_ok aX0_begin_ok) (fun vs h o hw => by
  unfold wX0_begin at hw
  split at hw
  · obtain ⟨r, hr, rfl⟩ := Option.map_eq_some_iff.mp hw
    exact ⟨Nat.le_of_ble_eq_true rfl, rX0_begin_0 (hr)⟩
  · cases hw)
theorem recvX0_begin : ∀ vs h o, wX0_begin vs h = some o → ∃ ci a rest, vs = qm_r 0 ci a :: rest ∧ qm_R ci = yX0_begin.cls := by
  intro vs h o hw
  unfold wX0_begin at hw
  split at hw
  · exact ⟨_, _, _, rfl, rfl⟩
  · cases hw
-- RX0 take(LWillowLaw$Basket;)V
theorem jX0_take : Jvm.Cond.code yX0_take cX0_take 2 none ∈ qm_all := List.mem_filter.mpr ⟨by decide +kernel, rfl⟩
theorem iX0_take : Jvm.Cond.instanceMethod yX0_take ∈ qm_all ∧ Jvm.Cond.selects yX0_take.cls yX0_take yX0_take ∈ qm_all := ⟨List.mem_filter.mpr ⟨by decide +kernel, rfl⟩, List.mem_filter.mpr ⟨by decide +kernel, rfl⟩⟩
def wX0_take : qm_C := fun vs h => match vs with
  | [.inr (.inr (some (0, 0, p0))), .inr (.inr (some (0, 0, p1)))] => (qX0_take p0 p1 h).map qm_Gv
  | _ => none
def aX0_take : List (Option (Instr × Nat)) := [some (.aload_n 0, 1), some (.aload_n 1, 1), some (.getfield 21, 3), none, none, some (.putfield 21, 3), none, none, some (.aload_n 0, 1), some (.aload_n 1, 1), some (.getfield 25, 3), none, none, some (.putfield 25, 3), none, none, some (.aload_n 0, 1), some (.aload_n 1, 1), some (.getfield 28, 3), none, none, some (.putfield 28, 3), none, none, some (.aload_n 0, 1), some (.aload_n 1, 1), some (.getfield 32, 3), none, none, some (.putfield 32, 3), none, none, some (.aload_n 1, 1), some (.getfield 9, 3), none, none, some (.iconst 0, 1), some (.aload_n 0, 1), some (.getfield 9, 3), none, none, some (.iconst 0, 1), some (.bipush 16, 2), none, some (.invokestatic 36, 3), none, none, some (.aload_n 1, 1), some (.getfield 15, 3), none, none, some (.iconst 0, 1), some (.aload_n 0, 1), some (.getfield 15, 3), none, none, some (.iconst 0, 1), some (.bipush 16, 2), none, some (.invokestatic 36, 3), none, none, some (.return_, 1)]
theorem aX0_take_ok : qm_tabok cX0_take aX0_take = true := by decide +kernel
def mX0_take : qm_M := (none, (fun k => qm_lk k pfRX0), (fun k => qm_lk k pcRX0), (fun k => qm_lk k [(36, 2, 5, qm_cpy)]), qm_tab aX0_take)
set_option maxRecDepth 20000 in
set_option maxHeartbeats 2000000 in
theorem rX0_take_0   {a0 : Nat} {a1 : Nat} {h : qm_H} {r : qm_H} (ho : qX0_take  a0 a1 h = some r) : qm_Ret mX0_take (0, [some (qm_r 0 0 a0), some (qm_r 0 0 a1)], [], h) (qm_Gv r) := by
  unfold qX0_take at ho
  refine qm_Ret.sts 4 (f' := (8, [some (qm_r 0 0 a0), some (qm_r 0 0 a1)], [], (qm_seti h a0 3 (h.1 a1 3)))) rfl ?_
  refine qm_Ret.lets (F := fun h1 => (8, [some (qm_r 0 0 a0), some (qm_r 0 0 a1)], [], h1)) (G := qm_Gv) ho (fun h1 ho => ?_)
  refine qm_Ret.sts 4 (f' := (16, [some (qm_r 0 0 a0), some (qm_r 0 0 a1)], [], (qm_seti h1 a0 4 (h1.1 a1 4)))) rfl ?_
  refine qm_Ret.lets (F := fun h2 => (16, [some (qm_r 0 0 a0), some (qm_r 0 0 a1)], [], h2)) (G := qm_Gv) ho (fun h2 ho => ?_)
  refine qm_Ret.sts 3 (f' := (21, [some (qm_r 0 0 a0), some (qm_r 0 0 a1)], [qm_i (h2.1 a1 5), qm_r 0 0 a0], h2)) rfl ?_
  obtain ⟨hg, ho⟩ := qm_if ho
  refine qm_Ret.gd (f1 := (24, [some (qm_r 0 0 a0), some (qm_r 0 0 a1)], [], (qm_seti h2 a0 5 (h2.1 a1 5)))) ⟨rfl, Or.inr ⟨rfl, hg⟩⟩ rfl ?_
  refine qm_Ret.lets (F := fun h3 => (24, [some (qm_r 0 0 a0), some (qm_r 0 0 a1)], [], h3)) (G := qm_Gv) ho (fun h3 ho => ?_)
  refine qm_Ret.sts 4 (f' := (32, [some (qm_r 0 0 a0), some (qm_r 0 0 a1)], [], (qm_setl h3 a0 6 (h3.2 a1 6)))) rfl ?_
  refine qm_Ret.lets (F := fun h4 => (32, [some (qm_r 0 0 a0), some (qm_r 0 0 a1)], [], h4)) (G := qm_Gv) ho (fun h4 ho => ?_)
  refine qm_Ret.sts 7 (f' := (44, [some (qm_r 0 0 a0), some (qm_r 0 0 a1)], [qm_i (16 : Int32), qm_i (0 : Int32), qm_r 1 16 (a0 + 1), qm_i (0 : Int32), qm_r 1 16 (a1 + 1)], h4)) rfl ?_
  obtain ⟨h5, hr, ho⟩ := qm_bd ho
  refine qm_Ret.call (X := qm_cpy [qm_r 1 16 (a1 + 1), qm_i (0 : Int32), qm_r 1 16 (a0 + 1), qm_i (0 : Int32), qm_i (16 : Int32)] h4) (o1 := (none, h5)) (qm_cpy_ok hr) rfl ?_
  show qm_Ret _ (47, [some (qm_r 0 0 a0), some (qm_r 0 0 a1)], [], h5) _
  refine qm_Ret.sts 7 (f' := (59, [some (qm_r 0 0 a0), some (qm_r 0 0 a1)], [qm_i (16 : Int32), qm_i (0 : Int32), qm_r 1 16 (a0 + 2), qm_i (0 : Int32), qm_r 1 16 (a1 + 2)], h5)) rfl ?_
  obtain ⟨h6, hr, ho⟩ := qm_bd ho
  refine qm_Ret.call (X := qm_cpy [qm_r 1 16 (a1 + 2), qm_i (0 : Int32), qm_r 1 16 (a0 + 2), qm_i (0 : Int32), qm_i (16 : Int32)] h5) (o1 := (none, h6)) (qm_cpy_ok hr) rfl ?_
  show qm_Ret _ (62, [some (qm_r 0 0 a0), some (qm_r 0 0 a1)], [], h6) _
  cases ho
  exact qm_Ret.ret 1 rfl
theorem cX0_take_ok : ∀ q ∈ ([(36, 2, 5, qm_cpy)] : List (Nat × Nat × Nat × qm_C)), qm_CallOK RX0 1 60 q.2.1 q.1 q.2.2.1 q.2.2.2 := List.forall_mem_cons.mpr ⟨Or.inr ⟨rfl, rfl, rfl, by decide, by decide, kRX0_36⟩, fun _ h => absurd h List.not_mem_nil⟩
theorem sX0_take : qm_Snd yX0_take cX0_take 2 none 1 60 wX0_take := qm_met (fld := fun k => qm_lk k pfRX0) (con := fun k => qm_lk k pcRX0) (call := fun k => qm_lk k [(36, 2, 5, qm_cpy)]) (tab := qm_tab aX0_take) (plainFor_of_name (by decide)) (qm_fld_ok pfRX0_ok) (qm_con_ok pcRX0_ok) (fun idx kd n f hc => cX0_take_ok (idx, kd, n, f) (qm_lk_mem hc)) (qm_tab_ok aX0_take_ok) (fun vs h o hw => by
  unfold wX0_take at hw
  split at hw
  · obtain ⟨r, hr, rfl⟩ := Option.map_eq_some_iff.mp hw
    exact ⟨Nat.le_of_ble_eq_true rfl, rX0_take_0 (hr)⟩
  · cases hw)
theorem recvX0_take : ∀ vs h o, wX0_take vs h = some o → ∃ ci a rest, vs = qm_r 0 ci a :: rest ∧ qm_R ci = yX0_take.cls := by
  intro vs h o hw
  unfold wX0_take at hw
  split at hw
  · exact ⟨_, _, _, rfl, rfl⟩
  · cases hw
-- RX0 bit(II)J
theorem jX0_bit : Jvm.Cond.code yX0_bit cX0_bit 2 (some .long) ∈ qm_all := List.mem_filter.mpr ⟨by decide +kernel, rfl⟩
theorem iX0_bit : Jvm.Cond.static yX0_bit ∈ qm_all := List.mem_filter.mpr ⟨by decide +kernel, rfl⟩
def wX0_bit : qm_C := fun vs h => match vs with
  | [.inl p0, .inl p1] => (qX0_bit p0 p1 h).map qm_Gl
  | _ => none
def aX0_bit : List (Option (Instr × Nat)) := [some (.lconst 1, 1), some (.bipush 8, 2), none, some (.iload_n 0, 1), some (.imul, 1), some (.iload_n 1, 1), some (.iadd, 1), some (.lshl, 1), some (.lreturn, 1)]
theorem aX0_bit_ok : qm_tabok cX0_bit aX0_bit = true := by decide +kernel
def mX0_bit : qm_M := ((some .long), (fun k => qm_lk k pfRX0), (fun k => qm_lk k pcRX0), (fun k => qm_lk k []), qm_tab aX0_bit)
set_option maxRecDepth 20000 in
set_option maxHeartbeats 2000000 in
theorem rX0_bit_0   {x0 : Int32} {x1 : Int32} {h : qm_H} {r : Int64 × qm_H} (ho : qX0_bit  x0 x1 h = some r) : qm_Ret mX0_bit (0, [some (qm_i x0), some (qm_i x1)], [], h) (qm_Gl r) := by
  unfold qX0_bit at ho
  cases ho
  exact qm_Ret.ret 8 rfl
theorem cX0_bit_ok : ∀ q ∈ ([] : List (Nat × Nat × Nat × qm_C)), qm_CallOK RX0 0 0 q.2.1 q.1 q.2.2.1 q.2.2.2 := fun _ h => absurd h List.not_mem_nil
theorem sX0_bit : qm_Snd yX0_bit cX0_bit 2 (some .long) 0 0 wX0_bit := qm_met (fld := fun k => qm_lk k pfRX0) (con := fun k => qm_lk k pcRX0) (call := fun k => qm_lk k []) (tab := qm_tab aX0_bit) (plainFor_of_name (by decide)) (qm_fld_ok pfRX0_ok) (qm_con_ok pcRX0_ok) (fun idx kd n f hc => cX0_bit_ok (idx, kd, n, f) (qm_lk_mem hc)) (qm_tab_ok aX0_bit_ok) (fun vs h o hw => by
  unfold wX0_bit at hw
  split at hw
  · obtain ⟨r, hr, rfl⟩ := Option.map_eq_some_iff.mp hw
    exact ⟨Nat.le_of_ble_eq_true rfl, rX0_bit_0 (hr)⟩
  · cases hw)
-- RX0 block(IIII)J
theorem jX0_block : Jvm.Cond.code yX0_block cX0_block 9 (some .long) ∈ qm_all := List.mem_filter.mpr ⟨by decide +kernel, rfl⟩
theorem iX0_block : Jvm.Cond.static yX0_block ∈ qm_all := List.mem_filter.mpr ⟨by decide +kernel, rfl⟩
def wX0_block : qm_C := fun vs h => match vs with
  | [.inl p0, .inl p1, .inl p2, .inl p3] => (qX0_block p0 p1 p2 p3 h).map qm_Gl
  | _ => none
def aX0_block : List (Option (Instr × Nat)) := [some (.lconst 1, 1), some (.iload_n 2, 1), some (.lshl, 1), some (.lconst 1, 1), some (.lsub, 1), some (.lstore 4, 2), none, some (.lconst 0, 1), some (.lstore 6, 2), none, some (.iconst 0, 1), some (.istore 8, 2), none, some (.iload 8, 2), none, some (.iload_n 3, 1), some (.if_icmp .ge 22, 3), none, none, some (.lload 6, 2), none, some (.lload 4, 2), none, some (.bipush 8, 2), none, some (.iload 8, 2), none, some (.imul, 1), some (.lshl, 1), some (.lor, 1), some (.lstore 6, 2), none, some (.iinc 8 1, 3), none, none, some (.goto (-22), 3), none, none, some (.lload 6, 2), none, some (.bipush 8, 2), none, some (.iload_n 0, 1), some (.imul, 1), some (.iload_n 1, 1), some (.iadd, 1), some (.lshl, 1), some (.lreturn, 1)]
theorem aX0_block_ok : qm_tabok cX0_block aX0_block = true := by decide +kernel
def mX0_block : qm_M := ((some .long), (fun k => qm_lk k pfRX0), (fun k => qm_lk k pcRX0), (fun k => qm_lk k []), qm_tab aX0_block)
set_option maxRecDepth 20000 in
set_option maxHeartbeats 2000000 in
theorem rX0_block_13   : ∀ {fuel : Nat} {x0 : Int32} {x1 : Int32} {x3 : Int32} {l4 : Int64} {l6 : Int64} {x8 : Int32} {xd2 : Int32} {h : qm_H} {r : Int64 × qm_H}, qX0_block_13  fuel x0 x1 x3 l4 l6 x8 h = some r → qm_Ret mX0_block (13, [some (qm_i x0), some (qm_i x1), some (qm_i xd2), some (qm_i x3), some (qm_l l4), none, some (qm_l l6), none, some (qm_i x8)], [], h) (qm_Gl r) := by
  intro fuel
  induction fuel with
  | zero => intros; rename_i ho; cases ho
  | succ n ih =>
    intro x0 x1 x3 l4 l6 x8 xd2 h r ho
    unfold qX0_block_13 at ho
    refine qm_Ret.sts 2 (f' := (16, [some (qm_i x0), some (qm_i x1), some (qm_i xd2), some (qm_i x3), some (qm_l l4), none, some (qm_l l6), none, some (qm_i x8)], [qm_i x3, qm_i x8], h)) rfl ?_
    refine qm_Ret.ge (t := 38) (e := 19) rfl (fun hc => ?_) (fun hc => ?_)
    · rw [if_pos hc] at ho
      refine qm_Ret.sts 7 (f' := (30, [some (qm_i x0), some (qm_i x1), some (qm_i xd2), some (qm_i x3), some (qm_l l4), none, some (qm_l l6), none, some (qm_i x8)], [qm_l (l6 ||| (qm_lshl l4 ((8 : Int32) * x8)))], h)) rfl ?_
      refine qm_Ret.lets (F := fun v1 => (30, [some (qm_i x0), some (qm_i x1), some (qm_i xd2), some (qm_i x3), some (qm_l l4), none, some (qm_l l6), none, some (qm_i x8)], [qm_l v1], h)) (G := qm_Gl) ho (fun v1 ho => ?_)
      refine qm_Ret.sts 3 (f' := (13, [some (qm_i x0), some (qm_i x1), some (qm_i xd2), some (qm_i x3), some (qm_l l4), none, some (qm_l v1), none, some (qm_i (x8 + (1 : Int32)))], [], h)) rfl ?_
      exact ih ho
    · rw [if_neg hc] at ho
      cases ho
      exact qm_Ret.ret 8 rfl
set_option maxRecDepth 20000 in
set_option maxHeartbeats 2000000 in
theorem rX0_block_0   {x0 : Int32} {x1 : Int32} {x2 : Int32} {x3 : Int32} {h : qm_H} {r : Int64 × qm_H} (ho : qX0_block  x0 x1 x2 x3 h = some r) : qm_Ret mX0_block (0, [some (qm_i x0), some (qm_i x1), some (qm_i x2), some (qm_i x3), none, none, none, none, none], [], h) (qm_Gl r) := by
  unfold qX0_block at ho
  refine qm_Ret.sts 5 (f' := (5, [some (qm_i x0), some (qm_i x1), some (qm_i x2), some (qm_i x3), none, none, none, none, none], [qm_l ((qm_lshl (1 : Int64) x2) - (1 : Int64))], h)) rfl ?_
  refine qm_Ret.lets (F := fun v1 => (5, [some (qm_i x0), some (qm_i x1), some (qm_i x2), some (qm_i x3), none, none, none, none, none], [qm_l v1], h)) (G := qm_Gl) ho (fun v1 ho => ?_)
  refine qm_Ret.sts 5 (f' := (13, [some (qm_i x0), some (qm_i x1), some (qm_i x2), some (qm_i x3), some (qm_l v1), none, some (qm_l (0 : Int64)), none, some (qm_i (0 : Int32))], [], h)) rfl ?_
  exact rX0_block_13 ho
theorem cX0_block_ok : ∀ q ∈ ([] : List (Nat × Nat × Nat × qm_C)), qm_CallOK RX0 0 0 q.2.1 q.1 q.2.2.1 q.2.2.2 := fun _ h => absurd h List.not_mem_nil
theorem sX0_block : qm_Snd yX0_block cX0_block 9 (some .long) 0 0 wX0_block := qm_met (fld := fun k => qm_lk k pfRX0) (con := fun k => qm_lk k pcRX0) (call := fun k => qm_lk k []) (tab := qm_tab aX0_block) (plainFor_of_name (by decide)) (qm_fld_ok pfRX0_ok) (qm_con_ok pcRX0_ok) (fun idx kd n f hc => cX0_block_ok (idx, kd, n, f) (qm_lk_mem hc)) (qm_tab_ok aX0_block_ok) (fun vs h o hw => by
  unfold wX0_block at hw
  split at hw
  · obtain ⟨r, hr, rfl⟩ := Option.map_eq_some_iff.mp hw
    exact ⟨Nat.le_of_ble_eq_true rfl, rX0_block_0 (hr)⟩
  · cases hw)
-- RX0 rowOf(I)I
theorem jX0_rowOf : Jvm.Cond.code yX0_rowOf cX0_rowOf 2 (some .int) ∈ qm_all := List.mem_filter.mpr ⟨by decide +kernel, rfl⟩
theorem iX0_rowOf : Jvm.Cond.instanceMethod yX0_rowOf ∈ qm_all ∧ Jvm.Cond.selects yX0_rowOf.cls yX0_rowOf yX0_rowOf ∈ qm_all := ⟨List.mem_filter.mpr ⟨by decide +kernel, rfl⟩, List.mem_filter.mpr ⟨by decide +kernel, rfl⟩⟩
def wX0_rowOf : qm_C := fun vs h => match vs with
  | [.inr (.inr (some (0, 0, p0))), .inl p1] => (qX0_rowOf p0 p1 h).map qm_Gi
  | _ => none
def aX0_rowOf : List (Option (Instr × Nat)) := [some (.aload_n 0, 1), some (.getfield 21, 3), none, none, some (.ifCond .le 12, 3), none, none, some (.iload_n 1, 1), some (.aload_n 0, 1), some (.getfield 21, 3), none, none, some (.idiv, 1), some (.goto 4, 3), none, none, some (.iconst 0, 1), some (.ireturn, 1)]
theorem aX0_rowOf_ok : qm_tabok cX0_rowOf aX0_rowOf = true := by decide +kernel
def mX0_rowOf : qm_M := ((some .int), (fun k => qm_lk k pfRX0), (fun k => qm_lk k pcRX0), (fun k => qm_lk k []), qm_tab aX0_rowOf)
set_option maxRecDepth 20000 in
set_option maxHeartbeats 2000000 in
theorem rX0_rowOf_0   {a0 : Nat} {x1 : Int32} {h : qm_H} {r : Int32 × qm_H} (ho : qX0_rowOf  a0 x1 h = some r) : qm_Ret mX0_rowOf (0, [some (qm_r 0 0 a0), some (qm_i x1)], [], h) (qm_Gi r) := by
  unfold qX0_rowOf at ho
  refine qm_Ret.sts 2 (f' := (4, [some (qm_r 0 0 a0), some (qm_i x1)], [qm_i (h.1 a0 3)], h)) rfl ?_
  refine qm_Ret.le (t := 16) (e := 7) rfl (fun hc => ?_) (fun hc => ?_)
  · rw [if_pos hc] at ho
    refine qm_Ret.sts 3 (f' := (12, [some (qm_r 0 0 a0), some (qm_i x1)], [qm_i (h.1 a0 3), qm_i x1], h)) rfl ?_
    obtain ⟨hg, ho⟩ := qm_ifn ho
    refine qm_Ret.gn (f1 := (13, [some (qm_r 0 0 a0), some (qm_i x1)], [qm_i (x1 / (h.1 a0 3))], h)) hg rfl ?_
    cases ho
    exact qm_Ret.ret 2 rfl
  · rw [if_neg hc] at ho
    cases ho
    exact qm_Ret.ret 2 rfl
theorem cX0_rowOf_ok : ∀ q ∈ ([] : List (Nat × Nat × Nat × qm_C)), qm_CallOK RX0 0 0 q.2.1 q.1 q.2.2.1 q.2.2.2 := fun _ h => absurd h List.not_mem_nil
theorem sX0_rowOf : qm_Snd yX0_rowOf cX0_rowOf 2 (some .int) 0 0 wX0_rowOf := qm_met (fld := fun k => qm_lk k pfRX0) (con := fun k => qm_lk k pcRX0) (call := fun k => qm_lk k []) (tab := qm_tab aX0_rowOf) (plainFor_of_name (by decide)) (qm_fld_ok pfRX0_ok) (qm_con_ok pcRX0_ok) (fun idx kd n f hc => cX0_rowOf_ok (idx, kd, n, f) (qm_lk_mem hc)) (qm_tab_ok aX0_rowOf_ok) (fun vs h o hw => by
  unfold wX0_rowOf at hw
  split at hw
  · obtain ⟨r, hr, rfl⟩ := Option.map_eq_some_iff.mp hw
    exact ⟨Nat.le_of_ble_eq_true rfl, rX0_rowOf_0 (hr)⟩
  · cases hw)
theorem recvX0_rowOf : ∀ vs h o, wX0_rowOf vs h = some o → ∃ ci a rest, vs = qm_r 0 ci a :: rest ∧ qm_R ci = yX0_rowOf.cls := by
  intro vs h o hw
  unfold wX0_rowOf at hw
  split at hw
  · exact ⟨_, _, _, rfl, rfl⟩
  · cases hw
-- RX0 columnOf(I)I
theorem jX0_columnOf : Jvm.Cond.code yX0_columnOf cX0_columnOf 2 (some .int) ∈ qm_all := List.mem_filter.mpr ⟨by decide +kernel, rfl⟩
theorem iX0_columnOf : Jvm.Cond.instanceMethod yX0_columnOf ∈ qm_all ∧ Jvm.Cond.selects yX0_columnOf.cls yX0_columnOf yX0_columnOf ∈ qm_all := ⟨List.mem_filter.mpr ⟨by decide +kernel, rfl⟩, List.mem_filter.mpr ⟨by decide +kernel, rfl⟩⟩
def wX0_columnOf : qm_C := fun vs h => match vs with
  | [.inr (.inr (some (0, 0, p0))), .inl p1] => (qX0_columnOf p0 p1 h).map qm_Gi
  | _ => none
def aX0_columnOf : List (Option (Instr × Nat)) := [some (.aload_n 0, 1), some (.getfield 21, 3), none, none, some (.ifCond .le 12, 3), none, none, some (.iload_n 1, 1), some (.aload_n 0, 1), some (.getfield 21, 3), none, none, some (.irem, 1), some (.goto 4, 3), none, none, some (.iconst 0, 1), some (.ireturn, 1)]
theorem aX0_columnOf_ok : qm_tabok cX0_columnOf aX0_columnOf = true := by decide +kernel
def mX0_columnOf : qm_M := ((some .int), (fun k => qm_lk k pfRX0), (fun k => qm_lk k pcRX0), (fun k => qm_lk k []), qm_tab aX0_columnOf)
set_option maxRecDepth 20000 in
set_option maxHeartbeats 2000000 in
theorem rX0_columnOf_0   {a0 : Nat} {x1 : Int32} {h : qm_H} {r : Int32 × qm_H} (ho : qX0_columnOf  a0 x1 h = some r) : qm_Ret mX0_columnOf (0, [some (qm_r 0 0 a0), some (qm_i x1)], [], h) (qm_Gi r) := by
  unfold qX0_columnOf at ho
  refine qm_Ret.sts 2 (f' := (4, [some (qm_r 0 0 a0), some (qm_i x1)], [qm_i (h.1 a0 3)], h)) rfl ?_
  refine qm_Ret.le (t := 16) (e := 7) rfl (fun hc => ?_) (fun hc => ?_)
  · rw [if_pos hc] at ho
    refine qm_Ret.sts 3 (f' := (12, [some (qm_r 0 0 a0), some (qm_i x1)], [qm_i (h.1 a0 3), qm_i x1], h)) rfl ?_
    obtain ⟨hg, ho⟩ := qm_ifn ho
    refine qm_Ret.gn (f1 := (13, [some (qm_r 0 0 a0), some (qm_i x1)], [qm_i (qm_irem x1 (h.1 a0 3))], h)) hg rfl ?_
    cases ho
    exact qm_Ret.ret 2 rfl
  · rw [if_neg hc] at ho
    cases ho
    exact qm_Ret.ret 2 rfl
theorem cX0_columnOf_ok : ∀ q ∈ ([] : List (Nat × Nat × Nat × qm_C)), qm_CallOK RX0 0 0 q.2.1 q.1 q.2.2.1 q.2.2.2 := fun _ h => absurd h List.not_mem_nil
theorem sX0_columnOf : qm_Snd yX0_columnOf cX0_columnOf 2 (some .int) 0 0 wX0_columnOf := qm_met (fld := fun k => qm_lk k pfRX0) (con := fun k => qm_lk k pcRX0) (call := fun k => qm_lk k []) (tab := qm_tab aX0_columnOf) (plainFor_of_name (by decide)) (qm_fld_ok pfRX0_ok) (qm_con_ok pcRX0_ok) (fun idx kd n f hc => cX0_columnOf_ok (idx, kd, n, f) (qm_lk_mem hc)) (qm_tab_ok aX0_columnOf_ok) (fun vs h o hw => by
  unfold wX0_columnOf at hw
  split at hw
  · obtain ⟨r, hr, rfl⟩ := Option.map_eq_some_iff.mp hw
    exact ⟨Nat.le_of_ble_eq_true rfl, rX0_columnOf_0 (hr)⟩
  · cases hw)
theorem recvX0_columnOf : ∀ vs h o, wX0_columnOf vs h = some o → ∃ ci a rest, vs = qm_r 0 ci a :: rest ∧ qm_R ci = yX0_columnOf.cls := by
  intro vs h o hw
  unfold wX0_columnOf at hw
  split at hw
  · exact ⟨_, _, _, rfl, rfl⟩
  · cases hw
-- RX0 strokeOf(I)I
theorem jX0_strokeOf : Jvm.Cond.code yX0_strokeOf cX0_strokeOf 2 (some .int) ∈ qm_all := List.mem_filter.mpr ⟨by decide +kernel, rfl⟩
theorem iX0_strokeOf : Jvm.Cond.instanceMethod yX0_strokeOf ∈ qm_all ∧ Jvm.Cond.selects yX0_strokeOf.cls yX0_strokeOf yX0_strokeOf ∈ qm_all := ⟨List.mem_filter.mpr ⟨by decide +kernel, rfl⟩, List.mem_filter.mpr ⟨by decide +kernel, rfl⟩⟩
def wX0_strokeOf : qm_C := fun vs h => match vs with
  | [.inr (.inr (some (0, 0, p0))), .inl p1] => (qX0_strokeOf p0 p1 h).map qm_Gi
  | _ => none
def aX0_strokeOf : List (Option (Instr × Nat)) := [some (.iload_n 1, 1), some (.bipush 8, 2), none, some (.idiv, 1), some (.aload_n 0, 1), some (.getfield 21, 3), none, none, some (.imul, 1), some (.iload_n 1, 1), some (.bipush 8, 2), none, some (.irem, 1), some (.iadd, 1), some (.ireturn, 1)]
theorem aX0_strokeOf_ok : qm_tabok cX0_strokeOf aX0_strokeOf = true := by decide +kernel
def mX0_strokeOf : qm_M := ((some .int), (fun k => qm_lk k pfRX0), (fun k => qm_lk k pcRX0), (fun k => qm_lk k []), qm_tab aX0_strokeOf)
set_option maxRecDepth 20000 in
set_option maxHeartbeats 2000000 in
theorem rX0_strokeOf_0   {a0 : Nat} {x1 : Int32} {h : qm_H} {r : Int32 × qm_H} (ho : qX0_strokeOf  a0 x1 h = some r) : qm_Ret mX0_strokeOf (0, [some (qm_r 0 0 a0), some (qm_i x1)], [], h) (qm_Gi r) := by
  unfold qX0_strokeOf at ho
  cases ho
  exact qm_Ret.ret 11 rfl
theorem cX0_strokeOf_ok : ∀ q ∈ ([] : List (Nat × Nat × Nat × qm_C)), qm_CallOK RX0 0 0 q.2.1 q.1 q.2.2.1 q.2.2.2 := fun _ h => absurd h List.not_mem_nil
theorem sX0_strokeOf : qm_Snd yX0_strokeOf cX0_strokeOf 2 (some .int) 0 0 wX0_strokeOf := qm_met (fld := fun k => qm_lk k pfRX0) (con := fun k => qm_lk k pcRX0) (call := fun k => qm_lk k []) (tab := qm_tab aX0_strokeOf) (plainFor_of_name (by decide)) (qm_fld_ok pfRX0_ok) (qm_con_ok pcRX0_ok) (fun idx kd n f hc => cX0_strokeOf_ok (idx, kd, n, f) (qm_lk_mem hc)) (qm_tab_ok aX0_strokeOf_ok) (fun vs h o hw => by
  unfold wX0_strokeOf at hw
  split at hw
  · obtain ⟨r, hr, rfl⟩ := Option.map_eq_some_iff.mp hw
    exact ⟨Nat.le_of_ble_eq_true rfl, rX0_strokeOf_0 (hr)⟩
  · cases hw)
theorem recvX0_strokeOf : ∀ vs h o, wX0_strokeOf vs h = some o → ∃ ci a rest, vs = qm_r 0 ci a :: rest ∧ qm_R ci = yX0_strokeOf.cls := by
  intro vs h o hw
  unfold wX0_strokeOf at hw
  split at hw
  · exact ⟨_, _, _, rfl, rfl⟩
  · cases hw
-- RX0 hasStroke(I)Z
theorem jX0_hasStroke : Jvm.Cond.code yX0_hasStroke cX0_hasStroke 2 (some .boolean) ∈ qm_all := List.mem_filter.mpr ⟨by decide +kernel, rfl⟩
theorem iX0_hasStroke : Jvm.Cond.instanceMethod yX0_hasStroke ∈ qm_all ∧ Jvm.Cond.selects yX0_hasStroke.cls yX0_hasStroke yX0_hasStroke ∈ qm_all := ⟨List.mem_filter.mpr ⟨by decide +kernel, rfl⟩, List.mem_filter.mpr ⟨by decide +kernel, rfl⟩⟩
def wX0_hasStroke : qm_C := fun vs h => match vs with
  | [.inr (.inr (some (0, 0, p0))), .inl p1] => (qX0_hasStroke p0 p1 h).map qm_Gi
  | _ => none
def aX0_hasStroke : List (Option (Instr × Nat)) := [some (.iload_n 1, 1), some (.ifCond .lt 20, 3), none, none, some (.iload_n 1, 1), some (.aload_n 0, 1), some (.getfield 21, 3), none, none, some (.aload_n 0, 1), some (.getfield 25, 3), none, none, some (.imul, 1), some (.if_icmp .ge 7, 3), none, none, some (.iconst 1, 1), some (.goto 4, 3), none, none, some (.iconst 0, 1), some (.ireturn, 1)]
theorem aX0_hasStroke_ok : qm_tabok cX0_hasStroke aX0_hasStroke = true := by decide +kernel
def mX0_hasStroke : qm_M := ((some .boolean), (fun k => qm_lk k pfRX0), (fun k => qm_lk k pcRX0), (fun k => qm_lk k []), qm_tab aX0_hasStroke)
set_option maxRecDepth 20000 in
set_option maxHeartbeats 2000000 in
theorem rX0_hasStroke_0   {a0 : Nat} {x1 : Int32} {h : qm_H} {r : Int32 × qm_H} (ho : qX0_hasStroke  a0 x1 h = some r) : qm_Ret mX0_hasStroke (0, [some (qm_r 0 0 a0), some (qm_i x1)], [], h) (qm_Gi r) := by
  unfold qX0_hasStroke at ho
  refine qm_Ret.sts 1 (f' := (1, [some (qm_r 0 0 a0), some (qm_i x1)], [qm_i x1], h)) rfl ?_
  refine qm_Ret.lt (t := 21) (e := 4) rfl (fun hc => ?_) (fun hc => ?_)
  · rw [if_pos hc] at ho
    cases ho
    exact qm_Ret.ret 2 rfl
  · rw [if_neg hc] at ho
    refine qm_Ret.sts 6 (f' := (14, [some (qm_r 0 0 a0), some (qm_i x1)], [qm_i ((h.1 a0 3) * (h.1 a0 4)), qm_i x1], h)) rfl ?_
    refine qm_Ret.ge (t := 21) (e := 17) rfl (fun hc => ?_) (fun hc => ?_)
    · rw [if_pos hc] at ho
      cases ho
      exact qm_Ret.ret 3 rfl
    · rw [if_neg hc] at ho
      cases ho
      exact qm_Ret.ret 2 rfl
theorem cX0_hasStroke_ok : ∀ q ∈ ([] : List (Nat × Nat × Nat × qm_C)), qm_CallOK RX0 0 0 q.2.1 q.1 q.2.2.1 q.2.2.2 := fun _ h => absurd h List.not_mem_nil
theorem sX0_hasStroke : qm_Snd yX0_hasStroke cX0_hasStroke 2 (some .boolean) 0 0 wX0_hasStroke := qm_met (fld := fun k => qm_lk k pfRX0) (con := fun k => qm_lk k pcRX0) (call := fun k => qm_lk k []) (tab := qm_tab aX0_hasStroke) (plainFor_of_name (by decide)) (qm_fld_ok pfRX0_ok) (qm_con_ok pcRX0_ok) (fun idx kd n f hc => cX0_hasStroke_ok (idx, kd, n, f) (qm_lk_mem hc)) (qm_tab_ok aX0_hasStroke_ok) (fun vs h o hw => by
  unfold wX0_hasStroke at hw
  split at hw
  · obtain ⟨r, hr, rfl⟩ := Option.map_eq_some_iff.mp hw
    exact ⟨Nat.le_of_ble_eq_true rfl, rX0_hasStroke_0 (hr)⟩
  · cases hw)
theorem recvX0_hasStroke : ∀ vs h o, wX0_hasStroke vs h = some o → ∃ ci a rest, vs = qm_r 0 ci a :: rest ∧ qm_R ci = yX0_hasStroke.cls := by
  intro vs h o hw
  unfold wX0_hasStroke at hw
  split at hw
  · exact ⟨_, _, _, rfl, rfl⟩
  · cases hw
-- RX0 hasTwig(II)Z
theorem jX0_hasTwig : Jvm.Cond.code yX0_hasTwig cX0_hasTwig 3 (some .boolean) ∈ qm_all := List.mem_filter.mpr ⟨by decide +kernel, rfl⟩
theorem iX0_hasTwig : Jvm.Cond.instanceMethod yX0_hasTwig ∈ qm_all ∧ Jvm.Cond.selects yX0_hasTwig.cls yX0_hasTwig yX0_hasTwig ∈ qm_all := ⟨List.mem_filter.mpr ⟨by decide +kernel, rfl⟩, List.mem_filter.mpr ⟨by decide +kernel, rfl⟩⟩
def wX0_hasTwig : qm_C := fun vs h => match vs with
  | [.inr (.inr (some (0, 0, p0))), .inl p1, .inl p2] => (qX0_hasTwig p0 p1 p2 h).map qm_Gi
  | _ => none
def aX0_hasTwig : List (Option (Instr × Nat)) := [some (.iload_n 2, 1), some (.ifCond .lt 26, 3), none, none, some (.iload_n 2, 1), some (.iload_n 1, 1), some (.ifCond .ne 10, 3), none, none, some (.aload_n 0, 1), some (.getfield 25, 3), none, none, some (.goto 7, 3), none, none, some (.aload_n 0, 1), some (.getfield 21, 3), none, none, some (.if_icmp .ge 7, 3), none, none, some (.iconst 1, 1), some (.goto 4, 3), none, none, some (.iconst 0, 1), some (.ireturn, 1)]
theorem aX0_hasTwig_ok : qm_tabok cX0_hasTwig aX0_hasTwig = true := by decide +kernel
def mX0_hasTwig : qm_M := ((some .boolean), (fun k => qm_lk k pfRX0), (fun k => qm_lk k pcRX0), (fun k => qm_lk k []), qm_tab aX0_hasTwig)
set_option maxRecDepth 20000 in
set_option maxHeartbeats 2000000 in
theorem rX0_hasTwig_0   {a0 : Nat} {x1 : Int32} {x2 : Int32} {h : qm_H} {r : Int32 × qm_H} (ho : qX0_hasTwig  a0 x1 x2 h = some r) : qm_Ret mX0_hasTwig (0, [some (qm_r 0 0 a0), some (qm_i x1), some (qm_i x2)], [], h) (qm_Gi r) := by
  unfold qX0_hasTwig at ho
  refine qm_Ret.sts 1 (f' := (1, [some (qm_r 0 0 a0), some (qm_i x1), some (qm_i x2)], [qm_i x2], h)) rfl ?_
  refine qm_Ret.lt (t := 27) (e := 4) rfl (fun hc => ?_) (fun hc => ?_)
  · rw [if_pos hc] at ho
    cases ho
    exact qm_Ret.ret 2 rfl
  · rw [if_neg hc] at ho
    refine qm_Ret.sts 2 (f' := (6, [some (qm_r 0 0 a0), some (qm_i x1), some (qm_i x2)], [qm_i x1, qm_i x2], h)) rfl ?_
    refine qm_Ret.ne (t := 16) (e := 9) rfl (fun hc => ?_) (fun hc => ?_)
    · rw [if_pos hc] at ho
      refine qm_Ret.sts 3 (f' := (20, [some (qm_r 0 0 a0), some (qm_i x1), some (qm_i x2)], [qm_i (h.1 a0 4), qm_i x2], h)) rfl ?_
      refine qm_Ret.ge (t := 27) (e := 23) rfl (fun hc => ?_) (fun hc => ?_)
      · rw [if_pos hc] at ho
        cases ho
        exact qm_Ret.ret 3 rfl
      · rw [if_neg hc] at ho
        cases ho
        exact qm_Ret.ret 2 rfl
    · rw [if_neg hc] at ho
      refine qm_Ret.sts 2 (f' := (20, [some (qm_r 0 0 a0), some (qm_i x1), some (qm_i x2)], [qm_i (h.1 a0 3), qm_i x2], h)) rfl ?_
      refine qm_Ret.ge (t := 27) (e := 23) rfl (fun hc => ?_) (fun hc => ?_)
      · rw [if_pos hc] at ho
        cases ho
        exact qm_Ret.ret 3 rfl
      · rw [if_neg hc] at ho
        cases ho
        exact qm_Ret.ret 2 rfl
theorem cX0_hasTwig_ok : ∀ q ∈ ([] : List (Nat × Nat × Nat × qm_C)), qm_CallOK RX0 0 0 q.2.1 q.1 q.2.2.1 q.2.2.2 := fun _ h => absurd h List.not_mem_nil
theorem sX0_hasTwig : qm_Snd yX0_hasTwig cX0_hasTwig 3 (some .boolean) 0 0 wX0_hasTwig := qm_met (fld := fun k => qm_lk k pfRX0) (con := fun k => qm_lk k pcRX0) (call := fun k => qm_lk k []) (tab := qm_tab aX0_hasTwig) (plainFor_of_name (by decide)) (qm_fld_ok pfRX0_ok) (qm_con_ok pcRX0_ok) (fun idx kd n f hc => cX0_hasTwig_ok (idx, kd, n, f) (qm_lk_mem hc)) (qm_tab_ok aX0_hasTwig_ok) (fun vs h o hw => by
  unfold wX0_hasTwig at hw
  split at hw
  · obtain ⟨r, hr, rfl⟩ := Option.map_eq_some_iff.mp hw
    exact ⟨Nat.le_of_ble_eq_true rfl, rX0_hasTwig_0 (hr)⟩
  · cases hw)
theorem recvX0_hasTwig : ∀ vs h o, wX0_hasTwig vs h = some o → ∃ ci a rest, vs = qm_r 0 ci a :: rest ∧ qm_R ci = yX0_hasTwig.cls := by
  intro vs h o hw
  unfold wX0_hasTwig at hw
  split at hw
  · exact ⟨_, _, _, rfl, rfl⟩
  · cases hw
-- RX0 setTwig(IIII)V
theorem jX0_setTwig : Jvm.Cond.code yX0_setTwig cX0_setTwig 6 none ∈ qm_all := List.mem_filter.mpr ⟨by decide +kernel, rfl⟩
theorem iX0_setTwig : Jvm.Cond.instanceMethod yX0_setTwig ∈ qm_all ∧ Jvm.Cond.selects yX0_setTwig.cls yX0_setTwig yX0_setTwig ∈ qm_all := ⟨List.mem_filter.mpr ⟨by decide +kernel, rfl⟩, List.mem_filter.mpr ⟨by decide +kernel, rfl⟩⟩
def wX0_setTwig : qm_C := fun vs h => match vs with
  | [.inr (.inr (some (0, 0, p0))), .inl p1, .inl p2, .inl p3, .inl p4] => (qX0_setTwig p0 p1 p2 p3 p4 h).map qm_Gv
  | _ => none
def aX0_setTwig : List (Option (Instr × Nat)) := [some (.bipush 8, 2), none, some (.iload_n 1, 1), some (.imul, 1), some (.iload_n 2, 1), some (.iadd, 1), some (.istore 5, 2), none, some (.iload 5, 2), none, some (.ifCond .lt 27, 3), none, none, some (.iload 5, 2), none, some (.bipush 16, 2), none, some (.if_icmp .ge 20, 3), none, none, some (.aload_n 0, 1), some (.getfield 9, 3), none, none, some (.iload 5, 2), none, some (.iload_n 3, 1), some (.iastore, 1), some (.aload_n 0, 1), some (.getfield 15, 3), none, none, some (.iload 5, 2), none, some (.iload 4, 2), none, some (.iastore, 1), some (.return_, 1)]
theorem aX0_setTwig_ok : qm_tabok cX0_setTwig aX0_setTwig = true := by decide +kernel
def mX0_setTwig : qm_M := (none, (fun k => qm_lk k pfRX0), (fun k => qm_lk k pcRX0), (fun k => qm_lk k []), qm_tab aX0_setTwig)
set_option maxRecDepth 20000 in
set_option maxHeartbeats 2000000 in
theorem rX0_setTwig_0   {a0 : Nat} {x1 : Int32} {x2 : Int32} {x3 : Int32} {x4 : Int32} {h : qm_H} {r : qm_H} (ho : qX0_setTwig  a0 x1 x2 x3 x4 h = some r) : qm_Ret mX0_setTwig (0, [some (qm_r 0 0 a0), some (qm_i x1), some (qm_i x2), some (qm_i x3), some (qm_i x4), none], [], h) (qm_Gv r) := by
  unfold qX0_setTwig at ho
  refine qm_Ret.sts 5 (f' := (6, [some (qm_r 0 0 a0), some (qm_i x1), some (qm_i x2), some (qm_i x3), some (qm_i x4), none], [qm_i (((8 : Int32) * x1) + x2)], h)) rfl ?_
  refine qm_Ret.lets (F := fun v1 => (6, [some (qm_r 0 0 a0), some (qm_i x1), some (qm_i x2), some (qm_i x3), some (qm_i x4), none], [qm_i v1], h)) (G := qm_Gv) ho (fun v1 ho => ?_)
  refine qm_Ret.sts 2 (f' := (10, [some (qm_r 0 0 a0), some (qm_i x1), some (qm_i x2), some (qm_i x3), some (qm_i x4), some (qm_i v1)], [qm_i v1], h)) rfl ?_
  refine qm_Ret.lt (t := 37) (e := 13) rfl (fun hc => ?_) (fun hc => ?_)
  · rw [if_pos hc] at ho
    cases ho
    exact qm_Ret.ret 1 rfl
  · rw [if_neg hc] at ho
    refine qm_Ret.sts 2 (f' := (17, [some (qm_r 0 0 a0), some (qm_i x1), some (qm_i x2), some (qm_i x3), some (qm_i x4), some (qm_i v1)], [qm_i (16 : Int32), qm_i v1], h)) rfl ?_
    refine qm_Ret.ge (t := 37) (e := 20) rfl (fun hc => ?_) (fun hc => ?_)
    · rw [if_pos hc] at ho
      refine qm_Ret.sts 4 (f' := (27, [some (qm_r 0 0 a0), some (qm_i x1), some (qm_i x2), some (qm_i x3), some (qm_i x4), some (qm_i v1)], [qm_i x3, qm_i v1, qm_r 1 16 (a0 + 1)], h)) rfl ?_
      obtain ⟨hg, ho⟩ := qm_ifn ho
      refine qm_Ret.gn (f1 := (28, [some (qm_r 0 0 a0), some (qm_i x1), some (qm_i x2), some (qm_i x3), some (qm_i x4), some (qm_i v1)], [], (qm_seti h (a0 + 1) (v1).toNatClampNeg x3))) hg rfl ?_
      refine qm_Ret.lets (F := fun h2 => (28, [some (qm_r 0 0 a0), some (qm_i x1), some (qm_i x2), some (qm_i x3), some (qm_i x4), some (qm_i v1)], [], h2)) (G := qm_Gv) ho (fun h2 ho => ?_)
      refine qm_Ret.sts 4 (f' := (36, [some (qm_r 0 0 a0), some (qm_i x1), some (qm_i x2), some (qm_i x3), some (qm_i x4), some (qm_i v1)], [qm_i x4, qm_i v1, qm_r 1 16 (a0 + 2)], h2)) rfl ?_
      obtain ⟨hg, ho⟩ := qm_ifn ho
      refine qm_Ret.gn (f1 := (37, [some (qm_r 0 0 a0), some (qm_i x1), some (qm_i x2), some (qm_i x3), some (qm_i x4), some (qm_i v1)], [], (qm_seti h2 (a0 + 2) (v1).toNatClampNeg x4))) hg rfl ?_
      refine qm_Ret.lets (F := fun h3 => (37, [some (qm_r 0 0 a0), some (qm_i x1), some (qm_i x2), some (qm_i x3), some (qm_i x4), some (qm_i v1)], [], h3)) (G := qm_Gv) ho (fun h3 ho => ?_)
      cases ho
      exact qm_Ret.ret 1 rfl
    · rw [if_neg hc] at ho
      cases ho
      exact qm_Ret.ret 1 rfl
theorem cX0_setTwig_ok : ∀ q ∈ ([] : List (Nat × Nat × Nat × qm_C)), qm_CallOK RX0 0 0 q.2.1 q.1 q.2.2.1 q.2.2.2 := fun _ h => absurd h List.not_mem_nil
theorem sX0_setTwig : qm_Snd yX0_setTwig cX0_setTwig 6 none 0 0 wX0_setTwig := qm_met (fld := fun k => qm_lk k pfRX0) (con := fun k => qm_lk k pcRX0) (call := fun k => qm_lk k []) (tab := qm_tab aX0_setTwig) (plainFor_of_name (by decide)) (qm_fld_ok pfRX0_ok) (qm_con_ok pcRX0_ok) (fun idx kd n f hc => cX0_setTwig_ok (idx, kd, n, f) (qm_lk_mem hc)) (qm_tab_ok aX0_setTwig_ok) (fun vs h o hw => by
  unfold wX0_setTwig at hw
  split at hw
  · obtain ⟨r, hr, rfl⟩ := Option.map_eq_some_iff.mp hw
    exact ⟨Nat.le_of_ble_eq_true rfl, rX0_setTwig_0 (hr)⟩
  · cases hw)
theorem recvX0_setTwig : ∀ vs h o, wX0_setTwig vs h = some o → ∃ ci a rest, vs = qm_r 0 ci a :: rest ∧ qm_R ci = yX0_setTwig.cls := by
  intro vs h o hw
  unfold wX0_setTwig at hw
  split at hw
  · exact ⟨_, _, _, rfl, rfl⟩
  · cases hw
-- RX0 isOpen(II)Z
theorem jX0_isOpen : Jvm.Cond.code yX0_isOpen cX0_isOpen 3 (some .boolean) ∈ qm_all := List.mem_filter.mpr ⟨by decide +kernel, rfl⟩
theorem iX0_isOpen : Jvm.Cond.instanceMethod yX0_isOpen ∈ qm_all ∧ Jvm.Cond.selects yX0_isOpen.cls yX0_isOpen yX0_isOpen ∈ qm_all := ⟨List.mem_filter.mpr ⟨by decide +kernel, rfl⟩, List.mem_filter.mpr ⟨by decide +kernel, rfl⟩⟩
def wX0_isOpen : qm_C := fun vs h => match vs with
  | [.inr (.inr (some (0, 0, p0))), .inl p1, .inl p2] => (qX0_isOpen p0 p1 p2 h).map qm_Gi
  | _ => none
def aX0_isOpen : List (Option (Instr × Nat)) := [some (.aload_n 0, 1), some (.getfield 32, 3), none, none, some (.iload_n 1, 1), some (.iload_n 2, 1), some (.invokestatic 42, 3), none, none, some (.land, 1), some (.lconst 0, 1), some (.lcmp, 1), some (.ifCond .eq 7, 3), none, none, some (.iconst 1, 1), some (.goto 4, 3), none, none, some (.iconst 0, 1), some (.ireturn, 1)]
theorem aX0_isOpen_ok : qm_tabok cX0_isOpen aX0_isOpen = true := by decide +kernel
def mX0_isOpen : qm_M := ((some .boolean), (fun k => qm_lk k pfRX0), (fun k => qm_lk k pcRX0), (fun k => qm_lk k [(42, 2, 2, wX0_bit)]), qm_tab aX0_isOpen)
set_option maxRecDepth 20000 in
set_option maxHeartbeats 2000000 in
theorem rX0_isOpen_0   {a0 : Nat} {x1 : Int32} {x2 : Int32} {h : qm_H} {r : Int32 × qm_H} (ho : qX0_isOpen  a0 x1 x2 h = some r) : qm_Ret mX0_isOpen (0, [some (qm_r 0 0 a0), some (qm_i x1), some (qm_i x2)], [], h) (qm_Gi r) := by
  unfold qX0_isOpen at ho
  refine qm_Ret.sts 4 (f' := (6, [some (qm_r 0 0 a0), some (qm_i x1), some (qm_i x2)], [qm_i x2, qm_i x1, qm_l (h.2 a0 6)], h)) rfl ?_
  obtain ⟨r2, h1, hr, ho⟩ := qm_b2e ho
  refine qm_Ret.call (X := wX0_bit [qm_i x1, qm_i x2] h) (o1 := (some (qm_l r2), h1)) (qm_mp (G := qm_Gl) hr) rfl ?_
  show qm_Ret _ (9, [some (qm_r 0 0 a0), some (qm_i x1), some (qm_i x2)], [qm_l r2, qm_l (h.2 a0 6)], h1) _
  refine qm_Ret.sts 3 (f' := (12, [some (qm_r 0 0 a0), some (qm_i x1), some (qm_i x2)], [qm_i (lg_cmp ((h.2 a0 6) &&& r2) (0 : Int64))], h1)) rfl ?_
  refine qm_Ret.eq (t := 19) (e := 15) rfl (fun hc => ?_) (fun hc => ?_)
  · rw [if_pos hc] at ho
    cases ho
    exact qm_Ret.ret 2 rfl
  · rw [if_neg hc] at ho
    cases ho
    exact qm_Ret.ret 3 rfl
theorem cX0_isOpen_ok : ∀ q ∈ ([(42, 2, 2, wX0_bit)] : List (Nat × Nat × Nat × qm_C)), qm_CallOK RX0 1 21 q.2.1 q.1 q.2.2.1 q.2.2.2 := List.forall_mem_cons.mpr ⟨Or.inl ⟨yX0_bit, cX0_bit, 2, (some .long), 0, 0, _, sX0_bit, ⟨by decide, by decide⟩, ⟨jX0_bit, kRX0_42, uRX0⟩, ⟨by decide, by decide, rfl⟩, Or.inr (Or.inl ⟨rfl, rfl, iX0_bit⟩)⟩, fun _ h => absurd h List.not_mem_nil⟩
theorem sX0_isOpen : qm_Snd yX0_isOpen cX0_isOpen 3 (some .boolean) 1 21 wX0_isOpen := qm_met (fld := fun k => qm_lk k pfRX0) (con := fun k => qm_lk k pcRX0) (call := fun k => qm_lk k [(42, 2, 2, wX0_bit)]) (tab := qm_tab aX0_isOpen) (plainFor_of_name (by decide)) (qm_fld_ok pfRX0_ok) (qm_con_ok pcRX0_ok) (fun idx kd n f hc => cX0_isOpen_ok (idx, kd, n, f) (qm_lk_mem hc)) (qm_tab_ok aX0_isOpen_ok) (fun vs h o hw => by
  unfold wX0_isOpen at hw
  split at hw
  · obtain ⟨r, hr, rfl⟩ := Option.map_eq_some_iff.mp hw
    exact ⟨Nat.le_of_ble_eq_true rfl, rX0_isOpen_0 (hr)⟩
  · cases hw)
theorem recvX0_isOpen : ∀ vs h o, wX0_isOpen vs h = some o → ∃ ci a rest, vs = qm_r 0 ci a :: rest ∧ qm_R ci = yX0_isOpen.cls := by
  intro vs h o hw
  unfold wX0_isOpen at hw
  split at hw
  · exact ⟨_, _, _, rfl, rfl⟩
  · cases hw
-- RJ9 max(II)I
theorem jJ9_max_7cf53 : Jvm.Cond.code yJ9_max_7cf53 cJ9_max_7cf53 2 (some .int) ∈ qm_all := List.mem_filter.mpr ⟨by decide +kernel, rfl⟩
theorem iJ9_max_7cf53 : Jvm.Cond.static yJ9_max_7cf53 ∈ qm_all := List.mem_filter.mpr ⟨by decide +kernel, rfl⟩
def wJ9_max_7cf53 : qm_C := fun vs h => match vs with
  | [.inl p0, .inl p1] => (qJ9_max_7cf53 p0 p1 h).map qm_Gi
  | _ => none
def aJ9_max_7cf53 : List (Option (Instr × Nat)) := [some (.iload_n 0, 1), some (.iload_n 1, 1), some (.if_icmp .lt 7, 3), none, none, some (.iload_n 0, 1), some (.goto 4, 3), none, none, some (.iload_n 1, 1), some (.ireturn, 1)]
theorem aJ9_max_7cf53_ok : qm_tabok cJ9_max_7cf53 aJ9_max_7cf53 = true := by decide +kernel
def mJ9_max_7cf53 : qm_M := ((some .int), (fun k => qm_lk k pfRJ9), (fun k => qm_lk k pcRJ9), (fun k => qm_lk k []), qm_tab aJ9_max_7cf53)
set_option maxRecDepth 20000 in
set_option maxHeartbeats 2000000 in
theorem rJ9_max_7cf53_0   {x0 : Int32} {x1 : Int32} {h : qm_H} {r : Int32 × qm_H} (ho : qJ9_max_7cf53  x0 x1 h = some r) : qm_Ret mJ9_max_7cf53 (0, [some (qm_i x0), some (qm_i x1)], [], h) (qm_Gi r) := by
  unfold qJ9_max_7cf53 at ho
  refine qm_Ret.sts 2 (f' := (2, [some (qm_i x0), some (qm_i x1)], [qm_i x1, qm_i x0], h)) rfl ?_
  refine qm_Ret.lt (t := 9) (e := 5) rfl (fun hc => ?_) (fun hc => ?_)
  · rw [if_pos hc] at ho
    cases ho
    exact qm_Ret.ret 2 rfl
  · rw [if_neg hc] at ho
    cases ho
    exact qm_Ret.ret 3 rfl
theorem cJ9_max_7cf53_ok : ∀ q ∈ ([] : List (Nat × Nat × Nat × qm_C)), qm_CallOK RJ9 0 0 q.2.1 q.1 q.2.2.1 q.2.2.2 := fun _ h => absurd h List.not_mem_nil
theorem sJ9_max_7cf53 : qm_Snd yJ9_max_7cf53 cJ9_max_7cf53 2 (some .int) 0 0 wJ9_max_7cf53 := qm_met (fld := fun k => qm_lk k pfRJ9) (con := fun k => qm_lk k pcRJ9) (call := fun k => qm_lk k []) (tab := qm_tab aJ9_max_7cf53) (by decide +kernel) (qm_fld_ok pfRJ9_ok) (qm_con_ok pcRJ9_ok) (fun idx kd n f hc => cJ9_max_7cf53_ok (idx, kd, n, f) (qm_lk_mem hc)) (qm_tab_ok aJ9_max_7cf53_ok) (fun vs h o hw => by
  unfold wJ9_max_7cf53 at hw
  split at hw
  · obtain ⟨r, hr, rfl⟩ := Option.map_eq_some_iff.mp hw
    exact ⟨Nat.le_of_ble_eq_true rfl, rJ9_max_7cf53_0 (hr)⟩
  · cases hw)
-- RX0 strengthIn(II)I
theorem jX0_strengthIn : Jvm.Cond.code yX0_strengthIn cX0_strengthIn 6 (some .int) ∈ qm_all := List.mem_filter.mpr ⟨by decide +kernel, rfl⟩
theorem iX0_strengthIn : Jvm.Cond.instanceMethod yX0_strengthIn ∈ qm_all ∧ Jvm.Cond.selects yX0_strengthIn.cls yX0_strengthIn yX0_strengthIn ∈ qm_all := ⟨List.mem_filter.mpr ⟨by decide +kernel, rfl⟩, List.mem_filter.mpr ⟨by decide +kernel, rfl⟩⟩
def wX0_strengthIn : qm_C := fun vs h => match vs with
  | [.inr (.inr (some (0, 0, p0))), .inl p1, .inl p2] => (qX0_strengthIn p0 p1 p2 h).map qm_Gi
  | _ => none
def aX0_strengthIn : List (Option (Instr × Nat)) := [some (.iload_n 1, 1), some (.ifCond .lt 23, 3), none, none, some (.iload_n 1, 1), some (.bipush 8, 2), none, some (.if_icmp .ge 17, 3), none, none, some (.iload_n 2, 1), some (.ifCond .lt 13, 3), none, none, some (.iload_n 2, 1), some (.bipush 8, 2), none, some (.if_icmp .ge 7, 3), none, none, some (.iconst 1, 1), some (.goto 4, 3), none, none, some (.iconst 0, 1), some (.istore_n 3, 1), some (.iload_n 3, 1), some (.ifCond .eq 21, 3), none, none, some (.aload_n 0, 1), some (.getfield 32, 3), none, none, some (.bipush 8, 2), none, some (.iload_n 1, 1), some (.imul, 1), some (.iload_n 2, 1), some (.iadd, 1), some (.lushr, 1), some (.lconst 1, 1), some (.land, 1), some (.lconst 0, 1), some (.lcmp, 1), some (.ifCond .eq 5, 3), none, none, some (.iconst 0, 1), some (.ireturn, 1), some (.bipush 8, 2), none, some (.iload_n 2, 1), some (.iadd, 1), some (.istore 4, 2), none, some (.iconst 0, 1), some (.aload_n 0, 1), some (.getfield 9, 3), none, none, some (.iload_n 1, 1), some (.iaload, 1), some (.aload_n 0, 1), some (.getfield 9, 3), none, none, some (.iload 4, 2), none, some (.iaload, 1), some (.iadd, 1), some (.aload_n 0, 1), some (.getfield 15, 3), none, none, some (.iload_n 1, 1), some (.iaload, 1), some (.isub, 1), some (.aload_n 0, 1), some (.getfield 15, 3), none, none, some (.iload 4, 2), none, some (.iaload, 1), some (.isub, 1), some (.invokestatic 46, 3), none, none, some (.istore 5, 2), none, some (.aload_n 0, 1), some (.getfield 28, 3), none, none, some (.ifCond .eq 10, 3), none, none, some (.iload 5, 2), none, some (.iconst 2, 1), some (.idiv, 1), some (.goto 5, 3), none, none, some (.iload 5, 2), none, some (.ireturn, 1)]
theorem aX0_strengthIn_ok : qm_tabok cX0_strengthIn aX0_strengthIn = true := by decide +kernel
def mX0_strengthIn : qm_M := ((some .int), (fun k => qm_lk k pfRX0), (fun k => qm_lk k pcRX0), (fun k => qm_lk k [(46, 2, 2, wJ9_max_7cf53)]), qm_tab aX0_strengthIn)
set_option maxRecDepth 20000 in
set_option maxHeartbeats 2000000 in
theorem rX0_strengthIn_25   {a0 : Nat} {x1 : Int32} {x2 : Int32} {xs0 : Int32} {h : qm_H} {r : Int32 × qm_H} (ho : qX0_strengthIn_25  a0 x1 x2 xs0 h = some r) : qm_Ret mX0_strengthIn (25, [some (qm_r 0 0 a0), some (qm_i x1), some (qm_i x2), none, none, none], [qm_i xs0], h) (qm_Gi r) := by
  unfold qX0_strengthIn_25 at ho
  refine qm_Ret.sts 2 (f' := (27, [some (qm_r 0 0 a0), some (qm_i x1), some (qm_i x2), some (qm_i xs0), none, none], [qm_i xs0], h)) rfl ?_
  refine qm_Ret.eq (t := 48) (e := 30) rfl (fun hc => ?_) (fun hc => ?_)
  · rw [if_pos hc] at ho
    cases ho
    exact qm_Ret.ret 2 rfl
  · rw [if_neg hc] at ho
    refine qm_Ret.sts 12 (f' := (45, [some (qm_r 0 0 a0), some (qm_i x1), some (qm_i x2), some (qm_i xs0), none, none], [qm_i (lg_cmp ((qm_lushr (h.2 a0 6) (((8 : Int32) * x1) + x2)) &&& (1 : Int64)) (0 : Int64))], h)) rfl ?_
    refine qm_Ret.eq (t := 50) (e := 48) rfl (fun hc => ?_) (fun hc => ?_)
    · rw [if_pos hc] at ho
      refine qm_Ret.sts 3 (f' := (54, [some (qm_r 0 0 a0), some (qm_i x1), some (qm_i x2), some (qm_i xs0), none, none], [qm_i ((8 : Int32) + x2)], h)) rfl ?_
      refine qm_Ret.lets (F := fun v1 => (54, [some (qm_r 0 0 a0), some (qm_i x1), some (qm_i x2), some (qm_i xs0), none, none], [qm_i v1], h)) (G := qm_Gi) ho (fun v1 ho => ?_)
      refine qm_Ret.sts 5 (f' := (62, [some (qm_r 0 0 a0), some (qm_i x1), some (qm_i x2), some (qm_i xs0), some (qm_i v1), none], [qm_i x1, qm_r 1 16 (a0 + 1), qm_i (0 : Int32)], h)) rfl ?_
      obtain ⟨hg, ho⟩ := qm_ifn ho
      refine qm_Ret.gn (f1 := (63, [some (qm_r 0 0 a0), some (qm_i x1), some (qm_i x2), some (qm_i xs0), some (qm_i v1), none], [qm_i (h.1 (a0 + 1) (x1).toNatClampNeg), qm_i (0 : Int32)], h)) hg rfl ?_
      refine qm_Ret.sts 3 (f' := (69, [some (qm_r 0 0 a0), some (qm_i x1), some (qm_i x2), some (qm_i xs0), some (qm_i v1), none], [qm_i v1, qm_r 1 16 (a0 + 1), qm_i (h.1 (a0 + 1) (x1).toNatClampNeg), qm_i (0 : Int32)], h)) rfl ?_
      obtain ⟨hg, ho⟩ := qm_ifn ho
      refine qm_Ret.gn (f1 := (70, [some (qm_r 0 0 a0), some (qm_i x1), some (qm_i x2), some (qm_i xs0), some (qm_i v1), none], [qm_i (h.1 (a0 + 1) (v1).toNatClampNeg), qm_i (h.1 (a0 + 1) (x1).toNatClampNeg), qm_i (0 : Int32)], h)) hg rfl ?_
      refine qm_Ret.sts 4 (f' := (76, [some (qm_r 0 0 a0), some (qm_i x1), some (qm_i x2), some (qm_i xs0), some (qm_i v1), none], [qm_i x1, qm_r 1 16 (a0 + 2), qm_i ((h.1 (a0 + 1) (x1).toNatClampNeg) + (h.1 (a0 + 1) (v1).toNatClampNeg)), qm_i (0 : Int32)], h)) rfl ?_
      obtain ⟨hg, ho⟩ := qm_ifn ho
      refine qm_Ret.gn (f1 := (77, [some (qm_r 0 0 a0), some (qm_i x1), some (qm_i x2), some (qm_i xs0), some (qm_i v1), none], [qm_i (h.1 (a0 + 2) (x1).toNatClampNeg), qm_i ((h.1 (a0 + 1) (x1).toNatClampNeg) + (h.1 (a0 + 1) (v1).toNatClampNeg)), qm_i (0 : Int32)], h)) hg rfl ?_
      refine qm_Ret.sts 4 (f' := (84, [some (qm_r 0 0 a0), some (qm_i x1), some (qm_i x2), some (qm_i xs0), some (qm_i v1), none], [qm_i v1, qm_r 1 16 (a0 + 2), qm_i (((h.1 (a0 + 1) (x1).toNatClampNeg) + (h.1 (a0 + 1) (v1).toNatClampNeg)) - (h.1 (a0 + 2) (x1).toNatClampNeg)), qm_i (0 : Int32)], h)) rfl ?_
      obtain ⟨hg, ho⟩ := qm_ifn ho
      refine qm_Ret.gn (f1 := (85, [some (qm_r 0 0 a0), some (qm_i x1), some (qm_i x2), some (qm_i xs0), some (qm_i v1), none], [qm_i (h.1 (a0 + 2) (v1).toNatClampNeg), qm_i (((h.1 (a0 + 1) (x1).toNatClampNeg) + (h.1 (a0 + 1) (v1).toNatClampNeg)) - (h.1 (a0 + 2) (x1).toNatClampNeg)), qm_i (0 : Int32)], h)) hg rfl ?_
      refine qm_Ret.sts 1 (f' := (86, [some (qm_r 0 0 a0), some (qm_i x1), some (qm_i x2), some (qm_i xs0), some (qm_i v1), none], [qm_i ((((h.1 (a0 + 1) (x1).toNatClampNeg) + (h.1 (a0 + 1) (v1).toNatClampNeg)) - (h.1 (a0 + 2) (x1).toNatClampNeg)) - (h.1 (a0 + 2) (v1).toNatClampNeg)), qm_i (0 : Int32)], h)) rfl ?_
      obtain ⟨r3, h2, hr, ho⟩ := qm_b2e ho
      refine qm_Ret.call (X := wJ9_max_7cf53 [qm_i (0 : Int32), qm_i ((((h.1 (a0 + 1) (x1).toNatClampNeg) + (h.1 (a0 + 1) (v1).toNatClampNeg)) - (h.1 (a0 + 2) (x1).toNatClampNeg)) - (h.1 (a0 + 2) (v1).toNatClampNeg))] h) (o1 := (some (qm_i r3), h2)) (qm_mp (G := qm_Gi) hr) rfl ?_
      show qm_Ret _ (89, [some (qm_r 0 0 a0), some (qm_i x1), some (qm_i x2), some (qm_i xs0), some (qm_i v1), none], [qm_i r3], h2) _
      refine qm_Ret.sts 3 (f' := (95, [some (qm_r 0 0 a0), some (qm_i x1), some (qm_i x2), some (qm_i xs0), some (qm_i v1), some (qm_i r3)], [qm_i (h2.1 a0 5)], h2)) rfl ?_
      refine qm_Ret.eq (t := 105) (e := 98) rfl (fun hc => ?_) (fun hc => ?_)
      · rw [if_pos hc] at ho
        cases ho
        exact qm_Ret.ret 2 rfl
      · rw [if_neg hc] at ho
        cases ho
        exact qm_Ret.ret 5 rfl
    · rw [if_neg hc] at ho
      cases ho
      exact qm_Ret.ret 2 rfl
set_option maxRecDepth 20000 in
set_option maxHeartbeats 2000000 in
theorem rX0_strengthIn_0   {a0 : Nat} {x1 : Int32} {x2 : Int32} {h : qm_H} {r : Int32 × qm_H} (ho : qX0_strengthIn  a0 x1 x2 h = some r) : qm_Ret mX0_strengthIn (0, [some (qm_r 0 0 a0), some (qm_i x1), some (qm_i x2), none, none, none], [], h) (qm_Gi r) := by
  unfold qX0_strengthIn at ho
  refine qm_Ret.sts 1 (f' := (1, [some (qm_r 0 0 a0), some (qm_i x1), some (qm_i x2), none, none, none], [qm_i x1], h)) rfl ?_
  refine qm_Ret.lt (t := 24) (e := 4) rfl (fun hc => ?_) (fun hc => ?_)
  · rw [if_pos hc] at ho
    refine qm_Ret.sts 1 (f' := (25, [some (qm_r 0 0 a0), some (qm_i x1), some (qm_i x2), none, none, none], [qm_i (0 : Int32)], h)) rfl ?_
    exact rX0_strengthIn_25 ho
  · rw [if_neg hc] at ho
    refine qm_Ret.sts 2 (f' := (7, [some (qm_r 0 0 a0), some (qm_i x1), some (qm_i x2), none, none, none], [qm_i (8 : Int32), qm_i x1], h)) rfl ?_
    refine qm_Ret.ge (t := 24) (e := 10) rfl (fun hc => ?_) (fun hc => ?_)
    · rw [if_pos hc] at ho
      refine qm_Ret.sts 1 (f' := (11, [some (qm_r 0 0 a0), some (qm_i x1), some (qm_i x2), none, none, none], [qm_i x2], h)) rfl ?_
      refine qm_Ret.lt (t := 24) (e := 14) rfl (fun hc => ?_) (fun hc => ?_)
      · rw [if_pos hc] at ho
        refine qm_Ret.sts 1 (f' := (25, [some (qm_r 0 0 a0), some (qm_i x1), some (qm_i x2), none, none, none], [qm_i (0 : Int32)], h)) rfl ?_
        exact rX0_strengthIn_25 ho
      · rw [if_neg hc] at ho
        refine qm_Ret.sts 2 (f' := (17, [some (qm_r 0 0 a0), some (qm_i x1), some (qm_i x2), none, none, none], [qm_i (8 : Int32), qm_i x2], h)) rfl ?_
        refine qm_Ret.ge (t := 24) (e := 20) rfl (fun hc => ?_) (fun hc => ?_)
        · rw [if_pos hc] at ho
          refine qm_Ret.sts 2 (f' := (25, [some (qm_r 0 0 a0), some (qm_i x1), some (qm_i x2), none, none, none], [qm_i (1 : Int32)], h)) rfl ?_
          exact rX0_strengthIn_25 ho
        · rw [if_neg hc] at ho
          refine qm_Ret.sts 1 (f' := (25, [some (qm_r 0 0 a0), some (qm_i x1), some (qm_i x2), none, none, none], [qm_i (0 : Int32)], h)) rfl ?_
          exact rX0_strengthIn_25 ho
    · rw [if_neg hc] at ho
      refine qm_Ret.sts 1 (f' := (25, [some (qm_r 0 0 a0), some (qm_i x1), some (qm_i x2), none, none, none], [qm_i (0 : Int32)], h)) rfl ?_
      exact rX0_strengthIn_25 ho
theorem cX0_strengthIn_ok : ∀ q ∈ ([(46, 2, 2, wJ9_max_7cf53)] : List (Nat × Nat × Nat × qm_C)), qm_CallOK RX0 1 21 q.2.1 q.1 q.2.2.1 q.2.2.2 := List.forall_mem_cons.mpr ⟨Or.inl ⟨yJ9_max_7cf53, cJ9_max_7cf53, 2, (some .int), 0, 0, _, sJ9_max_7cf53, ⟨by decide, by decide⟩, ⟨jJ9_max_7cf53, kRX0_46, uRJ9⟩, ⟨by decide, by decide, rfl⟩, Or.inr (Or.inl ⟨rfl, rfl, iJ9_max_7cf53⟩)⟩, fun _ h => absurd h List.not_mem_nil⟩
theorem sX0_strengthIn : qm_Snd yX0_strengthIn cX0_strengthIn 6 (some .int) 1 21 wX0_strengthIn := qm_met (fld := fun k => qm_lk k pfRX0) (con := fun k => qm_lk k pcRX0) (call := fun k => qm_lk k [(46, 2, 2, wJ9_max_7cf53)]) (tab := qm_tab aX0_strengthIn) (plainFor_of_name (by decide)) (qm_fld_ok pfRX0_ok) (qm_con_ok pcRX0_ok) (fun idx kd n f hc => cX0_strengthIn_ok (idx, kd, n, f) (qm_lk_mem hc)) (qm_tab_ok aX0_strengthIn_ok) (fun vs h o hw => by
  unfold wX0_strengthIn at hw
  split at hw
  · obtain ⟨r, hr, rfl⟩ := Option.map_eq_some_iff.mp hw
    exact ⟨Nat.le_of_ble_eq_true rfl, rX0_strengthIn_0 (hr)⟩
  · cases hw)
theorem recvX0_strengthIn : ∀ vs h o, wX0_strengthIn vs h = some o → ∃ ci a rest, vs = qm_r 0 ci a :: rest ∧ qm_R ci = yX0_strengthIn.cls := by
  intro vs h o hw
  unfold wX0_strengthIn at hw
  split at hw
  · exact ⟨_, _, _, rfl, rfl⟩
  · cases hw
-- RX0 strengthOf(I)I
theorem jX0_strengthOf : Jvm.Cond.code yX0_strengthOf cX0_strengthOf 2 (some .int) ∈ qm_all := List.mem_filter.mpr ⟨by decide +kernel, rfl⟩
theorem iX0_strengthOf : Jvm.Cond.instanceMethod yX0_strengthOf ∈ qm_all ∧ Jvm.Cond.selects yX0_strengthOf.cls yX0_strengthOf yX0_strengthOf ∈ qm_all := ⟨List.mem_filter.mpr ⟨by decide +kernel, rfl⟩, List.mem_filter.mpr ⟨by decide +kernel, rfl⟩⟩
def wX0_strengthOf : qm_C := fun vs h => match vs with
  | [.inr (.inr (some (0, 0, p0))), .inl p1] => (qX0_strengthOf p0 p1 h).map qm_Gi
  | _ => none
def aX0_strengthOf : List (Option (Instr × Nat)) := [some (.aload_n 0, 1), some (.aload_n 0, 1), some (.iload_n 1, 1), some (.invokevirtual 52, 3), none, none, some (.aload_n 0, 1), some (.iload_n 1, 1), some (.invokevirtual 56, 3), none, none, some (.invokevirtual 59, 3), none, none, some (.ireturn, 1)]
theorem aX0_strengthOf_ok : qm_tabok cX0_strengthOf aX0_strengthOf = true := by decide +kernel
def mX0_strengthOf : qm_M := ((some .int), (fun k => qm_lk k pfRX0), (fun k => qm_lk k pcRX0), (fun k => qm_lk k [(52, 0, 2, wX0_rowOf), (56, 0, 2, wX0_columnOf), (59, 0, 3, wX0_strengthIn)]), qm_tab aX0_strengthOf)
set_option maxRecDepth 20000 in
set_option maxHeartbeats 2000000 in
theorem rX0_strengthOf_0   {a0 : Nat} {x1 : Int32} {h : qm_H} {r : Int32 × qm_H} (ho : qX0_strengthOf  a0 x1 h = some r) : qm_Ret mX0_strengthOf (0, [some (qm_r 0 0 a0), some (qm_i x1)], [], h) (qm_Gi r) := by
  unfold qX0_strengthOf at ho
  refine qm_Ret.sts 3 (f' := (3, [some (qm_r 0 0 a0), some (qm_i x1)], [qm_i x1, qm_r 0 0 a0, qm_r 0 0 a0], h)) rfl ?_
  obtain ⟨r2, h1, hr, ho⟩ := qm_b2e ho
  refine qm_Ret.call (X := wX0_rowOf [qm_r 0 0 a0, qm_i x1] h) (o1 := (some (qm_i r2), h1)) (qm_mp (G := qm_Gi) hr) rfl ?_
  show qm_Ret _ (6, [some (qm_r 0 0 a0), some (qm_i x1)], [qm_i r2, qm_r 0 0 a0], h1) _
  refine qm_Ret.sts 2 (f' := (8, [some (qm_r 0 0 a0), some (qm_i x1)], [qm_i x1, qm_r 0 0 a0, qm_i r2, qm_r 0 0 a0], h1)) rfl ?_
  obtain ⟨r4, h3, hr, ho⟩ := qm_b2e ho
  refine qm_Ret.call (X := wX0_columnOf [qm_r 0 0 a0, qm_i x1] h1) (o1 := (some (qm_i r4), h3)) (qm_mp (G := qm_Gi) hr) rfl ?_
  show qm_Ret _ (11, [some (qm_r 0 0 a0), some (qm_i x1)], [qm_i r4, qm_i r2, qm_r 0 0 a0], h3) _
  obtain ⟨r6, h5, hr, ho⟩ := qm_b2e ho
  refine qm_Ret.call (X := wX0_strengthIn [qm_r 0 0 a0, qm_i r2, qm_i r4] h3) (o1 := (some (qm_i r6), h5)) (qm_mp (G := qm_Gi) hr) rfl ?_
  show qm_Ret _ (14, [some (qm_r 0 0 a0), some (qm_i x1)], [qm_i r6], h5) _
  cases ho
  exact qm_Ret.ret 1 rfl
theorem cX0_strengthOf_ok : ∀ q ∈ ([(52, 0, 2, wX0_rowOf), (56, 0, 2, wX0_columnOf), (59, 0, 3, wX0_strengthIn)] : List (Nat × Nat × Nat × qm_C)), qm_CallOK RX0 2 46 q.2.1 q.1 q.2.2.1 q.2.2.2 := List.forall_mem_cons.mpr ⟨Or.inl ⟨yX0_rowOf, cX0_rowOf, 2, (some .int), 0, 0, _, sX0_rowOf, ⟨by decide, by decide⟩, ⟨jX0_rowOf, kRX0_52, uRX0⟩, ⟨by decide, by decide, rfl⟩, Or.inl ⟨rfl, rfl, iX0_rowOf, recvX0_rowOf⟩⟩, List.forall_mem_cons.mpr ⟨Or.inl ⟨yX0_columnOf, cX0_columnOf, 2, (some .int), 0, 0, _, sX0_columnOf, ⟨by decide, by decide⟩, ⟨jX0_columnOf, kRX0_56, uRX0⟩, ⟨by decide, by decide, rfl⟩, Or.inl ⟨rfl, rfl, iX0_columnOf, recvX0_columnOf⟩⟩, List.forall_mem_cons.mpr ⟨Or.inl ⟨yX0_strengthIn, cX0_strengthIn, 6, (some .int), 1, 21, _, sX0_strengthIn, ⟨by decide, by decide⟩, ⟨jX0_strengthIn, kRX0_59, uRX0⟩, ⟨by decide, by decide, rfl⟩, Or.inl ⟨rfl, rfl, iX0_strengthIn, recvX0_strengthIn⟩⟩, fun _ h => absurd h List.not_mem_nil⟩⟩⟩
theorem sX0_strengthOf : qm_Snd yX0_strengthOf cX0_strengthOf 2 (some .int) 2 46 wX0_strengthOf := qm_met (fld := fun k => qm_lk k pfRX0) (con := fun k => qm_lk k pcRX0) (call := fun k => qm_lk k [(52, 0, 2, wX0_rowOf), (56, 0, 2, wX0_columnOf), (59, 0, 3, wX0_strengthIn)]) (tab := qm_tab aX0_strengthOf) (plainFor_of_name (by decide)) (qm_fld_ok pfRX0_ok) (qm_con_ok pcRX0_ok) (fun idx kd n f hc => cX0_strengthOf_ok (idx, kd, n, f) (qm_lk_mem hc)) (qm_tab_ok aX0_strengthOf_ok) (fun vs h o hw => by
  unfold wX0_strengthOf at hw
  split at hw
  · obtain ⟨r, hr, rfl⟩ := Option.map_eq_some_iff.mp hw
    exact ⟨Nat.le_of_ble_eq_true rfl, rX0_strengthOf_0 (hr)⟩
  · cases hw)
theorem recvX0_strengthOf : ∀ vs h o, wX0_strengthOf vs h = some o → ∃ ci a rest, vs = qm_r 0 ci a :: rest ∧ qm_R ci = yX0_strengthOf.cls := by
  intro vs h o hw
  unfold wX0_strengthOf at hw
  split at hw
  · exact ⟨_, _, _, rfl, rfl⟩
  · cases hw
-- RX0 strengthOfRectangle(III)I
theorem jX0_strengthOfRectangle : Jvm.Cond.code yX0_strengthOfRectangle cX0_strengthOfRectangle 9 (some .int) ∈ qm_all := List.mem_filter.mpr ⟨by decide +kernel, rfl⟩
theorem iX0_strengthOfRectangle : Jvm.Cond.instanceMethod yX0_strengthOfRectangle ∈ qm_all ∧ Jvm.Cond.selects yX0_strengthOfRectangle.cls yX0_strengthOfRectangle yX0_strengthOfRectangle ∈ qm_all := ⟨List.mem_filter.mpr ⟨by decide +kernel, rfl⟩, List.mem_filter.mpr ⟨by decide +kernel, rfl⟩⟩
def wX0_strengthOfRectangle : qm_C := fun vs h => match vs with
  | [.inr (.inr (some (0, 0, p0))), .inl p1, .inl p2, .inl p3] => (qX0_strengthOfRectangle p0 p1 p2 p3 h).map qm_Gi
  | _ => none
def aX0_strengthOfRectangle : List (Option (Instr × Nat)) := [some (.aload_n 0, 1), some (.iload_n 1, 1), some (.invokevirtual 52, 3), none, none, some (.istore 4, 2), none, some (.aload_n 0, 1), some (.iload_n 1, 1), some (.invokevirtual 56, 3), none, none, some (.istore 5, 2), none, some (.iconst 0, 1), some (.istore 6, 2), none, some (.iload 4, 2), none, some (.istore 7, 2), none, some (.iload 7, 2), none, some (.iload 4, 2), none, some (.iload_n 3, 1), some (.iadd, 1), some (.if_icmp .ge 41, 3), none, none, some (.iload 5, 2), none, some (.istore 8, 2), none, some (.iload 8, 2), none, some (.iload 5, 2), none, some (.iload_n 2, 1), some (.iadd, 1), some (.if_icmp .ge 22, 3), none, none, some (.iload 6, 2), none, some (.aload_n 0, 1), some (.iload 7, 2), none, some (.iload 8, 2), none, some (.invokevirtual 59, 3), none, none, some (.iadd, 1), some (.istore 6, 2), none, some (.iinc 8 1, 3), none, none, some (.goto (-25), 3), none, none, some (.iinc 7 1, 3), none, none, some (.goto (-44), 3), none, none, some (.iload 6, 2), none, some (.ireturn, 1)]
theorem aX0_strengthOfRectangle_ok : qm_tabok cX0_strengthOfRectangle aX0_strengthOfRectangle = true := by decide +kernel
def mX0_strengthOfRectangle : qm_M := ((some .int), (fun k => qm_lk k pfRX0), (fun k => qm_lk k pcRX0), (fun k => qm_lk k [(59, 0, 3, wX0_strengthIn), (52, 0, 2, wX0_rowOf), (56, 0, 2, wX0_columnOf)]), qm_tab aX0_strengthOfRectangle)
set_option maxRecDepth 20000 in
set_option maxHeartbeats 2000000 in
theorem rX0_strengthOfRectangle_34 {K21 : Nat → Int32 → Int32 → Int32 → Int32 → Int32 → Int32 → qm_H → Option (Int32 × qm_H)} (H21 : ∀ {a0 : Nat} {x2 : Int32} {x3 : Int32} {x4 : Int32} {x5 : Int32} {x6 : Int32} {x7 : Int32} {xd1 : Int32} {d8 : Option qm_V} {h : qm_H} {r : Int32 × qm_H}, K21 a0 x2 x3 x4 x5 x6 x7 h = some r → qm_Ret mX0_strengthOfRectangle (21, [some (qm_r 0 0 a0), some (qm_i xd1), some (qm_i x2), some (qm_i x3), some (qm_i x4), some (qm_i x5), some (qm_i x6), some (qm_i x7), d8], [], h) (qm_Gi r)) : ∀ {fuel : Nat} {a0 : Nat} {x2 : Int32} {x3 : Int32} {x4 : Int32} {x5 : Int32} {x6 : Int32} {x7 : Int32} {x8 : Int32} {xd1 : Int32} {h : qm_H} {r : Int32 × qm_H}, qX0_strengthOfRectangle_34 K21 fuel a0 x2 x3 x4 x5 x6 x7 x8 h = some r → qm_Ret mX0_strengthOfRectangle (34, [some (qm_r 0 0 a0), some (qm_i xd1), some (qm_i x2), some (qm_i x3), some (qm_i x4), some (qm_i x5), some (qm_i x6), some (qm_i x7), some (qm_i x8)], [], h) (qm_Gi r) := by
  intro fuel
  induction fuel with
  | zero => intros; rename_i ho; cases ho
  | succ n ih =>
    intro a0 x2 x3 x4 x5 x6 x7 x8 xd1 h r ho
    unfold qX0_strengthOfRectangle_34 at ho
    refine qm_Ret.sts 4 (f' := (40, [some (qm_r 0 0 a0), some (qm_i xd1), some (qm_i x2), some (qm_i x3), some (qm_i x4), some (qm_i x5), some (qm_i x6), some (qm_i x7), some (qm_i x8)], [qm_i (x5 + x2), qm_i x8], h)) rfl ?_
    refine qm_Ret.ge (t := 62) (e := 43) rfl (fun hc => ?_) (fun hc => ?_)
    · rw [if_pos hc] at ho
      refine qm_Ret.sts 4 (f' := (50, [some (qm_r 0 0 a0), some (qm_i xd1), some (qm_i x2), some (qm_i x3), some (qm_i x4), some (qm_i x5), some (qm_i x6), some (qm_i x7), some (qm_i x8)], [qm_i x8, qm_i x7, qm_r 0 0 a0, qm_i x6], h)) rfl ?_
      obtain ⟨r2, h1, hr, ho⟩ := qm_b2e ho
      refine qm_Ret.call (X := wX0_strengthIn [qm_r 0 0 a0, qm_i x7, qm_i x8] h) (o1 := (some (qm_i r2), h1)) (qm_mp (G := qm_Gi) hr) rfl ?_
      show qm_Ret _ (53, [some (qm_r 0 0 a0), some (qm_i xd1), some (qm_i x2), some (qm_i x3), some (qm_i x4), some (qm_i x5), some (qm_i x6), some (qm_i x7), some (qm_i x8)], [qm_i r2, qm_i x6], h1) _
      refine qm_Ret.sts 4 (f' := (34, [some (qm_r 0 0 a0), some (qm_i xd1), some (qm_i x2), some (qm_i x3), some (qm_i x4), some (qm_i x5), some (qm_i (x6 + r2)), some (qm_i x7), some (qm_i (x8 + (1 : Int32)))], [], h1)) rfl ?_
      exact ih ho
    · rw [if_neg hc] at ho
      refine qm_Ret.sts 2 (f' := (21, [some (qm_r 0 0 a0), some (qm_i xd1), some (qm_i x2), some (qm_i x3), some (qm_i x4), some (qm_i x5), some (qm_i x6), some (qm_i (x7 + (1 : Int32))), some (qm_i x8)], [], h)) rfl ?_
      exact H21 ho
set_option maxRecDepth 20000 in
set_option maxHeartbeats 2000000 in
theorem rX0_strengthOfRectangle_21   : ∀ {fuel : Nat} {a0 : Nat} {x2 : Int32} {x3 : Int32} {x4 : Int32} {x5 : Int32} {x6 : Int32} {x7 : Int32} {xd1 : Int32} {d8 : Option qm_V} {h : qm_H} {r : Int32 × qm_H}, qX0_strengthOfRectangle_21  fuel a0 x2 x3 x4 x5 x6 x7 h = some r → qm_Ret mX0_strengthOfRectangle (21, [some (qm_r 0 0 a0), some (qm_i xd1), some (qm_i x2), some (qm_i x3), some (qm_i x4), some (qm_i x5), some (qm_i x6), some (qm_i x7), d8], [], h) (qm_Gi r) := by
  intro fuel
  induction fuel with
  | zero => intros; rename_i ho; cases ho
  | succ n ih =>
    intro a0 x2 x3 x4 x5 x6 x7 xd1 d8 h r ho
    unfold qX0_strengthOfRectangle_21 at ho
    refine qm_Ret.sts 4 (f' := (27, [some (qm_r 0 0 a0), some (qm_i xd1), some (qm_i x2), some (qm_i x3), some (qm_i x4), some (qm_i x5), some (qm_i x6), some (qm_i x7), d8], [qm_i (x4 + x3), qm_i x7], h)) rfl ?_
    refine qm_Ret.ge (t := 68) (e := 30) rfl (fun hc => ?_) (fun hc => ?_)
    · rw [if_pos hc] at ho
      refine qm_Ret.sts 2 (f' := (34, [some (qm_r 0 0 a0), some (qm_i xd1), some (qm_i x2), some (qm_i x3), some (qm_i x4), some (qm_i x5), some (qm_i x6), some (qm_i x7), some (qm_i x5)], [], h)) rfl ?_
      exact rX0_strengthOfRectangle_34 (ih) ho
    · rw [if_neg hc] at ho
      cases ho
      exact qm_Ret.ret 2 rfl
set_option maxRecDepth 20000 in
set_option maxHeartbeats 2000000 in
theorem rX0_strengthOfRectangle_0   {a0 : Nat} {x1 : Int32} {x2 : Int32} {x3 : Int32} {h : qm_H} {r : Int32 × qm_H} (ho : qX0_strengthOfRectangle  a0 x1 x2 x3 h = some r) : qm_Ret mX0_strengthOfRectangle (0, [some (qm_r 0 0 a0), some (qm_i x1), some (qm_i x2), some (qm_i x3), none, none, none, none, none], [], h) (qm_Gi r) := by
  unfold qX0_strengthOfRectangle at ho
  refine qm_Ret.sts 2 (f' := (2, [some (qm_r 0 0 a0), some (qm_i x1), some (qm_i x2), some (qm_i x3), none, none, none, none, none], [qm_i x1, qm_r 0 0 a0], h)) rfl ?_
  obtain ⟨r2, h1, hr, ho⟩ := qm_b2e ho
  refine qm_Ret.call (X := wX0_rowOf [qm_r 0 0 a0, qm_i x1] h) (o1 := (some (qm_i r2), h1)) (qm_mp (G := qm_Gi) hr) rfl ?_
  show qm_Ret _ (5, [some (qm_r 0 0 a0), some (qm_i x1), some (qm_i x2), some (qm_i x3), none, none, none, none, none], [qm_i r2], h1) _
  refine qm_Ret.sts 3 (f' := (9, [some (qm_r 0 0 a0), some (qm_i x1), some (qm_i x2), some (qm_i x3), some (qm_i r2), none, none, none, none], [qm_i x1, qm_r 0 0 a0], h1)) rfl ?_
  obtain ⟨r4, h3, hr, ho⟩ := qm_b2e ho
  refine qm_Ret.call (X := wX0_columnOf [qm_r 0 0 a0, qm_i x1] h1) (o1 := (some (qm_i r4), h3)) (qm_mp (G := qm_Gi) hr) rfl ?_
  show qm_Ret _ (12, [some (qm_r 0 0 a0), some (qm_i x1), some (qm_i x2), some (qm_i x3), some (qm_i r2), none, none, none, none], [qm_i r4], h3) _
  refine qm_Ret.sts 5 (f' := (21, [some (qm_r 0 0 a0), some (qm_i x1), some (qm_i x2), some (qm_i x3), some (qm_i r2), some (qm_i r4), some (qm_i (0 : Int32)), some (qm_i r2), none], [], h3)) rfl ?_
  exact rX0_strengthOfRectangle_21 ho
theorem cX0_strengthOfRectangle_ok : ∀ q ∈ ([(59, 0, 3, wX0_strengthIn), (52, 0, 2, wX0_rowOf), (56, 0, 2, wX0_columnOf)] : List (Nat × Nat × Nat × qm_C)), qm_CallOK RX0 2 46 q.2.1 q.1 q.2.2.1 q.2.2.2 := List.forall_mem_cons.mpr ⟨Or.inl ⟨yX0_strengthIn, cX0_strengthIn, 6, (some .int), 1, 21, _, sX0_strengthIn, ⟨by decide, by decide⟩, ⟨jX0_strengthIn, kRX0_59, uRX0⟩, ⟨by decide, by decide, rfl⟩, Or.inl ⟨rfl, rfl, iX0_strengthIn, recvX0_strengthIn⟩⟩, List.forall_mem_cons.mpr ⟨Or.inl ⟨yX0_rowOf, cX0_rowOf, 2, (some .int), 0, 0, _, sX0_rowOf, ⟨by decide, by decide⟩, ⟨jX0_rowOf, kRX0_52, uRX0⟩, ⟨by decide, by decide, rfl⟩, Or.inl ⟨rfl, rfl, iX0_rowOf, recvX0_rowOf⟩⟩, List.forall_mem_cons.mpr ⟨Or.inl ⟨yX0_columnOf, cX0_columnOf, 2, (some .int), 0, 0, _, sX0_columnOf, ⟨by decide, by decide⟩, ⟨jX0_columnOf, kRX0_56, uRX0⟩, ⟨by decide, by decide, rfl⟩, Or.inl ⟨rfl, rfl, iX0_columnOf, recvX0_columnOf⟩⟩, fun _ h => absurd h List.not_mem_nil⟩⟩⟩
theorem sX0_strengthOfRectangle : qm_Snd yX0_strengthOfRectangle cX0_strengthOfRectangle 9 (some .int) 2 46 wX0_strengthOfRectangle := qm_met (fld := fun k => qm_lk k pfRX0) (con := fun k => qm_lk k pcRX0) (call := fun k => qm_lk k [(59, 0, 3, wX0_strengthIn), (52, 0, 2, wX0_rowOf), (56, 0, 2, wX0_columnOf)]) (tab := qm_tab aX0_strengthOfRectangle) (plainFor_of_name (by decide)) (qm_fld_ok pfRX0_ok) (qm_con_ok pcRX0_ok) (fun idx kd n f hc => cX0_strengthOfRectangle_ok (idx, kd, n, f) (qm_lk_mem hc)) (qm_tab_ok aX0_strengthOfRectangle_ok) (fun vs h o hw => by
  unfold wX0_strengthOfRectangle at hw
  split at hw
  · obtain ⟨r, hr, rfl⟩ := Option.map_eq_some_iff.mp hw
    exact ⟨Nat.le_of_ble_eq_true rfl, rX0_strengthOfRectangle_0 (hr)⟩
  · cases hw)
theorem recvX0_strengthOfRectangle : ∀ vs h o, wX0_strengthOfRectangle vs h = some o → ∃ ci a rest, vs = qm_r 0 ci a :: rest ∧ qm_R ci = yX0_strengthOfRectangle.cls := by
  intro vs h o hw
  unfold wX0_strengthOfRectangle at hw
  split at hw
  · exact ⟨_, _, _, rfl, rfl⟩
  · cases hw
-- RX0 strengthOfAll()I
theorem jX0_strengthOfAll : Jvm.Cond.code yX0_strengthOfAll cX0_strengthOfAll 1 (some .int) ∈ qm_all := List.mem_filter.mpr ⟨by decide +kernel, rfl⟩
theorem iX0_strengthOfAll : Jvm.Cond.instanceMethod yX0_strengthOfAll ∈ qm_all ∧ Jvm.Cond.selects yX0_strengthOfAll.cls yX0_strengthOfAll yX0_strengthOfAll ∈ qm_all := ⟨List.mem_filter.mpr ⟨by decide +kernel, rfl⟩, List.mem_filter.mpr ⟨by decide +kernel, rfl⟩⟩
def wX0_strengthOfAll : qm_C := fun vs h => match vs with
  | [.inr (.inr (some (0, 0, p0)))] => (qX0_strengthOfAll p0 h).map qm_Gi
  | _ => none
def aX0_strengthOfAll : List (Option (Instr × Nat)) := [some (.aload_n 0, 1), some (.iconst 0, 1), some (.aload_n 0, 1), some (.getfield 21, 3), none, none, some (.aload_n 0, 1), some (.getfield 25, 3), none, none, some (.invokevirtual 62, 3), none, none, some (.ireturn, 1)]
theorem aX0_strengthOfAll_ok : qm_tabok cX0_strengthOfAll aX0_strengthOfAll = true := by decide +kernel
def mX0_strengthOfAll : qm_M := ((some .int), (fun k => qm_lk k pfRX0), (fun k => qm_lk k pcRX0), (fun k => qm_lk k [(62, 0, 4, wX0_strengthOfRectangle)]), qm_tab aX0_strengthOfAll)
set_option maxRecDepth 20000 in
set_option maxHeartbeats 2000000 in
theorem rX0_strengthOfAll_0   {a0 : Nat} {h : qm_H} {r : Int32 × qm_H} (ho : qX0_strengthOfAll  a0 h = some r) : qm_Ret mX0_strengthOfAll (0, [some (qm_r 0 0 a0)], [], h) (qm_Gi r) := by
  unfold qX0_strengthOfAll at ho
  refine qm_Ret.sts 6 (f' := (10, [some (qm_r 0 0 a0)], [qm_i (h.1 a0 4), qm_i (h.1 a0 3), qm_i (0 : Int32), qm_r 0 0 a0], h)) rfl ?_
  obtain ⟨r2, h1, hr, ho⟩ := qm_b2e ho
  refine qm_Ret.call (X := wX0_strengthOfRectangle [qm_r 0 0 a0, qm_i (0 : Int32), qm_i (h.1 a0 3), qm_i (h.1 a0 4)] h) (o1 := (some (qm_i r2), h1)) (qm_mp (G := qm_Gi) hr) rfl ?_
  show qm_Ret _ (13, [some (qm_r 0 0 a0)], [qm_i r2], h1) _
  cases ho
  exact qm_Ret.ret 1 rfl
theorem cX0_strengthOfAll_ok : ∀ q ∈ ([(62, 0, 4, wX0_strengthOfRectangle)] : List (Nat × Nat × Nat × qm_C)), qm_CallOK RX0 3 74 q.2.1 q.1 q.2.2.1 q.2.2.2 := List.forall_mem_cons.mpr ⟨Or.inl ⟨yX0_strengthOfRectangle, cX0_strengthOfRectangle, 9, (some .int), 2, 46, _, sX0_strengthOfRectangle, ⟨by decide, by decide⟩, ⟨jX0_strengthOfRectangle, kRX0_62, uRX0⟩, ⟨by decide, by decide, rfl⟩, Or.inl ⟨rfl, rfl, iX0_strengthOfRectangle, recvX0_strengthOfRectangle⟩⟩, fun _ h => absurd h List.not_mem_nil⟩
theorem sX0_strengthOfAll : qm_Snd yX0_strengthOfAll cX0_strengthOfAll 1 (some .int) 3 74 wX0_strengthOfAll := qm_met (fld := fun k => qm_lk k pfRX0) (con := fun k => qm_lk k pcRX0) (call := fun k => qm_lk k [(62, 0, 4, wX0_strengthOfRectangle)]) (tab := qm_tab aX0_strengthOfAll) (plainFor_of_name (by decide)) (qm_fld_ok pfRX0_ok) (qm_con_ok pcRX0_ok) (fun idx kd n f hc => cX0_strengthOfAll_ok (idx, kd, n, f) (qm_lk_mem hc)) (qm_tab_ok aX0_strengthOfAll_ok) (fun vs h o hw => by
  unfold wX0_strengthOfAll at hw
  split at hw
  · obtain ⟨r, hr, rfl⟩ := Option.map_eq_some_iff.mp hw
    exact ⟨Nat.le_of_ble_eq_true rfl, rX0_strengthOfAll_0 (hr)⟩
  · cases hw)
theorem recvX0_strengthOfAll : ∀ vs h o, wX0_strengthOfAll vs h = some o → ∃ ci a rest, vs = qm_r 0 ci a :: rest ∧ qm_R ci = yX0_strengthOfAll.cls := by
  intro vs h o hw
  unfold wX0_strengthOfAll at hw
  split at hw
  · exact ⟨_, _, _, rfl, rfl⟩
  · cases hw
-- RX0 part(I)I
theorem jX0_part : Jvm.Cond.code yX0_part cX0_part 5 (some .int) ∈ qm_all := List.mem_filter.mpr ⟨by decide +kernel, rfl⟩
theorem iX0_part : Jvm.Cond.instanceMethod yX0_part ∈ qm_all ∧ Jvm.Cond.selects yX0_part.cls yX0_part yX0_part ∈ qm_all := ⟨List.mem_filter.mpr ⟨by decide +kernel, rfl⟩, List.mem_filter.mpr ⟨by decide +kernel, rfl⟩⟩
def wX0_part : qm_C := fun vs h => match vs with
  | [.inr (.inr (some (0, 0, p0))), .inl p1] => (qX0_part p0 p1 h).map qm_Gi
  | _ => none
def aX0_part : List (Option (Instr × Nat)) := [some (.iload_n 1, 1), some (.bipush 100, 2), none, some (.if_icmp .lt 46, 3), none, none, some (.iload_n 1, 1), some (.bipush 100, 2), none, some (.isub, 1), some (.istore_n 2, 1), some (.aload_n 0, 1), some (.iload_n 2, 1), some (.invokevirtual 66, 3), none, none, some (.ifCond .ne 6, 3), none, none, some (.bipush (-2), 2), none, some (.ireturn, 1), some (.aload_n 0, 1), some (.aload_n 0, 1), some (.iload_n 2, 1), some (.invokevirtual 52, 3), none, none, some (.aload_n 0, 1), some (.iload_n 2, 1), some (.invokevirtual 56, 3), none, none, some (.invokevirtual 70, 3), none, none, some (.ifCond .eq 7, 3), none, none, some (.iconst (-1), 1), some (.goto 8, 3), none, none, some (.aload_n 0, 1), some (.iload_n 2, 1), some (.invokevirtual 74, 3), none, none, some (.ireturn, 1), some (.iload_n 1, 1), some (.bipush 10, 2), none, some (.if_icmp .lt 9, 3), none, none, some (.iload_n 1, 1), some (.bipush 50, 2), none, some (.if_icmp .lt 6, 3), none, none, some (.bipush (-2), 2), none, some (.ireturn, 1), some (.iload_n 1, 1), some (.bipush 10, 2), none, some (.irem, 1), some (.istore_n 2, 1), some (.iload_n 1, 1), some (.bipush 30, 2), none, some (.if_icmp .ge 7, 3), none, none, some (.iconst 0, 1), some (.goto 4, 3), none, none, some (.iconst 1, 1), some (.istore_n 3, 1), some (.aload_n 0, 1), some (.iload_n 3, 1), some (.iload_n 2, 1), some (.invokevirtual 77, 3), none, none, some (.ifCond .eq 9, 3), none, none, some (.iload_n 2, 1), some (.bipush 8, 2), none, some (.if_icmp .lt 6, 3), none, none, some (.bipush (-2), 2), none, some (.ireturn, 1), some (.iload_n 1, 1), some (.bipush 10, 2), none, some (.idiv, 1), some (.iconst 2, 1), some (.irem, 1), some (.iconst 1, 1), some (.if_icmp .ne 7, 3), none, none, some (.iconst 1, 1), some (.goto 4, 3), none, none, some (.iconst 0, 1), some (.istore 4, 2), none, some (.iload 4, 2), none, some (.ifCond .eq 17, 3), none, none, some (.aload_n 0, 1), some (.getfield 9, 3), none, none, some (.bipush 8, 2), none, some (.iload_n 3, 1), some (.imul, 1), some (.iload_n 2, 1), some (.iadd, 1), some (.iaload, 1), some (.goto 14, 3), none, none, some (.aload_n 0, 1), some (.getfield 15, 3), none, none, some (.bipush 8, 2), none, some (.iload_n 3, 1), some (.imul, 1), some (.iload_n 2, 1), some (.iadd, 1), some (.iaload, 1), some (.ireturn, 1)]
theorem aX0_part_ok : qm_tabok cX0_part aX0_part = true := by decide +kernel
def mX0_part : qm_M := ((some .int), (fun k => qm_lk k pfRX0), (fun k => qm_lk k pcRX0), (fun k => qm_lk k [(77, 0, 3, wX0_hasTwig), (66, 0, 2, wX0_hasStroke), (52, 0, 2, wX0_rowOf), (56, 0, 2, wX0_columnOf), (70, 0, 3, wX0_isOpen), (74, 0, 2, wX0_strengthOf)]), qm_tab aX0_part)
set_option maxRecDepth 20000 in
set_option maxHeartbeats 2000000 in
theorem rX0_part_114   {a0 : Nat} {x2 : Int32} {x3 : Int32} {xs0 : Int32} {xd1 : Int32} {h : qm_H} {r : Int32 × qm_H} (ho : qX0_part_114  a0 x2 x3 xs0 h = some r) : qm_Ret mX0_part (114, [some (qm_r 0 0 a0), some (qm_i xd1), some (qm_i x2), some (qm_i x3), none], [qm_i xs0], h) (qm_Gi r) := by
  unfold qX0_part_114 at ho
  refine qm_Ret.sts 2 (f' := (118, [some (qm_r 0 0 a0), some (qm_i xd1), some (qm_i x2), some (qm_i x3), some (qm_i xs0)], [qm_i xs0], h)) rfl ?_
  refine qm_Ret.eq (t := 135) (e := 121) rfl (fun hc => ?_) (fun hc => ?_)
  · rw [if_pos hc] at ho
    refine qm_Ret.sts 7 (f' := (145, [some (qm_r 0 0 a0), some (qm_i xd1), some (qm_i x2), some (qm_i x3), some (qm_i xs0)], [qm_i (((8 : Int32) * x3) + x2), qm_r 1 16 (a0 + 2)], h)) rfl ?_
    obtain ⟨hg, ho⟩ := qm_ifn ho
    refine qm_Ret.gn (f1 := (146, [some (qm_r 0 0 a0), some (qm_i xd1), some (qm_i x2), some (qm_i x3), some (qm_i xs0)], [qm_i (h.1 (a0 + 2) (((8 : Int32) * x3) + x2).toNatClampNeg)], h)) hg rfl ?_
    cases ho
    exact qm_Ret.ret 1 rfl
  · rw [if_neg hc] at ho
    refine qm_Ret.sts 7 (f' := (131, [some (qm_r 0 0 a0), some (qm_i xd1), some (qm_i x2), some (qm_i x3), some (qm_i xs0)], [qm_i (((8 : Int32) * x3) + x2), qm_r 1 16 (a0 + 1)], h)) rfl ?_
    obtain ⟨hg, ho⟩ := qm_ifn ho
    refine qm_Ret.gn (f1 := (132, [some (qm_r 0 0 a0), some (qm_i xd1), some (qm_i x2), some (qm_i x3), some (qm_i xs0)], [qm_i (h.1 (a0 + 1) (((8 : Int32) * x3) + x2).toNatClampNeg)], h)) hg rfl ?_
    cases ho
    exact qm_Ret.ret 2 rfl
set_option maxRecDepth 20000 in
set_option maxHeartbeats 2000000 in
theorem rX0_part_80   {a0 : Nat} {x1 : Int32} {x2 : Int32} {xs0 : Int32} {h : qm_H} {r : Int32 × qm_H} (ho : qX0_part_80  a0 x1 x2 xs0 h = some r) : qm_Ret mX0_part (80, [some (qm_r 0 0 a0), some (qm_i x1), some (qm_i x2), none, none], [qm_i xs0], h) (qm_Gi r) := by
  unfold qX0_part_80 at ho
  refine qm_Ret.sts 4 (f' := (84, [some (qm_r 0 0 a0), some (qm_i x1), some (qm_i x2), some (qm_i xs0), none], [qm_i x2, qm_i xs0, qm_r 0 0 a0], h)) rfl ?_
  obtain ⟨r2, h1, hr, ho⟩ := qm_b2e ho
  refine qm_Ret.call (X := wX0_hasTwig [qm_r 0 0 a0, qm_i xs0, qm_i x2] h) (o1 := (some (qm_i r2), h1)) (qm_mp (G := qm_Gi) hr) rfl ?_
  show qm_Ret _ (87, [some (qm_r 0 0 a0), some (qm_i x1), some (qm_i x2), some (qm_i xs0), none], [qm_i r2], h1) _
  refine qm_Ret.eq (t := 96) (e := 90) rfl (fun hc => ?_) (fun hc => ?_)
  · rw [if_pos hc] at ho
    cases ho
    exact qm_Ret.ret 2 rfl
  · rw [if_neg hc] at ho
    refine qm_Ret.sts 2 (f' := (93, [some (qm_r 0 0 a0), some (qm_i x1), some (qm_i x2), some (qm_i xs0), none], [qm_i (8 : Int32), qm_i x2], h1)) rfl ?_
    refine qm_Ret.lt (t := 99) (e := 96) rfl (fun hc => ?_) (fun hc => ?_)
    · rw [if_pos hc] at ho
      refine qm_Ret.sts 6 (f' := (106, [some (qm_r 0 0 a0), some (qm_i x1), some (qm_i x2), some (qm_i xs0), none], [qm_i (1 : Int32), qm_i (qm_irem (x1 / (10 : Int32)) (2 : Int32))], h1)) rfl ?_
      refine qm_Ret.ne (t := 113) (e := 109) rfl (fun hc => ?_) (fun hc => ?_)
      · rw [if_pos hc] at ho
        refine qm_Ret.sts 2 (f' := (114, [some (qm_r 0 0 a0), some (qm_i x1), some (qm_i x2), some (qm_i xs0), none], [qm_i (1 : Int32)], h1)) rfl ?_
        exact rX0_part_114 ho
      · rw [if_neg hc] at ho
        refine qm_Ret.sts 1 (f' := (114, [some (qm_r 0 0 a0), some (qm_i x1), some (qm_i x2), some (qm_i xs0), none], [qm_i (0 : Int32)], h1)) rfl ?_
        exact rX0_part_114 ho
    · rw [if_neg hc] at ho
      cases ho
      exact qm_Ret.ret 2 rfl
set_option maxRecDepth 20000 in
set_option maxHeartbeats 2000000 in
theorem rX0_part_0   {a0 : Nat} {x1 : Int32} {h : qm_H} {r : Int32 × qm_H} (ho : qX0_part  a0 x1 h = some r) : qm_Ret mX0_part (0, [some (qm_r 0 0 a0), some (qm_i x1), none, none, none], [], h) (qm_Gi r) := by
  unfold qX0_part at ho
  refine qm_Ret.sts 2 (f' := (3, [some (qm_r 0 0 a0), some (qm_i x1), none, none, none], [qm_i (100 : Int32), qm_i x1], h)) rfl ?_
  refine qm_Ret.lt (t := 49) (e := 6) rfl (fun hc => ?_) (fun hc => ?_)
  · rw [if_pos hc] at ho
    refine qm_Ret.sts 2 (f' := (52, [some (qm_r 0 0 a0), some (qm_i x1), none, none, none], [qm_i (10 : Int32), qm_i x1], h)) rfl ?_
    refine qm_Ret.lt (t := 61) (e := 55) rfl (fun hc => ?_) (fun hc => ?_)
    · rw [if_pos hc] at ho
      cases ho
      exact qm_Ret.ret 2 rfl
    · rw [if_neg hc] at ho
      refine qm_Ret.sts 2 (f' := (58, [some (qm_r 0 0 a0), some (qm_i x1), none, none, none], [qm_i (50 : Int32), qm_i x1], h)) rfl ?_
      refine qm_Ret.lt (t := 64) (e := 61) rfl (fun hc => ?_) (fun hc => ?_)
      · rw [if_pos hc] at ho
        refine qm_Ret.sts 3 (f' := (68, [some (qm_r 0 0 a0), some (qm_i x1), none, none, none], [qm_i (qm_irem x1 (10 : Int32))], h)) rfl ?_
        refine qm_Ret.lets (F := fun v1 => (68, [some (qm_r 0 0 a0), some (qm_i x1), none, none, none], [qm_i v1], h)) (G := qm_Gi) ho (fun v1 ho => ?_)
        refine qm_Ret.sts 3 (f' := (72, [some (qm_r 0 0 a0), some (qm_i x1), some (qm_i v1), none, none], [qm_i (30 : Int32), qm_i x1], h)) rfl ?_
        refine qm_Ret.ge (t := 79) (e := 75) rfl (fun hc => ?_) (fun hc => ?_)
        · rw [if_pos hc] at ho
          refine qm_Ret.sts 2 (f' := (80, [some (qm_r 0 0 a0), some (qm_i x1), some (qm_i v1), none, none], [qm_i (0 : Int32)], h)) rfl ?_
          exact rX0_part_80 ho
        · rw [if_neg hc] at ho
          refine qm_Ret.sts 1 (f' := (80, [some (qm_r 0 0 a0), some (qm_i x1), some (qm_i v1), none, none], [qm_i (1 : Int32)], h)) rfl ?_
          exact rX0_part_80 ho
      · rw [if_neg hc] at ho
        cases ho
        exact qm_Ret.ret 2 rfl
  · rw [if_neg hc] at ho
    refine qm_Ret.sts 3 (f' := (10, [some (qm_r 0 0 a0), some (qm_i x1), none, none, none], [qm_i (x1 - (100 : Int32))], h)) rfl ?_
    refine qm_Ret.lets (F := fun v2 => (10, [some (qm_r 0 0 a0), some (qm_i x1), none, none, none], [qm_i v2], h)) (G := qm_Gi) ho (fun v2 ho => ?_)
    refine qm_Ret.sts 3 (f' := (13, [some (qm_r 0 0 a0), some (qm_i x1), some (qm_i v2), none, none], [qm_i v2, qm_r 0 0 a0], h)) rfl ?_
    obtain ⟨r4, h3, hr, ho⟩ := qm_b2e ho
    refine qm_Ret.call (X := wX0_hasStroke [qm_r 0 0 a0, qm_i v2] h) (o1 := (some (qm_i r4), h3)) (qm_mp (G := qm_Gi) hr) rfl ?_
    show qm_Ret _ (16, [some (qm_r 0 0 a0), some (qm_i x1), some (qm_i v2), none, none], [qm_i r4], h3) _
    refine qm_Ret.ne (t := 22) (e := 19) rfl (fun hc => ?_) (fun hc => ?_)
    · rw [if_pos hc] at ho
      cases ho
      exact qm_Ret.ret 2 rfl
    · rw [if_neg hc] at ho
      refine qm_Ret.sts 3 (f' := (25, [some (qm_r 0 0 a0), some (qm_i x1), some (qm_i v2), none, none], [qm_i v2, qm_r 0 0 a0, qm_r 0 0 a0], h3)) rfl ?_
      obtain ⟨r6, h5, hr, ho⟩ := qm_b2e ho
      refine qm_Ret.call (X := wX0_rowOf [qm_r 0 0 a0, qm_i v2] h3) (o1 := (some (qm_i r6), h5)) (qm_mp (G := qm_Gi) hr) rfl ?_
      show qm_Ret _ (28, [some (qm_r 0 0 a0), some (qm_i x1), some (qm_i v2), none, none], [qm_i r6, qm_r 0 0 a0], h5) _
      refine qm_Ret.sts 2 (f' := (30, [some (qm_r 0 0 a0), some (qm_i x1), some (qm_i v2), none, none], [qm_i v2, qm_r 0 0 a0, qm_i r6, qm_r 0 0 a0], h5)) rfl ?_
      obtain ⟨r8, h7, hr, ho⟩ := qm_b2e ho
      refine qm_Ret.call (X := wX0_columnOf [qm_r 0 0 a0, qm_i v2] h5) (o1 := (some (qm_i r8), h7)) (qm_mp (G := qm_Gi) hr) rfl ?_
      show qm_Ret _ (33, [some (qm_r 0 0 a0), some (qm_i x1), some (qm_i v2), none, none], [qm_i r8, qm_i r6, qm_r 0 0 a0], h7) _
      obtain ⟨r10, h9, hr, ho⟩ := qm_b2e ho
      refine qm_Ret.call (X := wX0_isOpen [qm_r 0 0 a0, qm_i r6, qm_i r8] h7) (o1 := (some (qm_i r10), h9)) (qm_mp (G := qm_Gi) hr) rfl ?_
      show qm_Ret _ (36, [some (qm_r 0 0 a0), some (qm_i x1), some (qm_i v2), none, none], [qm_i r10], h9) _
      refine qm_Ret.eq (t := 43) (e := 39) rfl (fun hc => ?_) (fun hc => ?_)
      · rw [if_pos hc] at ho
        refine qm_Ret.sts 2 (f' := (45, [some (qm_r 0 0 a0), some (qm_i x1), some (qm_i v2), none, none], [qm_i v2, qm_r 0 0 a0], h9)) rfl ?_
        obtain ⟨r12, h11, hr, ho⟩ := qm_b2e ho
        refine qm_Ret.call (X := wX0_strengthOf [qm_r 0 0 a0, qm_i v2] h9) (o1 := (some (qm_i r12), h11)) (qm_mp (G := qm_Gi) hr) rfl ?_
        show qm_Ret _ (48, [some (qm_r 0 0 a0), some (qm_i x1), some (qm_i v2), none, none], [qm_i r12], h11) _
        cases ho
        exact qm_Ret.ret 1 rfl
      · rw [if_neg hc] at ho
        cases ho
        exact qm_Ret.ret 3 rfl
theorem cX0_part_ok : ∀ q ∈ ([(77, 0, 3, wX0_hasTwig), (66, 0, 2, wX0_hasStroke), (52, 0, 2, wX0_rowOf), (56, 0, 2, wX0_columnOf), (70, 0, 3, wX0_isOpen), (74, 0, 2, wX0_strengthOf)] : List (Nat × Nat × Nat × qm_C)), qm_CallOK RX0 3 67 q.2.1 q.1 q.2.2.1 q.2.2.2 := List.forall_mem_cons.mpr ⟨Or.inl ⟨yX0_hasTwig, cX0_hasTwig, 3, (some .boolean), 0, 0, _, sX0_hasTwig, ⟨by decide, by decide⟩, ⟨jX0_hasTwig, kRX0_77, uRX0⟩, ⟨by decide, by decide, rfl⟩, Or.inl ⟨rfl, rfl, iX0_hasTwig, recvX0_hasTwig⟩⟩, List.forall_mem_cons.mpr ⟨Or.inl ⟨yX0_hasStroke, cX0_hasStroke, 2, (some .boolean), 0, 0, _, sX0_hasStroke, ⟨by decide, by decide⟩, ⟨jX0_hasStroke, kRX0_66, uRX0⟩, ⟨by decide, by decide, rfl⟩, Or.inl ⟨rfl, rfl, iX0_hasStroke, recvX0_hasStroke⟩⟩, List.forall_mem_cons.mpr ⟨Or.inl ⟨yX0_rowOf, cX0_rowOf, 2, (some .int), 0, 0, _, sX0_rowOf, ⟨by decide, by decide⟩, ⟨jX0_rowOf, kRX0_52, uRX0⟩, ⟨by decide, by decide, rfl⟩, Or.inl ⟨rfl, rfl, iX0_rowOf, recvX0_rowOf⟩⟩, List.forall_mem_cons.mpr ⟨Or.inl ⟨yX0_columnOf, cX0_columnOf, 2, (some .int), 0, 0, _, sX0_columnOf, ⟨by decide, by decide⟩, ⟨jX0_columnOf, kRX0_56, uRX0⟩, ⟨by decide, by decide, rfl⟩, Or.inl ⟨rfl, rfl, iX0_columnOf, recvX0_columnOf⟩⟩, List.forall_mem_cons.mpr ⟨Or.inl ⟨yX0_isOpen, cX0_isOpen, 3, (some .boolean), 1, 21, _, sX0_isOpen, ⟨by decide, by decide⟩, ⟨jX0_isOpen, kRX0_70, uRX0⟩, ⟨by decide, by decide, rfl⟩, Or.inl ⟨rfl, rfl, iX0_isOpen, recvX0_isOpen⟩⟩, List.forall_mem_cons.mpr ⟨Or.inl ⟨yX0_strengthOf, cX0_strengthOf, 2, (some .int), 2, 46, _, sX0_strengthOf, ⟨by decide, by decide⟩, ⟨jX0_strengthOf, kRX0_74, uRX0⟩, ⟨by decide, by decide, rfl⟩, Or.inl ⟨rfl, rfl, iX0_strengthOf, recvX0_strengthOf⟩⟩, fun _ h => absurd h List.not_mem_nil⟩⟩⟩⟩⟩⟩
theorem sX0_part : qm_Snd yX0_part cX0_part 5 (some .int) 3 67 wX0_part := qm_met (fld := fun k => qm_lk k pfRX0) (con := fun k => qm_lk k pcRX0) (call := fun k => qm_lk k [(77, 0, 3, wX0_hasTwig), (66, 0, 2, wX0_hasStroke), (52, 0, 2, wX0_rowOf), (56, 0, 2, wX0_columnOf), (70, 0, 3, wX0_isOpen), (74, 0, 2, wX0_strengthOf)]) (tab := qm_tab aX0_part) (plainFor_of_name (by decide)) (qm_fld_ok pfRX0_ok) (qm_con_ok pcRX0_ok) (fun idx kd n f hc => cX0_part_ok (idx, kd, n, f) (qm_lk_mem hc)) (qm_tab_ok aX0_part_ok) (fun vs h o hw => by
  unfold wX0_part at hw
  split at hw
  · obtain ⟨r, hr, rfl⟩ := Option.map_eq_some_iff.mp hw
    exact ⟨Nat.le_of_ble_eq_true rfl, rX0_part_0 (hr)⟩
  · cases hw)
theorem recvX0_part : ∀ vs h o, wX0_part vs h = some o → ∃ ci a rest, vs = qm_r 0 ci a :: rest ∧ qm_R ci = yX0_part.cls := by
  intro vs h o hw
  unfold wX0_part at hw
  split at hw
  · exact ⟨_, _, _, rfl, rfl⟩
  · cases hw
