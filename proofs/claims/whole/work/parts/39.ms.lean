-- RX8 isWord(Ljava/lang/String;)Z
theorem jX8_isWord : Jvm.Cond.code yX8_isWord cX8_isWord 3 (some .boolean) ∈ qm_all := List.mem_filter.mpr ⟨by decide +kernel, rfl⟩
theorem iX8_isWord : Jvm.Cond.instanceMethod yX8_isWord ∈ qm_all ∧ Jvm.Cond.selects yX8_isWord.cls yX8_isWord yX8_isWord ∈ qm_all := ⟨List.mem_filter.mpr ⟨by decide +kernel, rfl⟩, List.mem_filter.mpr ⟨by decide +kernel, rfl⟩⟩
def wX8_isWord : qm_C := fun vs h => match vs with
  | [.inr (.inr (some (0, 8, p0))), .inr (.inr (some (10, p1, 0)))] => (qX8_isWord p0 p1 h).map qm_Gi
  | _ => none
def aX8_isWord : List (Option (Instr × Nat)) := [some (.aload_n 0, 1), some (.getfield 36, 3), none, none, some (.iconst 1, 1), some (.if_icmp .ne 30, 3), none, none, some (.aload_n 1, 1), some (.invokevirtual 45, 3), none, none, some (.aload_n 0, 1), some (.getfield 23, 3), none, none, some (.aload_n 0, 1), some (.getfield 33, 3), none, none, some (.isub, 1), some (.if_icmp .ne 14, 3), none, none, some (.aload_n 0, 1), some (.getfield 23, 3), none, none, some (.aload_n 0, 1), some (.getfield 19, 3), none, none, some (.if_icmp .le 5, 3), none, none, some (.iconst 0, 1), some (.ireturn, 1), some (.iconst 0, 1), some (.istore_n 2, 1), some (.iload_n 2, 1), some (.aload_n 1, 1), some (.invokevirtual 45, 3), none, none, some (.if_icmp .ge 30, 3), none, none, some (.aload_n 1, 1), some (.iload_n 2, 1), some (.invokevirtual 50, 3), none, none, some (.aload_n 0, 1), some (.getfield 7, 3), none, none, some (.aload_n 0, 1), some (.getfield 33, 3), none, none, some (.iload_n 2, 1), some (.iadd, 1), some (.baload, 1), some (.if_icmp .eq 5, 3), none, none, some (.iconst 0, 1), some (.ireturn, 1), some (.iinc 2 1, 3), none, none, some (.goto (-32), 3), none, none, some (.iconst 1, 1), some (.ireturn, 1)]
theorem aX8_isWord_ok : qm_tabok cX8_isWord aX8_isWord = true := by decide +kernel
def mX8_isWord : qm_M := ((some .boolean), (fun k => qm_lk k pfRX8), (fun k => qm_lk k pcRX8), (fun k => qm_lk k [(45, 0, 1, wJ0_length_8abf5), (50, 0, 2, wJ0_charAt_5068e)]), qm_tab aX8_isWord)
set_option maxRecDepth 20000 in
set_option maxHeartbeats 2000000 in
theorem rX8_isWord_39   : ∀ {fuel : Nat} {a0 : Nat} {k1 : Nat} {x2 : Int32} {h : qm_H} {r : Int32 × qm_H}, qX8_isWord_39  fuel a0 k1 x2 h = some r → qm_Ret mX8_isWord (39, [some (qm_r 0 8 a0), some (qm_r 10 k1 0), some (qm_i x2)], [], h) (qm_Gi r) := by
  intro fuel
  induction fuel with
  | zero => intros; rename_i ho; cases ho
  | succ n ih =>
    intro a0 k1 x2 h r ho
    unfold qX8_isWord_39 at ho
    refine qm_Ret.sts 2 (f' := (41, [some (qm_r 0 8 a0), some (qm_r 10 k1 0), some (qm_i x2)], [qm_r 10 k1 0, qm_i x2], h)) rfl ?_
    obtain ⟨r2, h1, hr, ho⟩ := qm_b2e ho
    refine qm_Ret.call (X := wJ0_length_8abf5 [qm_r 10 k1 0] h) (o1 := (some (qm_i r2), h1)) (qm_mp (G := qm_Gi) hr) rfl ?_
    show qm_Ret _ (44, [some (qm_r 0 8 a0), some (qm_r 10 k1 0), some (qm_i x2)], [qm_i r2, qm_i x2], h1) _
    refine qm_Ret.ge (t := 74) (e := 47) rfl (fun hc => ?_) (fun hc => ?_)
    · rw [if_pos hc] at ho
      refine qm_Ret.sts 2 (f' := (49, [some (qm_r 0 8 a0), some (qm_r 10 k1 0), some (qm_i x2)], [qm_i x2, qm_r 10 k1 0], h1)) rfl ?_
      obtain ⟨r4, h3, hr, ho⟩ := qm_b2e ho
      refine qm_Ret.call (X := wJ0_charAt_5068e [qm_r 10 k1 0, qm_i x2] h1) (o1 := (some (qm_i r4), h3)) (qm_mp (G := qm_Gi) hr) rfl ?_
      show qm_Ret _ (52, [some (qm_r 0 8 a0), some (qm_r 10 k1 0), some (qm_i x2)], [qm_i r4], h3) _
      refine qm_Ret.sts 6 (f' := (62, [some (qm_r 0 8 a0), some (qm_r 10 k1 0), some (qm_i x2)], [qm_i ((h3.1 a0 3) + x2), qm_r 2 600 (a0 - 41), qm_i r4], h3)) rfl ?_
      obtain ⟨hg, ho⟩ := qm_ifn ho
      refine qm_Ret.gn (f1 := (63, [some (qm_r 0 8 a0), some (qm_r 10 k1 0), some (qm_i x2)], [qm_i (h3.1 (a0 - 41) ((h3.1 a0 3) + x2).toNatClampNeg), qm_i r4], h3)) hg rfl ?_
      refine qm_Ret.eq (t := 68) (e := 66) rfl (fun hc => ?_) (fun hc => ?_)
      · rw [if_pos hc] at ho
        refine qm_Ret.sts 2 (f' := (39, [some (qm_r 0 8 a0), some (qm_r 10 k1 0), some (qm_i (x2 + (1 : Int32)))], [], h3)) rfl ?_
        exact ih ho
      · rw [if_neg hc] at ho
        cases ho
        exact qm_Ret.ret 2 rfl
    · rw [if_neg hc] at ho
      cases ho
      exact qm_Ret.ret 2 rfl
set_option maxRecDepth 20000 in
set_option maxHeartbeats 2000000 in
theorem rX8_isWord_0   {a0 : Nat} {k1 : Nat} {h : qm_H} {r : Int32 × qm_H} (ho : qX8_isWord  a0 k1 h = some r) : qm_Ret mX8_isWord (0, [some (qm_r 0 8 a0), some (qm_r 10 k1 0), none], [], h) (qm_Gi r) := by
  unfold qX8_isWord at ho
  refine qm_Ret.sts 3 (f' := (5, [some (qm_r 0 8 a0), some (qm_r 10 k1 0), none], [qm_i (1 : Int32), qm_i (h.1 a0 2)], h)) rfl ?_
  refine qm_Ret.ne (t := 35) (e := 8) rfl (fun hc => ?_) (fun hc => ?_)
  · rw [if_pos hc] at ho
    refine qm_Ret.sts 1 (f' := (9, [some (qm_r 0 8 a0), some (qm_r 10 k1 0), none], [qm_r 10 k1 0], h)) rfl ?_
    obtain ⟨r2, h1, hr, ho⟩ := qm_b2e ho
    refine qm_Ret.call (X := wJ0_length_8abf5 [qm_r 10 k1 0] h) (o1 := (some (qm_i r2), h1)) (qm_mp (G := qm_Gi) hr) rfl ?_
    show qm_Ret _ (12, [some (qm_r 0 8 a0), some (qm_r 10 k1 0), none], [qm_i r2], h1) _
    refine qm_Ret.sts 5 (f' := (21, [some (qm_r 0 8 a0), some (qm_r 10 k1 0), none], [qm_i ((h1.1 a0 4) - (h1.1 a0 3)), qm_i r2], h1)) rfl ?_
    refine qm_Ret.ne (t := 35) (e := 24) rfl (fun hc => ?_) (fun hc => ?_)
    · rw [if_pos hc] at ho
      refine qm_Ret.sts 4 (f' := (32, [some (qm_r 0 8 a0), some (qm_r 10 k1 0), none], [qm_i (h1.1 a0 1), qm_i (h1.1 a0 4)], h1)) rfl ?_
      refine qm_Ret.le (t := 37) (e := 35) rfl (fun hc => ?_) (fun hc => ?_)
      · rw [if_pos hc] at ho
        cases ho
        exact qm_Ret.ret 2 rfl
      · rw [if_neg hc] at ho
        refine qm_Ret.sts 2 (f' := (39, [some (qm_r 0 8 a0), some (qm_r 10 k1 0), some (qm_i (0 : Int32))], [], h1)) rfl ?_
        exact rX8_isWord_39 ho
    · rw [if_neg hc] at ho
      cases ho
      exact qm_Ret.ret 2 rfl
  · rw [if_neg hc] at ho
    cases ho
    exact qm_Ret.ret 2 rfl
theorem cX8_isWord_ok : ∀ q ∈ ([(45, 0, 1, wJ0_length_8abf5), (50, 0, 2, wJ0_charAt_5068e)] : List (Nat × Nat × Nat × qm_C)), qm_CallOK RX8 4 85 q.2.1 q.1 q.2.2.1 q.2.2.2 := List.forall_mem_cons.mpr ⟨Or.inl ⟨yJ0_length_8abf5, cJ0_length_8abf5, 1, (some .int), 1, 20, _, sJ0_length_8abf5, ⟨by decide, by decide⟩, ⟨jJ0_length_8abf5, kRX8_45, uRJ0⟩, ⟨by decide, by decide, rfl⟩, Or.inr (Or.inr ⟨rfl, rfl, iJ0_length_8abf5, rfl, recvJ0_length_8abf5⟩)⟩, List.forall_mem_cons.mpr ⟨Or.inl ⟨yJ0_charAt_5068e, cJ0_charAt_5068e, 2, (some .char), 3, 64, _, sJ0_charAt_5068e, ⟨by decide, by decide⟩, ⟨jJ0_charAt_5068e, kRX8_50, uRJ0⟩, ⟨by decide, by decide, rfl⟩, Or.inr (Or.inr ⟨rfl, rfl, iJ0_charAt_5068e, rfl, recvJ0_charAt_5068e⟩)⟩, fun _ h => absurd h List.not_mem_nil⟩⟩
theorem sX8_isWord : qm_Snd yX8_isWord cX8_isWord 3 (some .boolean) 4 85 wX8_isWord := qm_met (fld := fun k => qm_lk k pfRX8) (con := fun k => qm_lk k pcRX8) (call := fun k => qm_lk k [(45, 0, 1, wJ0_length_8abf5), (50, 0, 2, wJ0_charAt_5068e)]) (tab := qm_tab aX8_isWord) (plainFor_of_name (by decide)) (qm_fld_ok pfRX8_ok) (qm_con_ok pcRX8_ok) (fun idx kd n f hc => cX8_isWord_ok (idx, kd, n, f) (qm_lk_mem hc)) (qm_tab_ok aX8_isWord_ok) (fun vs h o hw => by
  unfold wX8_isWord at hw
  split at hw
  · obtain ⟨r, hr, rfl⟩ := Option.map_eq_some_iff.mp hw
    exact ⟨Nat.le_of_ble_eq_true rfl, rX8_isWord_0 (hr)⟩
  · cases hw)
theorem recvX8_isWord : ∀ vs h o, wX8_isWord vs h = some o → ∃ ci a rest, vs = qm_r 0 ci a :: rest ∧ qm_R ci = yX8_isWord.cls := by
  intro vs h o hw
  unfold wX8_isWord at hw
  split at hw
  · exact ⟨_, _, _, rfl, rfl⟩
  · cases hw
-- RX3 readWord(Ljava/lang/String;)Z
theorem jX3_readWord : Jvm.Cond.code yX3_readWord cX3_readWord 2 (some .boolean) ∈ qm_all := List.mem_filter.mpr ⟨by decide +kernel, rfl⟩
theorem iX3_readWord : Jvm.Cond.instanceMethod yX3_readWord ∈ qm_all ∧ Jvm.Cond.selects yX3_readWord.cls yX3_readWord yX3_readWord ∈ qm_all := ⟨List.mem_filter.mpr ⟨by decide +kernel, rfl⟩, List.mem_filter.mpr ⟨by decide +kernel, rfl⟩⟩
def wX3_readWord : qm_C := fun vs h => match vs with
  | [.inr (.inr (some (0, 3, p0))), .inr (.inr (some (10, p1, 0)))] => (qX3_readWord p0 p1 h).map qm_Gi
  | _ => none
def aX3_readWord : List (Option (Instr × Nat)) := [some (.aload_n 0, 1), some (.invokevirtual 72, 3), none, none, some (.ifCond .eq 14, 3), none, none, some (.aload_n 0, 1), some (.getfield 44, 3), none, none, some (.aload_n 1, 1), some (.invokevirtual 211, 3), none, none, some (.ifCond .ne 5, 3), none, none, some (.iconst 0, 1), some (.ireturn, 1), some (.aload_n 0, 1), some (.getfield 44, 3), none, none, some (.invokevirtual 214, 3), none, none, some (.iconst 1, 1), some (.ireturn, 1)]
theorem aX3_readWord_ok : qm_tabok cX3_readWord aX3_readWord = true := by decide +kernel
def mX3_readWord : qm_M := ((some .boolean), (fun k => qm_lk k pfRX3), (fun k => qm_lk k pcRX3), (fun k => qm_lk k [(72, 0, 1, wX3_goesOn), (211, 0, 2, wX8_isWord), (214, 0, 1, wX8_advance)]), qm_tab aX3_readWord)
set_option maxRecDepth 20000 in
set_option maxHeartbeats 2000000 in
theorem rX3_readWord_0   {a0 : Nat} {k1 : Nat} {h : qm_H} {r : Int32 × qm_H} (ho : qX3_readWord  a0 k1 h = some r) : qm_Ret mX3_readWord (0, [some (qm_r 0 3 a0), some (qm_r 10 k1 0)], [], h) (qm_Gi r) := by
  unfold qX3_readWord at ho
  refine qm_Ret.sts 1 (f' := (1, [some (qm_r 0 3 a0), some (qm_r 10 k1 0)], [qm_r 0 3 a0], h)) rfl ?_
  obtain ⟨r2, h1, hr, ho⟩ := qm_b2e ho
  refine qm_Ret.call (X := wX3_goesOn [qm_r 0 3 a0] h) (o1 := (some (qm_i r2), h1)) (qm_mp (G := qm_Gi) hr) rfl ?_
  show qm_Ret _ (4, [some (qm_r 0 3 a0), some (qm_r 10 k1 0)], [qm_i r2], h1) _
  refine qm_Ret.eq (t := 18) (e := 7) rfl (fun hc => ?_) (fun hc => ?_)
  · rw [if_pos hc] at ho
    cases ho
    exact qm_Ret.ret 2 rfl
  · rw [if_neg hc] at ho
    refine qm_Ret.sts 3 (f' := (12, [some (qm_r 0 3 a0), some (qm_r 10 k1 0)], [qm_r 10 k1 0, qm_r 0 8 (a0 + 12)], h1)) rfl ?_
    obtain ⟨r4, h3, hr, ho⟩ := qm_b2e ho
    refine qm_Ret.call (X := wX8_isWord [qm_r 0 8 (a0 + 12), qm_r 10 k1 0] h1) (o1 := (some (qm_i r4), h3)) (qm_mp (G := qm_Gi) hr) rfl ?_
    show qm_Ret _ (15, [some (qm_r 0 3 a0), some (qm_r 10 k1 0)], [qm_i r4], h3) _
    refine qm_Ret.ne (t := 20) (e := 18) rfl (fun hc => ?_) (fun hc => ?_)
    · rw [if_pos hc] at ho
      cases ho
      exact qm_Ret.ret 2 rfl
    · rw [if_neg hc] at ho
      refine qm_Ret.sts 2 (f' := (24, [some (qm_r 0 3 a0), some (qm_r 10 k1 0)], [qm_r 0 8 (a0 + 12)], h3)) rfl ?_
      obtain ⟨h5, hr, ho⟩ := qm_bd ho
      refine qm_Ret.call (X := wX8_advance [qm_r 0 8 (a0 + 12)] h3) (o1 := (none, h5)) (qm_mp (G := qm_Gv) hr) rfl ?_
      show qm_Ret _ (27, [some (qm_r 0 3 a0), some (qm_r 10 k1 0)], [], h5) _
      cases ho
      exact qm_Ret.ret 2 rfl
theorem cX3_readWord_ok : ∀ q ∈ ([(72, 0, 1, wX3_goesOn), (211, 0, 2, wX8_isWord), (214, 0, 1, wX8_advance)] : List (Nat × Nat × Nat × qm_C)), qm_CallOK RX3 5 107 q.2.1 q.1 q.2.2.1 q.2.2.2 := List.forall_mem_cons.mpr ⟨Or.inl ⟨yX3_goesOn, cX3_goesOn, 1, (some .boolean), 0, 0, _, sX3_goesOn, ⟨by decide, by decide⟩, ⟨jX3_goesOn, kRX3_72, uRX3⟩, ⟨by decide, by decide, rfl⟩, Or.inl ⟨rfl, rfl, iX3_goesOn, recvX3_goesOn⟩⟩, List.forall_mem_cons.mpr ⟨Or.inl ⟨yX8_isWord, cX8_isWord, 3, (some .boolean), 4, 85, _, sX8_isWord, ⟨by decide, by decide⟩, ⟨jX8_isWord, kRX3_211, uRX8⟩, ⟨by decide, by decide, rfl⟩, Or.inl ⟨rfl, rfl, iX8_isWord, recvX8_isWord⟩⟩, List.forall_mem_cons.mpr ⟨Or.inl ⟨yX8_advance, cX8_advance, 2, none, 1, 22, _, sX8_advance, ⟨by decide, by decide⟩, ⟨jX8_advance, kRX3_214, uRX8⟩, ⟨by decide, by decide, rfl⟩, Or.inl ⟨rfl, rfl, iX8_advance, recvX8_advance⟩⟩, fun _ h => absurd h List.not_mem_nil⟩⟩⟩
theorem sX3_readWord : qm_Snd yX3_readWord cX3_readWord 2 (some .boolean) 5 107 wX3_readWord := qm_met (fld := fun k => qm_lk k pfRX3) (con := fun k => qm_lk k pcRX3) (call := fun k => qm_lk k [(72, 0, 1, wX3_goesOn), (211, 0, 2, wX8_isWord), (214, 0, 1, wX8_advance)]) (tab := qm_tab aX3_readWord) (plainFor_of_name (by decide)) (qm_fld_ok pfRX3_ok) (qm_con_ok pcRX3_ok) (fun idx kd n f hc => cX3_readWord_ok (idx, kd, n, f) (qm_lk_mem hc)) (qm_tab_ok aX3_readWord_ok) (fun vs h o hw => by
  unfold wX3_readWord at hw
  split at hw
  · obtain ⟨r, hr, rfl⟩ := Option.map_eq_some_iff.mp hw
    exact ⟨Nat.le_of_ble_eq_true rfl, rX3_readWord_0 (hr)⟩
  · cases hw)
theorem recvX3_readWord : ∀ vs h o, wX3_readWord vs h = some o → ∃ ci a rest, vs = qm_r 0 ci a :: rest ∧ qm_R ci = yX3_readWord.cls := by
  intro vs h o hw
  unfold wX3_readWord at hw
  split at hw
  · exact ⟨_, _, _, rfl, rfl⟩
  · cases hw
-- RX3 readBasketLine()V
theorem jX3_readBasketLine : Jvm.Cond.code yX3_readBasketLine cX3_readBasketLine 3 none ∈ qm_all := List.mem_filter.mpr ⟨by decide +kernel, rfl⟩
theorem iX3_readBasketLine : Jvm.Cond.instanceMethod yX3_readBasketLine ∈ qm_all ∧ Jvm.Cond.selects yX3_readBasketLine.cls yX3_readBasketLine yX3_readBasketLine ∈ qm_all := ⟨List.mem_filter.mpr ⟨by decide +kernel, rfl⟩, List.mem_filter.mpr ⟨by decide +kernel, rfl⟩⟩
def wX3_readBasketLine : qm_C := fun vs h => match vs with
  | [.inr (.inr (some (0, 3, p0)))] => (qX3_readBasketLine p0 h).map qm_Gv
  | _ => none
def aX3_readBasketLine : List (Option (Instr × Nat)) := [some (.aload_n 0, 1), some (.ldc 106, 2), none, some (.invokevirtual 108, 3), none, none, some (.ifCond .eq 34, 3), none, none, some (.aload_n 0, 1), some (.getfield 12, 3), none, none, some (.aload_n 0, 1), some (.iconst 2, 1), some (.bipush 8, 2), none, some (.invokevirtual 112, 3), none, none, some (.putfield 94, 3), none, none, some (.aload_n 0, 1), some (.getfield 12, 3), none, none, some (.aload_n 0, 1), some (.iconst 2, 1), some (.bipush 8, 2), none, some (.invokevirtual 112, 3), none, none, some (.putfield 97, 3), none, none, some (.goto 108, 3), none, none, some (.aload_n 0, 1), some (.ldc 116, 2), none, some (.invokevirtual 108, 3), none, none, some (.ifCond .eq 33, 3), none, none, some (.aload_n 0, 1), some (.invokevirtual 118, 3), none, none, some (.istore_n 1, 1), some (.aload_n 0, 1), some (.invokevirtual 122, 3), none, none, some (.istore_n 2, 1), some (.aload_n 0, 1), some (.getfield 12, 3), none, none, some (.dup, 1), some (.getfield 125, 3), none, none, some (.iload_n 2, 1), some (.iload_n 1, 1), some (.invokestatic 128, 3), none, none, some (.lor, 1), some (.putfield 125, 3), none, none, some (.goto 69, 3), none, none, some (.aload_n 0, 1), some (.ldc 132, 2), none, some (.invokevirtual 108, 3), none, none, some (.ifCond .eq 15, 3), none, none, some (.aload_n 0, 1), some (.iconst 0, 1), some (.aload_n 0, 1), some (.invokevirtual 122, 3), none, none, some (.invokevirtual 134, 3), none, none, some (.goto 48, 3), none, none, some (.aload_n 0, 1), some (.ldc 137, 2), none, some (.invokevirtual 108, 3), none, none, some (.ifCond .eq 15, 3), none, none, some (.aload_n 0, 1), some (.iconst 1, 1), some (.aload_n 0, 1), some (.invokevirtual 118, 3), none, none, some (.invokevirtual 134, 3), none, none, some (.goto 27, 3), none, none, some (.aload_n 0, 1), some (.ldc 139, 2), none, some (.invokevirtual 108, 3), none, none, some (.ifCond .eq 14, 3), none, none, some (.aload_n 0, 1), some (.getfield 12, 3), none, none, some (.iconst 1, 1), some (.putfield 141, 3), none, none, some (.goto 7, 3), none, none, some (.aload_n 0, 1), some (.invokevirtual 144, 3), none, none, some (.return_, 1)]
theorem aX3_readBasketLine_ok : qm_tabok cX3_readBasketLine aX3_readBasketLine = true := by decide +kernel
def mX3_readBasketLine : qm_M := (none, (fun k => qm_lk k pfRX3), (fun k => qm_lk k pcRX3), (fun k => qm_lk k [(108, 0, 2, wX3_readWord), (144, 0, 1, wX3_refuse), (118, 0, 1, wX3_readColumn), (134, 0, 3, wX3_readTwig), (122, 0, 1, wX3_readRow), (128, 2, 2, wX0_bit), (112, 0, 3, wX3_readNumber)]), qm_tab aX3_readBasketLine)
set_option maxRecDepth 20000 in
set_option maxHeartbeats 2000000 in
theorem rX3_readBasketLine_0   {a0 : Nat} {h : qm_H} {r : qm_H} (ho : qX3_readBasketLine  a0 h = some r) : qm_Ret mX3_readBasketLine (0, [some (qm_r 0 3 a0), none, none], [], h) (qm_Gv r) := by
  unfold qX3_readBasketLine at ho
  refine qm_Ret.sts 2 (f' := (3, [some (qm_r 0 3 a0), none, none], [qm_r 10 0 0, qm_r 0 3 a0], h)) rfl ?_
  obtain ⟨r2, h1, hr, ho⟩ := qm_b2e ho
  refine qm_Ret.call (X := wX3_readWord [qm_r 0 3 a0, qm_r 10 0 0] h) (o1 := (some (qm_i r2), h1)) (qm_mp (G := qm_Gi) hr) rfl ?_
  show qm_Ret _ (6, [some (qm_r 0 3 a0), none, none], [qm_i r2], h1) _
  refine qm_Ret.eq (t := 40) (e := 9) rfl (fun hc => ?_) (fun hc => ?_)
  · rw [if_pos hc] at ho
    refine qm_Ret.sts 2 (f' := (43, [some (qm_r 0 3 a0), none, none], [qm_r 10 1 0, qm_r 0 3 a0], h1)) rfl ?_
    obtain ⟨r4, h3, hr, ho⟩ := qm_b2e ho
    refine qm_Ret.call (X := wX3_readWord [qm_r 0 3 a0, qm_r 10 1 0] h1) (o1 := (some (qm_i r4), h3)) (qm_mp (G := qm_Gi) hr) rfl ?_
    show qm_Ret _ (46, [some (qm_r 0 3 a0), none, none], [qm_i r4], h3) _
    refine qm_Ret.eq (t := 79) (e := 49) rfl (fun hc => ?_) (fun hc => ?_)
    · rw [if_pos hc] at ho
      refine qm_Ret.sts 2 (f' := (82, [some (qm_r 0 3 a0), none, none], [qm_r 10 2 0, qm_r 0 3 a0], h3)) rfl ?_
      obtain ⟨r6, h5, hr, ho⟩ := qm_b2e ho
      refine qm_Ret.call (X := wX3_readWord [qm_r 0 3 a0, qm_r 10 2 0] h3) (o1 := (some (qm_i r6), h5)) (qm_mp (G := qm_Gi) hr) rfl ?_
      show qm_Ret _ (85, [some (qm_r 0 3 a0), none, none], [qm_i r6], h5) _
      refine qm_Ret.eq (t := 100) (e := 88) rfl (fun hc => ?_) (fun hc => ?_)
      · rw [if_pos hc] at ho
        refine qm_Ret.sts 2 (f' := (103, [some (qm_r 0 3 a0), none, none], [qm_r 10 3 0, qm_r 0 3 a0], h5)) rfl ?_
        obtain ⟨r8, h7, hr, ho⟩ := qm_b2e ho
        refine qm_Ret.call (X := wX3_readWord [qm_r 0 3 a0, qm_r 10 3 0] h5) (o1 := (some (qm_i r8), h7)) (qm_mp (G := qm_Gi) hr) rfl ?_
        show qm_Ret _ (106, [some (qm_r 0 3 a0), none, none], [qm_i r8], h7) _
        refine qm_Ret.eq (t := 121) (e := 109) rfl (fun hc => ?_) (fun hc => ?_)
        · rw [if_pos hc] at ho
          refine qm_Ret.sts 2 (f' := (124, [some (qm_r 0 3 a0), none, none], [qm_r 10 4 0, qm_r 0 3 a0], h7)) rfl ?_
          obtain ⟨r10, h9, hr, ho⟩ := qm_b2e ho
          refine qm_Ret.call (X := wX3_readWord [qm_r 0 3 a0, qm_r 10 4 0] h7) (o1 := (some (qm_i r10), h9)) (qm_mp (G := qm_Gi) hr) rfl ?_
          show qm_Ret _ (127, [some (qm_r 0 3 a0), none, none], [qm_i r10], h9) _
          refine qm_Ret.eq (t := 141) (e := 130) rfl (fun hc => ?_) (fun hc => ?_)
          · rw [if_pos hc] at ho
            refine qm_Ret.sts 1 (f' := (142, [some (qm_r 0 3 a0), none, none], [qm_r 0 3 a0], h9)) rfl ?_
            obtain ⟨h11, hr, ho⟩ := qm_bd ho
            refine qm_Ret.call (X := wX3_refuse [qm_r 0 3 a0] h9) (o1 := (none, h11)) (qm_mp (G := qm_Gv) hr) rfl ?_
            show qm_Ret _ (145, [some (qm_r 0 3 a0), none, none], [], h11) _
            cases ho
            exact qm_Ret.ret 1 rfl
          · rw [if_neg hc] at ho
            refine qm_Ret.sts 4 (f' := (138, [some (qm_r 0 3 a0), none, none], [], (qm_seti h9 (a0 + 1) 5 (1 : Int32)))) rfl ?_
            refine qm_Ret.lets (F := fun h12 => (138, [some (qm_r 0 3 a0), none, none], [], h12)) (G := qm_Gv) ho (fun h12 ho => ?_)
            cases ho
            exact qm_Ret.ret 2 rfl
        · rw [if_neg hc] at ho
          refine qm_Ret.sts 3 (f' := (112, [some (qm_r 0 3 a0), none, none], [qm_r 0 3 a0, qm_i (1 : Int32), qm_r 0 3 a0], h7)) rfl ?_
          obtain ⟨r14, h13, hr, ho⟩ := qm_b2e ho
          refine qm_Ret.call (X := wX3_readColumn [qm_r 0 3 a0] h7) (o1 := (some (qm_i r14), h13)) (qm_mp (G := qm_Gi) hr) rfl ?_
          show qm_Ret _ (115, [some (qm_r 0 3 a0), none, none], [qm_i r14, qm_i (1 : Int32), qm_r 0 3 a0], h13) _
          obtain ⟨h15, hr, ho⟩ := qm_bd ho
          refine qm_Ret.call (X := wX3_readTwig [qm_r 0 3 a0, qm_i (1 : Int32), qm_i r14] h13) (o1 := (none, h15)) (qm_mp (G := qm_Gv) hr) rfl ?_
          show qm_Ret _ (118, [some (qm_r 0 3 a0), none, none], [], h15) _
          cases ho
          exact qm_Ret.ret 2 rfl
      · rw [if_neg hc] at ho
        refine qm_Ret.sts 3 (f' := (91, [some (qm_r 0 3 a0), none, none], [qm_r 0 3 a0, qm_i (0 : Int32), qm_r 0 3 a0], h5)) rfl ?_
        obtain ⟨r17, h16, hr, ho⟩ := qm_b2e ho
        refine qm_Ret.call (X := wX3_readRow [qm_r 0 3 a0] h5) (o1 := (some (qm_i r17), h16)) (qm_mp (G := qm_Gi) hr) rfl ?_
        show qm_Ret _ (94, [some (qm_r 0 3 a0), none, none], [qm_i r17, qm_i (0 : Int32), qm_r 0 3 a0], h16) _
        obtain ⟨h18, hr, ho⟩ := qm_bd ho
        refine qm_Ret.call (X := wX3_readTwig [qm_r 0 3 a0, qm_i (0 : Int32), qm_i r17] h16) (o1 := (none, h18)) (qm_mp (G := qm_Gv) hr) rfl ?_
        show qm_Ret _ (97, [some (qm_r 0 3 a0), none, none], [], h18) _
        cases ho
        exact qm_Ret.ret 2 rfl
    · rw [if_neg hc] at ho
      refine qm_Ret.sts 1 (f' := (50, [some (qm_r 0 3 a0), none, none], [qm_r 0 3 a0], h3)) rfl ?_
      obtain ⟨r20, h19, hr, ho⟩ := qm_b2e ho
      refine qm_Ret.call (X := wX3_readColumn [qm_r 0 3 a0] h3) (o1 := (some (qm_i r20), h19)) (qm_mp (G := qm_Gi) hr) rfl ?_
      show qm_Ret _ (53, [some (qm_r 0 3 a0), none, none], [qm_i r20], h19) _
      refine qm_Ret.sts 2 (f' := (55, [some (qm_r 0 3 a0), some (qm_i r20), none], [qm_r 0 3 a0], h19)) rfl ?_
      obtain ⟨r22, h21, hr, ho⟩ := qm_b2e ho
      refine qm_Ret.call (X := wX3_readRow [qm_r 0 3 a0] h19) (o1 := (some (qm_i r22), h21)) (qm_mp (G := qm_Gi) hr) rfl ?_
      show qm_Ret _ (58, [some (qm_r 0 3 a0), some (qm_i r20), none], [qm_i r22], h21) _
      refine qm_Ret.sts 7 (f' := (69, [some (qm_r 0 3 a0), some (qm_i r20), some (qm_i r22)], [qm_i r20, qm_i r22, qm_l (h21.2 (a0 + 1) 6), qm_r 0 0 (a0 + 1)], h21)) rfl ?_
      obtain ⟨r24, h23, hr, ho⟩ := qm_b2e ho
      refine qm_Ret.call (X := wX0_bit [qm_i r22, qm_i r20] h21) (o1 := (some (qm_l r24), h23)) (qm_mp (G := qm_Gl) hr) rfl ?_
      show qm_Ret _ (72, [some (qm_r 0 3 a0), some (qm_i r20), some (qm_i r22)], [qm_l r24, qm_l (h21.2 (a0 + 1) 6), qm_r 0 0 (a0 + 1)], h23) _
      refine qm_Ret.sts 2 (f' := (76, [some (qm_r 0 3 a0), some (qm_i r20), some (qm_i r22)], [], (qm_setl h23 (a0 + 1) 6 ((h21.2 (a0 + 1) 6) ||| r24)))) rfl ?_
      refine qm_Ret.lets (F := fun h25 => (76, [some (qm_r 0 3 a0), some (qm_i r20), some (qm_i r22)], [], h25)) (G := qm_Gv) ho (fun h25 ho => ?_)
      cases ho
      exact qm_Ret.ret 2 rfl
  · rw [if_neg hc] at ho
    refine qm_Ret.sts 5 (f' := (17, [some (qm_r 0 3 a0), none, none], [qm_i (8 : Int32), qm_i (2 : Int32), qm_r 0 3 a0, qm_r 0 0 (a0 + 1)], h1)) rfl ?_
    obtain ⟨r27, h26, hr, ho⟩ := qm_b2e ho
    refine qm_Ret.call (X := wX3_readNumber [qm_r 0 3 a0, qm_i (2 : Int32), qm_i (8 : Int32)] h1) (o1 := (some (qm_i r27), h26)) (qm_mp (G := qm_Gi) hr) rfl ?_
    show qm_Ret _ (20, [some (qm_r 0 3 a0), none, none], [qm_i r27, qm_r 0 0 (a0 + 1)], h26) _
    refine qm_Ret.sts 1 (f' := (23, [some (qm_r 0 3 a0), none, none], [], (qm_seti h26 (a0 + 1) 3 r27))) rfl ?_
    refine qm_Ret.lets (F := fun h28 => (23, [some (qm_r 0 3 a0), none, none], [], h28)) (G := qm_Gv) ho (fun h28 ho => ?_)
    refine qm_Ret.sts 5 (f' := (31, [some (qm_r 0 3 a0), none, none], [qm_i (8 : Int32), qm_i (2 : Int32), qm_r 0 3 a0, qm_r 0 0 (a0 + 1)], h28)) rfl ?_
    obtain ⟨r30, h29, hr, ho⟩ := qm_b2e ho
    refine qm_Ret.call (X := wX3_readNumber [qm_r 0 3 a0, qm_i (2 : Int32), qm_i (8 : Int32)] h28) (o1 := (some (qm_i r30), h29)) (qm_mp (G := qm_Gi) hr) rfl ?_
    show qm_Ret _ (34, [some (qm_r 0 3 a0), none, none], [qm_i r30, qm_r 0 0 (a0 + 1)], h29) _
    refine qm_Ret.sts 1 (f' := (37, [some (qm_r 0 3 a0), none, none], [], (qm_seti h29 (a0 + 1) 4 r30))) rfl ?_
    refine qm_Ret.lets (F := fun h31 => (37, [some (qm_r 0 3 a0), none, none], [], h31)) (G := qm_Gv) ho (fun h31 ho => ?_)
    cases ho
    exact qm_Ret.ret 2 rfl
theorem cX3_readBasketLine_ok : ∀ q ∈ ([(108, 0, 2, wX3_readWord), (144, 0, 1, wX3_refuse), (118, 0, 1, wX3_readColumn), (134, 0, 3, wX3_readTwig), (122, 0, 1, wX3_readRow), (128, 2, 2, wX0_bit), (112, 0, 3, wX3_readNumber)] : List (Nat × Nat × Nat × qm_C)), qm_CallOK RX3 6 128 q.2.1 q.1 q.2.2.1 q.2.2.2 := List.forall_mem_cons.mpr ⟨Or.inl ⟨yX3_readWord, cX3_readWord, 2, (some .boolean), 5, 107, _, sX3_readWord, ⟨by decide, by decide⟩, ⟨jX3_readWord, kRX3_108, uRX3⟩, ⟨by decide, by decide, rfl⟩, Or.inl ⟨rfl, rfl, iX3_readWord, recvX3_readWord⟩⟩, List.forall_mem_cons.mpr ⟨Or.inl ⟨yX3_refuse, cX3_refuse, 1, none, 0, 0, _, sX3_refuse, ⟨by decide, by decide⟩, ⟨jX3_refuse, kRX3_144, uRX3⟩, ⟨by decide, by decide, rfl⟩, Or.inl ⟨rfl, rfl, iX3_refuse, recvX3_refuse⟩⟩, List.forall_mem_cons.mpr ⟨Or.inl ⟨yX3_readColumn, cX3_readColumn, 2, (some .int), 3, 66, _, sX3_readColumn, ⟨by decide, by decide⟩, ⟨jX3_readColumn, kRX3_118, uRX3⟩, ⟨by decide, by decide, rfl⟩, Or.inl ⟨rfl, rfl, iX3_readColumn, recvX3_readColumn⟩⟩, List.forall_mem_cons.mpr ⟨Or.inl ⟨yX3_readTwig, cX3_readTwig, 5, none, 3, 66, _, sX3_readTwig, ⟨by decide, by decide⟩, ⟨jX3_readTwig, kRX3_134, uRX3⟩, ⟨by decide, by decide, rfl⟩, Or.inl ⟨rfl, rfl, iX3_readTwig, recvX3_readTwig⟩⟩, List.forall_mem_cons.mpr ⟨Or.inl ⟨yX3_readRow, cX3_readRow, 2, (some .int), 3, 66, _, sX3_readRow, ⟨by decide, by decide⟩, ⟨jX3_readRow, kRX3_122, uRX3⟩, ⟨by decide, by decide, rfl⟩, Or.inl ⟨rfl, rfl, iX3_readRow, recvX3_readRow⟩⟩, List.forall_mem_cons.mpr ⟨Or.inl ⟨yX0_bit, cX0_bit, 2, (some .long), 0, 0, _, sX0_bit, ⟨by decide, by decide⟩, ⟨jX0_bit, kRX3_128, uRX0⟩, ⟨by decide, by decide, rfl⟩, Or.inr (Or.inl ⟨rfl, rfl, iX0_bit⟩)⟩, List.forall_mem_cons.mpr ⟨Or.inl ⟨yX3_readNumber, cX3_readNumber, 4, (some .int), 2, 43, _, sX3_readNumber, ⟨by decide, by decide⟩, ⟨jX3_readNumber, kRX3_112, uRX3⟩, ⟨by decide, by decide, rfl⟩, Or.inl ⟨rfl, rfl, iX3_readNumber, recvX3_readNumber⟩⟩, fun _ h => absurd h List.not_mem_nil⟩⟩⟩⟩⟩⟩⟩
theorem sX3_readBasketLine : qm_Snd yX3_readBasketLine cX3_readBasketLine 3 none 6 128 wX3_readBasketLine := qm_met (fld := fun k => qm_lk k pfRX3) (con := fun k => qm_lk k pcRX3) (call := fun k => qm_lk k [(108, 0, 2, wX3_readWord), (144, 0, 1, wX3_refuse), (118, 0, 1, wX3_readColumn), (134, 0, 3, wX3_readTwig), (122, 0, 1, wX3_readRow), (128, 2, 2, wX0_bit), (112, 0, 3, wX3_readNumber)]) (tab := qm_tab aX3_readBasketLine) (plainFor_of_name (by decide)) (qm_fld_ok pfRX3_ok) (qm_con_ok pcRX3_ok) (fun idx kd n f hc => cX3_readBasketLine_ok (idx, kd, n, f) (qm_lk_mem hc)) (qm_tab_ok aX3_readBasketLine_ok) (fun vs h o hw => by
  unfold wX3_readBasketLine at hw
  split at hw
  · obtain ⟨r, hr, rfl⟩ := Option.map_eq_some_iff.mp hw
    exact ⟨Nat.le_of_ble_eq_true rfl, rX3_readBasketLine_0 (hr)⟩
  · cases hw)
theorem recvX3_readBasketLine : ∀ vs h o, wX3_readBasketLine vs h = some o → ∃ ci a rest, vs = qm_r 0 ci a :: rest ∧ qm_R ci = yX3_readBasketLine.cls := by
  intro vs h o hw
  unfold wX3_readBasketLine at hw
  split at hw
  · exact ⟨_, _, _, rfl, rfl⟩
  · cases hw
-- RX3 readCare(I)V
theorem jX3_readCare : Jvm.Cond.code yX3_readCare cX3_readCare 3 none ∈ qm_all := List.mem_filter.mpr ⟨by decide +kernel, rfl⟩
theorem iX3_readCare : Jvm.Cond.instanceMethod yX3_readCare ∈ qm_all ∧ Jvm.Cond.selects yX3_readCare.cls yX3_readCare yX3_readCare ∈ qm_all := ⟨List.mem_filter.mpr ⟨by decide +kernel, rfl⟩, List.mem_filter.mpr ⟨by decide +kernel, rfl⟩⟩
def wX3_readCare : qm_C := fun vs h => match vs with
  | [.inr (.inr (some (0, 3, p0))), .inl p1] => (qX3_readCare p0 p1 h).map qm_Gv
  | _ => none
def aX3_readCare : List (Option (Instr × Nat)) := [some (.iconst 0, 1), some (.istore_n 2, 1), some (.aload_n 0, 1), some (.ldc 137, 2), none, some (.invokevirtual 108, 3), none, none, some (.ifCond .eq 8, 3), none, none, some (.iconst 1, 1), some (.istore_n 2, 1), some (.goto 16, 3), none, none, some (.aload_n 0, 1), some (.ldc 132, 2), none, some (.invokevirtual 108, 3), none, none, some (.ifCond .ne 7, 3), none, none, some (.aload_n 0, 1), some (.invokevirtual 144, 3), none, none, some (.aload_n 0, 1), some (.getfield 21, 3), none, none, some (.iload_n 1, 1), some (.iload_n 2, 1), some (.aload_n 0, 1), some (.iconst 0, 1), some (.bipush 7, 2), none, some (.invokevirtual 112, 3), none, none, some (.iconst (-1), 1), some (.invokevirtual 159, 3), none, none, some (.return_, 1)]
theorem aX3_readCare_ok : qm_tabok cX3_readCare aX3_readCare = true := by decide +kernel
def mX3_readCare : qm_M := (none, (fun k => qm_lk k pfRX3), (fun k => qm_lk k pcRX3), (fun k => qm_lk k [(112, 0, 3, wX3_readNumber), (159, 0, 5, wX10_add), (108, 0, 2, wX3_readWord), (144, 0, 1, wX3_refuse)]), qm_tab aX3_readCare)
set_option maxRecDepth 20000 in
set_option maxHeartbeats 2000000 in
theorem rX3_readCare_29   {a0 : Nat} {x1 : Int32} {x2 : Int32} {h : qm_H} {r : qm_H} (ho : qX3_readCare_29  a0 x1 x2 h = some r) : qm_Ret mX3_readCare (29, [some (qm_r 0 3 a0), some (qm_i x1), some (qm_i x2)], [], h) (qm_Gv r) := by
  unfold qX3_readCare_29 at ho
  refine qm_Ret.sts 7 (f' := (39, [some (qm_r 0 3 a0), some (qm_i x1), some (qm_i x2)], [qm_i (7 : Int32), qm_i (0 : Int32), qm_r 0 3 a0, qm_i x2, qm_i x1, qm_r 0 10 (a0 + 5)], h)) rfl ?_
  obtain ⟨r2, h1, hr, ho⟩ := qm_b2e ho
  refine qm_Ret.call (X := wX3_readNumber [qm_r 0 3 a0, qm_i (0 : Int32), qm_i (7 : Int32)] h) (o1 := (some (qm_i r2), h1)) (qm_mp (G := qm_Gi) hr) rfl ?_
  show qm_Ret _ (42, [some (qm_r 0 3 a0), some (qm_i x1), some (qm_i x2)], [qm_i r2, qm_i x2, qm_i x1, qm_r 0 10 (a0 + 5)], h1) _
  refine qm_Ret.sts 1 (f' := (43, [some (qm_r 0 3 a0), some (qm_i x1), some (qm_i x2)], [qm_i (-1 : Int32), qm_i r2, qm_i x2, qm_i x1, qm_r 0 10 (a0 + 5)], h1)) rfl ?_
  obtain ⟨h3, hr, ho⟩ := qm_bd ho
  refine qm_Ret.call (X := wX10_add [qm_r 0 10 (a0 + 5), qm_i x1, qm_i x2, qm_i r2, qm_i (-1 : Int32)] h1) (o1 := (none, h3)) (qm_mp (G := qm_Gv) hr) rfl ?_
  show qm_Ret _ (46, [some (qm_r 0 3 a0), some (qm_i x1), some (qm_i x2)], [], h3) _
  cases ho
  exact qm_Ret.ret 1 rfl
set_option maxRecDepth 20000 in
set_option maxHeartbeats 2000000 in
theorem rX3_readCare_0   {a0 : Nat} {x1 : Int32} {h : qm_H} {r : qm_H} (ho : qX3_readCare  a0 x1 h = some r) : qm_Ret mX3_readCare (0, [some (qm_r 0 3 a0), some (qm_i x1), none], [], h) (qm_Gv r) := by
  unfold qX3_readCare at ho
  refine qm_Ret.sts 4 (f' := (5, [some (qm_r 0 3 a0), some (qm_i x1), some (qm_i (0 : Int32))], [qm_r 10 3 0, qm_r 0 3 a0], h)) rfl ?_
  obtain ⟨r2, h1, hr, ho⟩ := qm_b2e ho
  refine qm_Ret.call (X := wX3_readWord [qm_r 0 3 a0, qm_r 10 3 0] h) (o1 := (some (qm_i r2), h1)) (qm_mp (G := qm_Gi) hr) rfl ?_
  show qm_Ret _ (8, [some (qm_r 0 3 a0), some (qm_i x1), some (qm_i (0 : Int32))], [qm_i r2], h1) _
  refine qm_Ret.eq (t := 16) (e := 11) rfl (fun hc => ?_) (fun hc => ?_)
  · rw [if_pos hc] at ho
    refine qm_Ret.sts 2 (f' := (19, [some (qm_r 0 3 a0), some (qm_i x1), some (qm_i (0 : Int32))], [qm_r 10 2 0, qm_r 0 3 a0], h1)) rfl ?_
    obtain ⟨r4, h3, hr, ho⟩ := qm_b2e ho
    refine qm_Ret.call (X := wX3_readWord [qm_r 0 3 a0, qm_r 10 2 0] h1) (o1 := (some (qm_i r4), h3)) (qm_mp (G := qm_Gi) hr) rfl ?_
    show qm_Ret _ (22, [some (qm_r 0 3 a0), some (qm_i x1), some (qm_i (0 : Int32))], [qm_i r4], h3) _
    refine qm_Ret.ne (t := 29) (e := 25) rfl (fun hc => ?_) (fun hc => ?_)
    · rw [if_pos hc] at ho
      refine qm_Ret.sts 1 (f' := (26, [some (qm_r 0 3 a0), some (qm_i x1), some (qm_i (0 : Int32))], [qm_r 0 3 a0], h3)) rfl ?_
      obtain ⟨h5, hr, ho⟩ := qm_bd ho
      refine qm_Ret.call (X := wX3_refuse [qm_r 0 3 a0] h3) (o1 := (none, h5)) (qm_mp (G := qm_Gv) hr) rfl ?_
      show qm_Ret _ (29, [some (qm_r 0 3 a0), some (qm_i x1), some (qm_i (0 : Int32))], [], h5) _
      exact rX3_readCare_29 ho
    · rw [if_neg hc] at ho
      exact rX3_readCare_29 ho
  · rw [if_neg hc] at ho
    refine qm_Ret.sts 3 (f' := (29, [some (qm_r 0 3 a0), some (qm_i x1), some (qm_i (1 : Int32))], [], h1)) rfl ?_
    exact rX3_readCare_29 ho
theorem cX3_readCare_ok : ∀ q ∈ ([(112, 0, 3, wX3_readNumber), (159, 0, 5, wX10_add), (108, 0, 2, wX3_readWord), (144, 0, 1, wX3_refuse)] : List (Nat × Nat × Nat × qm_C)), qm_CallOK RX3 6 128 q.2.1 q.1 q.2.2.1 q.2.2.2 := List.forall_mem_cons.mpr ⟨Or.inl ⟨yX3_readNumber, cX3_readNumber, 4, (some .int), 2, 43, _, sX3_readNumber, ⟨by decide, by decide⟩, ⟨jX3_readNumber, kRX3_112, uRX3⟩, ⟨by decide, by decide, rfl⟩, Or.inl ⟨rfl, rfl, iX3_readNumber, recvX3_readNumber⟩⟩, List.forall_mem_cons.mpr ⟨Or.inl ⟨yX10_add, cX10_add, 6, none, 0, 0, _, sX10_add, ⟨by decide, by decide⟩, ⟨jX10_add, kRX3_159, uRX10⟩, ⟨by decide, by decide, rfl⟩, Or.inl ⟨rfl, rfl, iX10_add, recvX10_add⟩⟩, List.forall_mem_cons.mpr ⟨Or.inl ⟨yX3_readWord, cX3_readWord, 2, (some .boolean), 5, 107, _, sX3_readWord, ⟨by decide, by decide⟩, ⟨jX3_readWord, kRX3_108, uRX3⟩, ⟨by decide, by decide, rfl⟩, Or.inl ⟨rfl, rfl, iX3_readWord, recvX3_readWord⟩⟩, List.forall_mem_cons.mpr ⟨Or.inl ⟨yX3_refuse, cX3_refuse, 1, none, 0, 0, _, sX3_refuse, ⟨by decide, by decide⟩, ⟨jX3_refuse, kRX3_144, uRX3⟩, ⟨by decide, by decide, rfl⟩, Or.inl ⟨rfl, rfl, iX3_refuse, recvX3_refuse⟩⟩, fun _ h => absurd h List.not_mem_nil⟩⟩⟩⟩
theorem sX3_readCare : qm_Snd yX3_readCare cX3_readCare 3 none 6 128 wX3_readCare := qm_met (fld := fun k => qm_lk k pfRX3) (con := fun k => qm_lk k pcRX3) (call := fun k => qm_lk k [(112, 0, 3, wX3_readNumber), (159, 0, 5, wX10_add), (108, 0, 2, wX3_readWord), (144, 0, 1, wX3_refuse)]) (tab := qm_tab aX3_readCare) (plainFor_of_name (by decide)) (qm_fld_ok pfRX3_ok) (qm_con_ok pcRX3_ok) (fun idx kd n f hc => cX3_readCare_ok (idx, kd, n, f) (qm_lk_mem hc)) (qm_tab_ok aX3_readCare_ok) (fun vs h o hw => by
  unfold wX3_readCare at hw
  split at hw
  · obtain ⟨r, hr, rfl⟩ := Option.map_eq_some_iff.mp hw
    exact ⟨Nat.le_of_ble_eq_true rfl, rX3_readCare_0 (hr)⟩
  · cases hw)
theorem recvX3_readCare : ∀ vs h o, wX3_readCare vs h = some o → ∃ ci a rest, vs = qm_r 0 ci a :: rest ∧ qm_R ci = yX3_readCare.cls := by
  intro vs h o hw
  unfold wX3_readCare at hw
  split at hw
  · exact ⟨_, _, _, rfl, rfl⟩
  · cases hw
-- RX3 readYearLine()V
theorem jX3_readYearLine : Jvm.Cond.code yX3_readYearLine cX3_readYearLine 3 none ∈ qm_all := List.mem_filter.mpr ⟨by decide +kernel, rfl⟩
theorem iX3_readYearLine : Jvm.Cond.instanceMethod yX3_readYearLine ∈ qm_all ∧ Jvm.Cond.selects yX3_readYearLine.cls yX3_readYearLine yX3_readYearLine ∈ qm_all := ⟨List.mem_filter.mpr ⟨by decide +kernel, rfl⟩, List.mem_filter.mpr ⟨by decide +kernel, rfl⟩⟩
def wX3_readYearLine : qm_C := fun vs h => match vs with
  | [.inr (.inr (some (0, 3, p0)))] => (qX3_readYearLine p0 h).map qm_Gv
  | _ => none
def aX3_readYearLine : List (Option (Instr × Nat)) := [some (.aload_n 0, 1), some (.getfield 21, 3), none, none, some (.getfield 64, 3), none, none, some (.bipush 40, 2), none, some (.if_icmp .lt 15, 3), none, none, some (.aload_n 0, 1), some (.iconst 3, 1), some (.aload_n 0, 1), some (.getfield 44, 3), none, none, some (.getfield 151, 3), none, none, some (.invokevirtual 154, 3), none, none, some (.aload_n 0, 1), some (.ldc 157, 2), none, some (.invokevirtual 108, 3), none, none, some (.ifCond .eq 39, 3), none, none, some (.aload_n 0, 1), some (.iconst 1, 1), some (.bipush 8, 2), none, some (.invokevirtual 112, 3), none, none, some (.istore_n 1, 1), some (.aload_n 0, 1), some (.iconst 1, 1), some (.bipush 8, 2), none, some (.invokevirtual 112, 3), none, none, some (.istore_n 2, 1), some (.aload_n 0, 1), some (.getfield 21, 3), none, none, some (.iconst 0, 1), some (.iload_n 1, 1), some (.iload_n 2, 1), some (.aload_n 0, 1), some (.iconst 0, 1), some (.bipush 99, 2), none, some (.invokevirtual 112, 3), none, none, some (.invokevirtual 159, 3), none, none, some (.goto 148, 3), none, none, some (.aload_n 0, 1), some (.ldc 162, 2), none, some (.invokevirtual 108, 3), none, none, some (.ifCond .eq 11, 3), none, none, some (.aload_n 0, 1), some (.iconst 1, 1), some (.invokevirtual 164, 3), none, none, some (.goto 131, 3), none, none, some (.aload_n 0, 1), some (.ldc 167, 2), none, some (.invokevirtual 108, 3), none, none, some (.ifCond .eq 11, 3), none, none, some (.aload_n 0, 1), some (.iconst 2, 1), some (.invokevirtual 164, 3), none, none, some (.goto 114, 3), none, none, some (.aload_n 0, 1), some (.ldc 169, 2), none, some (.invokevirtual 108, 3), none, none, some (.ifCond .eq 31, 3), none, none, some (.aload_n 0, 1), some (.iconst 0, 1), some (.bipush 7, 2), none, some (.invokevirtual 112, 3), none, none, some (.istore_n 1, 1), some (.aload_n 0, 1), some (.getfield 21, 3), none, none, some (.iconst 3, 1), some (.iload_n 1, 1), some (.aload_n 0, 1), some (.iconst 0, 1), some (.bipush 7, 2), none, some (.invokevirtual 112, 3), none, none, some (.iconst (-1), 1), some (.invokevirtual 159, 3), none, none, some (.goto 77, 3), none, none, some (.aload_n 0, 1), some (.ldc 171, 2), none, some (.invokevirtual 108, 3), none, none, some (.ifCond .eq 17, 3), none, none, some (.aload_n 0, 1), some (.getfield 21, 3), none, none, some (.iconst 4, 1), some (.iconst (-1), 1), some (.iconst (-1), 1), some (.iconst (-1), 1), some (.invokevirtual 159, 3), none, none, some (.goto 54, 3), none, none, some (.aload_n 0, 1), some (.ldc 139, 2), none, some (.invokevirtual 108, 3), none, none, some (.ifCond .eq 17, 3), none, none, some (.aload_n 0, 1), some (.getfield 21, 3), none, none, some (.iconst 5, 1), some (.iconst (-1), 1), some (.iconst (-1), 1), some (.iconst (-1), 1), some (.invokevirtual 159, 3), none, none, some (.goto 31, 3), none, none, some (.aload_n 0, 1), some (.ldc 173, 2), none, some (.invokevirtual 108, 3), none, none, some (.ifCond .eq 18, 3), none, none, some (.aload_n 0, 1), some (.getfield 21, 3), none, none, some (.bipush 6, 2), none, some (.iconst (-1), 1), some (.iconst (-1), 1), some (.iconst (-1), 1), some (.invokevirtual 159, 3), none, none, some (.goto 7, 3), none, none, some (.aload_n 0, 1), some (.invokevirtual 144, 3), none, none, some (.return_, 1)]
theorem aX3_readYearLine_ok : qm_tabok cX3_readYearLine aX3_readYearLine = true := by decide +kernel
def mX3_readYearLine : qm_M := (none, (fun k => qm_lk k pfRX3), (fun k => qm_lk k pcRX3), (fun k => qm_lk k [(108, 0, 2, wX3_readWord), (144, 0, 1, wX3_refuse), (159, 0, 5, wX10_add), (112, 0, 3, wX3_readNumber), (164, 0, 2, wX3_readCare), (154, 0, 3, wX3_note)]), qm_tab aX3_readYearLine)
set_option maxRecDepth 20000 in
set_option maxHeartbeats 2000000 in
theorem rX3_readYearLine_24   {a0 : Nat} {h : qm_H} {r : qm_H} (ho : qX3_readYearLine_24  a0 h = some r) : qm_Ret mX3_readYearLine (24, [some (qm_r 0 3 a0), none, none], [], h) (qm_Gv r) := by
  unfold qX3_readYearLine_24 at ho
  refine qm_Ret.sts 2 (f' := (27, [some (qm_r 0 3 a0), none, none], [qm_r 10 5 0, qm_r 0 3 a0], h)) rfl ?_
  obtain ⟨r2, h1, hr, ho⟩ := qm_b2e ho
  refine qm_Ret.call (X := wX3_readWord [qm_r 0 3 a0, qm_r 10 5 0] h) (o1 := (some (qm_i r2), h1)) (qm_mp (G := qm_Gi) hr) rfl ?_
  show qm_Ret _ (30, [some (qm_r 0 3 a0), none, none], [qm_i r2], h1) _
  refine qm_Ret.eq (t := 69) (e := 33) rfl (fun hc => ?_) (fun hc => ?_)
  · rw [if_pos hc] at ho
    refine qm_Ret.sts 2 (f' := (72, [some (qm_r 0 3 a0), none, none], [qm_r 10 6 0, qm_r 0 3 a0], h1)) rfl ?_
    obtain ⟨r4, h3, hr, ho⟩ := qm_b2e ho
    refine qm_Ret.call (X := wX3_readWord [qm_r 0 3 a0, qm_r 10 6 0] h1) (o1 := (some (qm_i r4), h3)) (qm_mp (G := qm_Gi) hr) rfl ?_
    show qm_Ret _ (75, [some (qm_r 0 3 a0), none, none], [qm_i r4], h3) _
    refine qm_Ret.eq (t := 86) (e := 78) rfl (fun hc => ?_) (fun hc => ?_)
    · rw [if_pos hc] at ho
      refine qm_Ret.sts 2 (f' := (89, [some (qm_r 0 3 a0), none, none], [qm_r 10 7 0, qm_r 0 3 a0], h3)) rfl ?_
      obtain ⟨r6, h5, hr, ho⟩ := qm_b2e ho
      refine qm_Ret.call (X := wX3_readWord [qm_r 0 3 a0, qm_r 10 7 0] h3) (o1 := (some (qm_i r6), h5)) (qm_mp (G := qm_Gi) hr) rfl ?_
      show qm_Ret _ (92, [some (qm_r 0 3 a0), none, none], [qm_i r6], h5) _
      refine qm_Ret.eq (t := 103) (e := 95) rfl (fun hc => ?_) (fun hc => ?_)
      · rw [if_pos hc] at ho
        refine qm_Ret.sts 2 (f' := (106, [some (qm_r 0 3 a0), none, none], [qm_r 10 8 0, qm_r 0 3 a0], h5)) rfl ?_
        obtain ⟨r8, h7, hr, ho⟩ := qm_b2e ho
        refine qm_Ret.call (X := wX3_readWord [qm_r 0 3 a0, qm_r 10 8 0] h5) (o1 := (some (qm_i r8), h7)) (qm_mp (G := qm_Gi) hr) rfl ?_
        show qm_Ret _ (109, [some (qm_r 0 3 a0), none, none], [qm_i r8], h7) _
        refine qm_Ret.eq (t := 140) (e := 112) rfl (fun hc => ?_) (fun hc => ?_)
        · rw [if_pos hc] at ho
          refine qm_Ret.sts 2 (f' := (143, [some (qm_r 0 3 a0), none, none], [qm_r 10 9 0, qm_r 0 3 a0], h7)) rfl ?_
          obtain ⟨r10, h9, hr, ho⟩ := qm_b2e ho
          refine qm_Ret.call (X := wX3_readWord [qm_r 0 3 a0, qm_r 10 9 0] h7) (o1 := (some (qm_i r10), h9)) (qm_mp (G := qm_Gi) hr) rfl ?_
          show qm_Ret _ (146, [some (qm_r 0 3 a0), none, none], [qm_i r10], h9) _
          refine qm_Ret.eq (t := 163) (e := 149) rfl (fun hc => ?_) (fun hc => ?_)
          · rw [if_pos hc] at ho
            refine qm_Ret.sts 2 (f' := (166, [some (qm_r 0 3 a0), none, none], [qm_r 10 4 0, qm_r 0 3 a0], h9)) rfl ?_
            obtain ⟨r12, h11, hr, ho⟩ := qm_b2e ho
            refine qm_Ret.call (X := wX3_readWord [qm_r 0 3 a0, qm_r 10 4 0] h9) (o1 := (some (qm_i r12), h11)) (qm_mp (G := qm_Gi) hr) rfl ?_
            show qm_Ret _ (169, [some (qm_r 0 3 a0), none, none], [qm_i r12], h11) _
            refine qm_Ret.eq (t := 186) (e := 172) rfl (fun hc => ?_) (fun hc => ?_)
            · rw [if_pos hc] at ho
              refine qm_Ret.sts 2 (f' := (189, [some (qm_r 0 3 a0), none, none], [qm_r 10 10 0, qm_r 0 3 a0], h11)) rfl ?_
              obtain ⟨r14, h13, hr, ho⟩ := qm_b2e ho
              refine qm_Ret.call (X := wX3_readWord [qm_r 0 3 a0, qm_r 10 10 0] h11) (o1 := (some (qm_i r14), h13)) (qm_mp (G := qm_Gi) hr) rfl ?_
              show qm_Ret _ (192, [some (qm_r 0 3 a0), none, none], [qm_i r14], h13) _
              refine qm_Ret.eq (t := 210) (e := 195) rfl (fun hc => ?_) (fun hc => ?_)
              · rw [if_pos hc] at ho
                refine qm_Ret.sts 1 (f' := (211, [some (qm_r 0 3 a0), none, none], [qm_r 0 3 a0], h13)) rfl ?_
                obtain ⟨h15, hr, ho⟩ := qm_bd ho
                refine qm_Ret.call (X := wX3_refuse [qm_r 0 3 a0] h13) (o1 := (none, h15)) (qm_mp (G := qm_Gv) hr) rfl ?_
                show qm_Ret _ (214, [some (qm_r 0 3 a0), none, none], [], h15) _
                cases ho
                exact qm_Ret.ret 1 rfl
              · rw [if_neg hc] at ho
                refine qm_Ret.sts 6 (f' := (204, [some (qm_r 0 3 a0), none, none], [qm_i (-1 : Int32), qm_i (-1 : Int32), qm_i (-1 : Int32), qm_i (6 : Int32), qm_r 0 10 (a0 + 5)], h13)) rfl ?_
                obtain ⟨h16, hr, ho⟩ := qm_bd ho
                refine qm_Ret.call (X := wX10_add [qm_r 0 10 (a0 + 5), qm_i (6 : Int32), qm_i (-1 : Int32), qm_i (-1 : Int32), qm_i (-1 : Int32)] h13) (o1 := (none, h16)) (qm_mp (G := qm_Gv) hr) rfl ?_
                show qm_Ret _ (207, [some (qm_r 0 3 a0), none, none], [], h16) _
                cases ho
                exact qm_Ret.ret 2 rfl
            · rw [if_neg hc] at ho
              refine qm_Ret.sts 6 (f' := (180, [some (qm_r 0 3 a0), none, none], [qm_i (-1 : Int32), qm_i (-1 : Int32), qm_i (-1 : Int32), qm_i (5 : Int32), qm_r 0 10 (a0 + 5)], h11)) rfl ?_
              obtain ⟨h17, hr, ho⟩ := qm_bd ho
              refine qm_Ret.call (X := wX10_add [qm_r 0 10 (a0 + 5), qm_i (5 : Int32), qm_i (-1 : Int32), qm_i (-1 : Int32), qm_i (-1 : Int32)] h11) (o1 := (none, h17)) (qm_mp (G := qm_Gv) hr) rfl ?_
              show qm_Ret _ (183, [some (qm_r 0 3 a0), none, none], [], h17) _
              cases ho
              exact qm_Ret.ret 2 rfl
          · rw [if_neg hc] at ho
            refine qm_Ret.sts 6 (f' := (157, [some (qm_r 0 3 a0), none, none], [qm_i (-1 : Int32), qm_i (-1 : Int32), qm_i (-1 : Int32), qm_i (4 : Int32), qm_r 0 10 (a0 + 5)], h9)) rfl ?_
            obtain ⟨h18, hr, ho⟩ := qm_bd ho
            refine qm_Ret.call (X := wX10_add [qm_r 0 10 (a0 + 5), qm_i (4 : Int32), qm_i (-1 : Int32), qm_i (-1 : Int32), qm_i (-1 : Int32)] h9) (o1 := (none, h18)) (qm_mp (G := qm_Gv) hr) rfl ?_
            show qm_Ret _ (160, [some (qm_r 0 3 a0), none, none], [], h18) _
            cases ho
            exact qm_Ret.ret 2 rfl
        · rw [if_neg hc] at ho
          refine qm_Ret.sts 3 (f' := (116, [some (qm_r 0 3 a0), none, none], [qm_i (7 : Int32), qm_i (0 : Int32), qm_r 0 3 a0], h7)) rfl ?_
          obtain ⟨r20, h19, hr, ho⟩ := qm_b2e ho
          refine qm_Ret.call (X := wX3_readNumber [qm_r 0 3 a0, qm_i (0 : Int32), qm_i (7 : Int32)] h7) (o1 := (some (qm_i r20), h19)) (qm_mp (G := qm_Gi) hr) rfl ?_
          show qm_Ret _ (119, [some (qm_r 0 3 a0), none, none], [qm_i r20], h19) _
          refine qm_Ret.sts 8 (f' := (130, [some (qm_r 0 3 a0), some (qm_i r20), none], [qm_i (7 : Int32), qm_i (0 : Int32), qm_r 0 3 a0, qm_i r20, qm_i (3 : Int32), qm_r 0 10 (a0 + 5)], h19)) rfl ?_
          obtain ⟨r22, h21, hr, ho⟩ := qm_b2e ho
          refine qm_Ret.call (X := wX3_readNumber [qm_r 0 3 a0, qm_i (0 : Int32), qm_i (7 : Int32)] h19) (o1 := (some (qm_i r22), h21)) (qm_mp (G := qm_Gi) hr) rfl ?_
          show qm_Ret _ (133, [some (qm_r 0 3 a0), some (qm_i r20), none], [qm_i r22, qm_i r20, qm_i (3 : Int32), qm_r 0 10 (a0 + 5)], h21) _
          refine qm_Ret.sts 1 (f' := (134, [some (qm_r 0 3 a0), some (qm_i r20), none], [qm_i (-1 : Int32), qm_i r22, qm_i r20, qm_i (3 : Int32), qm_r 0 10 (a0 + 5)], h21)) rfl ?_
          obtain ⟨h23, hr, ho⟩ := qm_bd ho
          refine qm_Ret.call (X := wX10_add [qm_r 0 10 (a0 + 5), qm_i (3 : Int32), qm_i r20, qm_i r22, qm_i (-1 : Int32)] h21) (o1 := (none, h23)) (qm_mp (G := qm_Gv) hr) rfl ?_
          show qm_Ret _ (137, [some (qm_r 0 3 a0), some (qm_i r20), none], [], h23) _
          cases ho
          exact qm_Ret.ret 2 rfl
      · rw [if_neg hc] at ho
        refine qm_Ret.sts 2 (f' := (97, [some (qm_r 0 3 a0), none, none], [qm_i (2 : Int32), qm_r 0 3 a0], h5)) rfl ?_
        obtain ⟨h24, hr, ho⟩ := qm_bd ho
        refine qm_Ret.call (X := wX3_readCare [qm_r 0 3 a0, qm_i (2 : Int32)] h5) (o1 := (none, h24)) (qm_mp (G := qm_Gv) hr) rfl ?_
        show qm_Ret _ (100, [some (qm_r 0 3 a0), none, none], [], h24) _
        cases ho
        exact qm_Ret.ret 2 rfl
    · rw [if_neg hc] at ho
      refine qm_Ret.sts 2 (f' := (80, [some (qm_r 0 3 a0), none, none], [qm_i (1 : Int32), qm_r 0 3 a0], h3)) rfl ?_
      obtain ⟨h25, hr, ho⟩ := qm_bd ho
      refine qm_Ret.call (X := wX3_readCare [qm_r 0 3 a0, qm_i (1 : Int32)] h3) (o1 := (none, h25)) (qm_mp (G := qm_Gv) hr) rfl ?_
      show qm_Ret _ (83, [some (qm_r 0 3 a0), none, none], [], h25) _
      cases ho
      exact qm_Ret.ret 2 rfl
  · rw [if_neg hc] at ho
    refine qm_Ret.sts 3 (f' := (37, [some (qm_r 0 3 a0), none, none], [qm_i (8 : Int32), qm_i (1 : Int32), qm_r 0 3 a0], h1)) rfl ?_
    obtain ⟨r27, h26, hr, ho⟩ := qm_b2e ho
    refine qm_Ret.call (X := wX3_readNumber [qm_r 0 3 a0, qm_i (1 : Int32), qm_i (8 : Int32)] h1) (o1 := (some (qm_i r27), h26)) (qm_mp (G := qm_Gi) hr) rfl ?_
    show qm_Ret _ (40, [some (qm_r 0 3 a0), none, none], [qm_i r27], h26) _
    refine qm_Ret.sts 4 (f' := (45, [some (qm_r 0 3 a0), some (qm_i r27), none], [qm_i (8 : Int32), qm_i (1 : Int32), qm_r 0 3 a0], h26)) rfl ?_
    obtain ⟨r29, h28, hr, ho⟩ := qm_b2e ho
    refine qm_Ret.call (X := wX3_readNumber [qm_r 0 3 a0, qm_i (1 : Int32), qm_i (8 : Int32)] h26) (o1 := (some (qm_i r29), h28)) (qm_mp (G := qm_Gi) hr) rfl ?_
    show qm_Ret _ (48, [some (qm_r 0 3 a0), some (qm_i r27), none], [qm_i r29], h28) _
    refine qm_Ret.sts 9 (f' := (60, [some (qm_r 0 3 a0), some (qm_i r27), some (qm_i r29)], [qm_i (99 : Int32), qm_i (0 : Int32), qm_r 0 3 a0, qm_i r29, qm_i r27, qm_i (0 : Int32), qm_r 0 10 (a0 + 5)], h28)) rfl ?_
    obtain ⟨r31, h30, hr, ho⟩ := qm_b2e ho
    refine qm_Ret.call (X := wX3_readNumber [qm_r 0 3 a0, qm_i (0 : Int32), qm_i (99 : Int32)] h28) (o1 := (some (qm_i r31), h30)) (qm_mp (G := qm_Gi) hr) rfl ?_
    show qm_Ret _ (63, [some (qm_r 0 3 a0), some (qm_i r27), some (qm_i r29)], [qm_i r31, qm_i r29, qm_i r27, qm_i (0 : Int32), qm_r 0 10 (a0 + 5)], h30) _
    obtain ⟨h32, hr, ho⟩ := qm_bd ho
    refine qm_Ret.call (X := wX10_add [qm_r 0 10 (a0 + 5), qm_i (0 : Int32), qm_i r27, qm_i r29, qm_i r31] h30) (o1 := (none, h32)) (qm_mp (G := qm_Gv) hr) rfl ?_
    show qm_Ret _ (66, [some (qm_r 0 3 a0), some (qm_i r27), some (qm_i r29)], [], h32) _
    cases ho
    exact qm_Ret.ret 2 rfl
set_option maxRecDepth 20000 in
set_option maxHeartbeats 2000000 in
theorem rX3_readYearLine_0   {a0 : Nat} {h : qm_H} {r : qm_H} (ho : qX3_readYearLine  a0 h = some r) : qm_Ret mX3_readYearLine (0, [some (qm_r 0 3 a0), none, none], [], h) (qm_Gv r) := by
  unfold qX3_readYearLine at ho
  refine qm_Ret.sts 4 (f' := (9, [some (qm_r 0 3 a0), none, none], [qm_i (40 : Int32), qm_i (h.1 (a0 + 5) 1)], h)) rfl ?_
  refine qm_Ret.lt (t := 24) (e := 12) rfl (fun hc => ?_) (fun hc => ?_)
  · rw [if_pos hc] at ho
    exact rX3_readYearLine_24 ho
  · rw [if_neg hc] at ho
    refine qm_Ret.sts 5 (f' := (21, [some (qm_r 0 3 a0), none, none], [qm_i (h.1 (a0 + 12) 3), qm_i (3 : Int32), qm_r 0 3 a0], h)) rfl ?_
    obtain ⟨h1, hr, ho⟩ := qm_bd ho
    refine qm_Ret.call (X := wX3_note [qm_r 0 3 a0, qm_i (3 : Int32), qm_i (h.1 (a0 + 12) 3)] h) (o1 := (none, h1)) (qm_mp (G := qm_Gv) hr) rfl ?_
    show qm_Ret _ (24, [some (qm_r 0 3 a0), none, none], [], h1) _
    exact rX3_readYearLine_24 ho
theorem cX3_readYearLine_ok : ∀ q ∈ ([(108, 0, 2, wX3_readWord), (144, 0, 1, wX3_refuse), (159, 0, 5, wX10_add), (112, 0, 3, wX3_readNumber), (164, 0, 2, wX3_readCare), (154, 0, 3, wX3_note)] : List (Nat × Nat × Nat × qm_C)), qm_CallOK RX3 7 150 q.2.1 q.1 q.2.2.1 q.2.2.2 := List.forall_mem_cons.mpr ⟨Or.inl ⟨yX3_readWord, cX3_readWord, 2, (some .boolean), 5, 107, _, sX3_readWord, ⟨by decide, by decide⟩, ⟨jX3_readWord, kRX3_108, uRX3⟩, ⟨by decide, by decide, rfl⟩, Or.inl ⟨rfl, rfl, iX3_readWord, recvX3_readWord⟩⟩, List.forall_mem_cons.mpr ⟨Or.inl ⟨yX3_refuse, cX3_refuse, 1, none, 0, 0, _, sX3_refuse, ⟨by decide, by decide⟩, ⟨jX3_refuse, kRX3_144, uRX3⟩, ⟨by decide, by decide, rfl⟩, Or.inl ⟨rfl, rfl, iX3_refuse, recvX3_refuse⟩⟩, List.forall_mem_cons.mpr ⟨Or.inl ⟨yX10_add, cX10_add, 6, none, 0, 0, _, sX10_add, ⟨by decide, by decide⟩, ⟨jX10_add, kRX3_159, uRX10⟩, ⟨by decide, by decide, rfl⟩, Or.inl ⟨rfl, rfl, iX10_add, recvX10_add⟩⟩, List.forall_mem_cons.mpr ⟨Or.inl ⟨yX3_readNumber, cX3_readNumber, 4, (some .int), 2, 43, _, sX3_readNumber, ⟨by decide, by decide⟩, ⟨jX3_readNumber, kRX3_112, uRX3⟩, ⟨by decide, by decide, rfl⟩, Or.inl ⟨rfl, rfl, iX3_readNumber, recvX3_readNumber⟩⟩, List.forall_mem_cons.mpr ⟨Or.inl ⟨yX3_readCare, cX3_readCare, 3, none, 6, 128, _, sX3_readCare, ⟨by decide, by decide⟩, ⟨jX3_readCare, kRX3_164, uRX3⟩, ⟨by decide, by decide, rfl⟩, Or.inl ⟨rfl, rfl, iX3_readCare, recvX3_readCare⟩⟩, List.forall_mem_cons.mpr ⟨Or.inl ⟨yX3_note, cX3_note, 3, none, 0, 0, _, sX3_note, ⟨by decide, by decide⟩, ⟨jX3_note, kRX3_154, uRX3⟩, ⟨by decide, by decide, rfl⟩, Or.inl ⟨rfl, rfl, iX3_note, recvX3_note⟩⟩, fun _ h => absurd h List.not_mem_nil⟩⟩⟩⟩⟩⟩
theorem sX3_readYearLine : qm_Snd yX3_readYearLine cX3_readYearLine 3 none 7 150 wX3_readYearLine := qm_met (fld := fun k => qm_lk k pfRX3) (con := fun k => qm_lk k pcRX3) (call := fun k => qm_lk k [(108, 0, 2, wX3_readWord), (144, 0, 1, wX3_refuse), (159, 0, 5, wX10_add), (112, 0, 3, wX3_readNumber), (164, 0, 2, wX3_readCare), (154, 0, 3, wX3_note)]) (tab := qm_tab aX3_readYearLine) (plainFor_of_name (by decide)) (qm_fld_ok pfRX3_ok) (qm_con_ok pcRX3_ok) (fun idx kd n f hc => cX3_readYearLine_ok (idx, kd, n, f) (qm_lk_mem hc)) (qm_tab_ok aX3_readYearLine_ok) (fun vs h o hw => by
  unfold wX3_readYearLine at hw
  split at hw
  · obtain ⟨r, hr, rfl⟩ := Option.map_eq_some_iff.mp hw
    exact ⟨Nat.le_of_ble_eq_true rfl, rX3_readYearLine_0 (hr)⟩
  · cases hw)
theorem recvX3_readYearLine : ∀ vs h o, wX3_readYearLine vs h = some o → ∃ ci a rest, vs = qm_r 0 ci a :: rest ∧ qm_R ci = yX3_readYearLine.cls := by
  intro vs h o hw
  unfold wX3_readYearLine at hw
  split at hw
  · exact ⟨_, _, _, rfl, rfl⟩
  · cases hw
-- RX3 readParishLine()V
theorem jX3_readParishLine : Jvm.Cond.code yX3_readParishLine cX3_readParishLine 2 none ∈ qm_all := List.mem_filter.mpr ⟨by decide +kernel, rfl⟩
theorem iX3_readParishLine : Jvm.Cond.instanceMethod yX3_readParishLine ∈ qm_all ∧ Jvm.Cond.selects yX3_readParishLine.cls yX3_readParishLine yX3_readParishLine ∈ qm_all := ⟨List.mem_filter.mpr ⟨by decide +kernel, rfl⟩, List.mem_filter.mpr ⟨by decide +kernel, rfl⟩⟩
def wX3_readParishLine : qm_C := fun vs h => match vs with
  | [.inr (.inr (some (0, 3, p0)))] => (qX3_readParishLine p0 h).map qm_Gv
  | _ => none
def aX3_readParishLine : List (Option (Instr × Nat)) := [some (.aload_n 0, 1), some (.getfield 44, 3), none, none, some (.getfield 151, 3), none, none, some (.istore_n 1, 1), some (.aload_n 0, 1), some (.ldc 132, 2), none, some (.invokevirtual 108, 3), none, none, some (.ifCond .eq 38, 3), none, none, some (.aload_n 0, 1), some (.getfield 28, 3), none, none, some (.getfield 175, 3), none, none, some (.bipush 6, 2), none, some (.if_icmp .lt 9, 3), none, none, some (.aload_n 0, 1), some (.iconst 3, 1), some (.iload_n 1, 1), some (.invokevirtual 154, 3), none, none, some (.aload_n 0, 1), some (.getfield 28, 3), none, none, some (.aload_n 0, 1), some (.iconst 1, 1), some (.bipush 60, 2), none, some (.invokevirtual 112, 3), none, none, some (.invokevirtual 178, 3), none, none, some (.goto 77, 3), none, none, some (.aload_n 0, 1), some (.ldc 181, 2), none, some (.invokevirtual 108, 3), none, none, some (.ifCond .eq 38, 3), none, none, some (.aload_n 0, 1), some (.getfield 28, 3), none, none, some (.getfield 183, 3), none, none, some (.bipush 8, 2), none, some (.if_icmp .lt 9, 3), none, none, some (.aload_n 0, 1), some (.iconst 3, 1), some (.iload_n 1, 1), some (.invokevirtual 154, 3), none, none, some (.aload_n 0, 1), some (.getfield 28, 3), none, none, some (.aload_n 0, 1), some (.iconst 1, 1), some (.bipush 60, 2), none, some (.invokevirtual 112, 3), none, none, some (.invokevirtual 186, 3), none, none, some (.goto 33, 3), none, none, some (.aload_n 0, 1), some (.ldc 189, 2), none, some (.invokevirtual 108, 3), none, none, some (.ifCond .eq 20, 3), none, none, some (.aload_n 0, 1), some (.getfield 28, 3), none, none, some (.aload_n 0, 1), some (.iconst 1, 1), some (.bipush 9, 2), none, some (.invokevirtual 112, 3), none, none, some (.putfield 191, 3), none, none, some (.goto 7, 3), none, none, some (.aload_n 0, 1), some (.invokevirtual 144, 3), none, none, some (.return_, 1)]
theorem aX3_readParishLine_ok : qm_tabok cX3_readParishLine aX3_readParishLine = true := by decide +kernel
def mX3_readParishLine : qm_M := (none, (fun k => qm_lk k pfRX3), (fun k => qm_lk k pcRX3), (fun k => qm_lk k [(112, 0, 3, wX3_readNumber), (186, 0, 2, wX2_addPiece), (178, 0, 2, wX2_addRod), (108, 0, 2, wX3_readWord), (144, 0, 1, wX3_refuse), (154, 0, 3, wX3_note)]), qm_tab aX3_readParishLine)
set_option maxRecDepth 20000 in
set_option maxHeartbeats 2000000 in
theorem rX3_readParishLine_79   {a0 : Nat} {xd1 : Int32} {h : qm_H} {r : qm_H} (ho : qX3_readParishLine_79  a0 h = some r) : qm_Ret mX3_readParishLine (79, [some (qm_r 0 3 a0), some (qm_i xd1)], [], h) (qm_Gv r) := by
  unfold qX3_readParishLine_79 at ho
  refine qm_Ret.sts 5 (f' := (87, [some (qm_r 0 3 a0), some (qm_i xd1)], [qm_i (60 : Int32), qm_i (1 : Int32), qm_r 0 3 a0, qm_r 0 2 (a0 + 7)], h)) rfl ?_
  obtain ⟨r2, h1, hr, ho⟩ := qm_b2e ho
  refine qm_Ret.call (X := wX3_readNumber [qm_r 0 3 a0, qm_i (1 : Int32), qm_i (60 : Int32)] h) (o1 := (some (qm_i r2), h1)) (qm_mp (G := qm_Gi) hr) rfl ?_
  show qm_Ret _ (90, [some (qm_r 0 3 a0), some (qm_i xd1)], [qm_i r2, qm_r 0 2 (a0 + 7)], h1) _
  obtain ⟨h3, hr, ho⟩ := qm_bd ho
  refine qm_Ret.call (X := wX2_addPiece [qm_r 0 2 (a0 + 7), qm_i r2] h1) (o1 := (none, h3)) (qm_mp (G := qm_Gv) hr) rfl ?_
  show qm_Ret _ (93, [some (qm_r 0 3 a0), some (qm_i xd1)], [], h3) _
  cases ho
  exact qm_Ret.ret 2 rfl
set_option maxRecDepth 20000 in
set_option maxHeartbeats 2000000 in
theorem rX3_readParishLine_35   {a0 : Nat} {xd1 : Int32} {h : qm_H} {r : qm_H} (ho : qX3_readParishLine_35  a0 h = some r) : qm_Ret mX3_readParishLine (35, [some (qm_r 0 3 a0), some (qm_i xd1)], [], h) (qm_Gv r) := by
  unfold qX3_readParishLine_35 at ho
  refine qm_Ret.sts 5 (f' := (43, [some (qm_r 0 3 a0), some (qm_i xd1)], [qm_i (60 : Int32), qm_i (1 : Int32), qm_r 0 3 a0, qm_r 0 2 (a0 + 7)], h)) rfl ?_
  obtain ⟨r2, h1, hr, ho⟩ := qm_b2e ho
  refine qm_Ret.call (X := wX3_readNumber [qm_r 0 3 a0, qm_i (1 : Int32), qm_i (60 : Int32)] h) (o1 := (some (qm_i r2), h1)) (qm_mp (G := qm_Gi) hr) rfl ?_
  show qm_Ret _ (46, [some (qm_r 0 3 a0), some (qm_i xd1)], [qm_i r2, qm_r 0 2 (a0 + 7)], h1) _
  obtain ⟨h3, hr, ho⟩ := qm_bd ho
  refine qm_Ret.call (X := wX2_addRod [qm_r 0 2 (a0 + 7), qm_i r2] h1) (o1 := (none, h3)) (qm_mp (G := qm_Gv) hr) rfl ?_
  show qm_Ret _ (49, [some (qm_r 0 3 a0), some (qm_i xd1)], [], h3) _
  cases ho
  exact qm_Ret.ret 2 rfl
set_option maxRecDepth 20000 in
set_option maxHeartbeats 2000000 in
theorem rX3_readParishLine_0   {a0 : Nat} {h : qm_H} {r : qm_H} (ho : qX3_readParishLine  a0 h = some r) : qm_Ret mX3_readParishLine (0, [some (qm_r 0 3 a0), none], [], h) (qm_Gv r) := by
  unfold qX3_readParishLine at ho
  refine qm_Ret.sts 3 (f' := (7, [some (qm_r 0 3 a0), none], [qm_i (h.1 (a0 + 12) 3)], h)) rfl ?_
  refine qm_Ret.lets (F := fun v1 => (7, [some (qm_r 0 3 a0), none], [qm_i v1], h)) (G := qm_Gv) ho (fun v1 ho => ?_)
  refine qm_Ret.sts 3 (f' := (11, [some (qm_r 0 3 a0), some (qm_i v1)], [qm_r 10 2 0, qm_r 0 3 a0], h)) rfl ?_
  obtain ⟨r3, h2, hr, ho⟩ := qm_b2e ho
  refine qm_Ret.call (X := wX3_readWord [qm_r 0 3 a0, qm_r 10 2 0] h) (o1 := (some (qm_i r3), h2)) (qm_mp (G := qm_Gi) hr) rfl ?_
  show qm_Ret _ (14, [some (qm_r 0 3 a0), some (qm_i v1)], [qm_i r3], h2) _
  refine qm_Ret.eq (t := 52) (e := 17) rfl (fun hc => ?_) (fun hc => ?_)
  · rw [if_pos hc] at ho
    refine qm_Ret.sts 2 (f' := (55, [some (qm_r 0 3 a0), some (qm_i v1)], [qm_r 10 11 0, qm_r 0 3 a0], h2)) rfl ?_
    obtain ⟨r5, h4, hr, ho⟩ := qm_b2e ho
    refine qm_Ret.call (X := wX3_readWord [qm_r 0 3 a0, qm_r 10 11 0] h2) (o1 := (some (qm_i r5), h4)) (qm_mp (G := qm_Gi) hr) rfl ?_
    show qm_Ret _ (58, [some (qm_r 0 3 a0), some (qm_i v1)], [qm_i r5], h4) _
    refine qm_Ret.eq (t := 96) (e := 61) rfl (fun hc => ?_) (fun hc => ?_)
    · rw [if_pos hc] at ho
      refine qm_Ret.sts 2 (f' := (99, [some (qm_r 0 3 a0), some (qm_i v1)], [qm_r 10 12 0, qm_r 0 3 a0], h4)) rfl ?_
      obtain ⟨r7, h6, hr, ho⟩ := qm_b2e ho
      refine qm_Ret.call (X := wX3_readWord [qm_r 0 3 a0, qm_r 10 12 0] h4) (o1 := (some (qm_i r7), h6)) (qm_mp (G := qm_Gi) hr) rfl ?_
      show qm_Ret _ (102, [some (qm_r 0 3 a0), some (qm_i v1)], [qm_i r7], h6) _
      refine qm_Ret.eq (t := 122) (e := 105) rfl (fun hc => ?_) (fun hc => ?_)
      · rw [if_pos hc] at ho
        refine qm_Ret.sts 1 (f' := (123, [some (qm_r 0 3 a0), some (qm_i v1)], [qm_r 0 3 a0], h6)) rfl ?_
        obtain ⟨h8, hr, ho⟩ := qm_bd ho
        refine qm_Ret.call (X := wX3_refuse [qm_r 0 3 a0] h6) (o1 := (none, h8)) (qm_mp (G := qm_Gv) hr) rfl ?_
        show qm_Ret _ (126, [some (qm_r 0 3 a0), some (qm_i v1)], [], h8) _
        cases ho
        exact qm_Ret.ret 1 rfl
      · rw [if_neg hc] at ho
        refine qm_Ret.sts 5 (f' := (113, [some (qm_r 0 3 a0), some (qm_i v1)], [qm_i (9 : Int32), qm_i (1 : Int32), qm_r 0 3 a0, qm_r 0 2 (a0 + 7)], h6)) rfl ?_
        obtain ⟨r10, h9, hr, ho⟩ := qm_b2e ho
        refine qm_Ret.call (X := wX3_readNumber [qm_r 0 3 a0, qm_i (1 : Int32), qm_i (9 : Int32)] h6) (o1 := (some (qm_i r10), h9)) (qm_mp (G := qm_Gi) hr) rfl ?_
        show qm_Ret _ (116, [some (qm_r 0 3 a0), some (qm_i v1)], [qm_i r10, qm_r 0 2 (a0 + 7)], h9) _
        refine qm_Ret.sts 1 (f' := (119, [some (qm_r 0 3 a0), some (qm_i v1)], [], (qm_seti h9 (a0 + 7) 4 r10))) rfl ?_
        refine qm_Ret.lets (F := fun h11 => (119, [some (qm_r 0 3 a0), some (qm_i v1)], [], h11)) (G := qm_Gv) ho (fun h11 ho => ?_)
        cases ho
        exact qm_Ret.ret 2 rfl
    · rw [if_neg hc] at ho
      refine qm_Ret.sts 4 (f' := (70, [some (qm_r 0 3 a0), some (qm_i v1)], [qm_i (8 : Int32), qm_i (h4.1 (a0 + 7) 3)], h4)) rfl ?_
      refine qm_Ret.lt (t := 79) (e := 73) rfl (fun hc => ?_) (fun hc => ?_)
      · rw [if_pos hc] at ho
        exact rX3_readParishLine_79 ho
      · rw [if_neg hc] at ho
        refine qm_Ret.sts 3 (f' := (76, [some (qm_r 0 3 a0), some (qm_i v1)], [qm_i v1, qm_i (3 : Int32), qm_r 0 3 a0], h4)) rfl ?_
        obtain ⟨h12, hr, ho⟩ := qm_bd ho
        refine qm_Ret.call (X := wX3_note [qm_r 0 3 a0, qm_i (3 : Int32), qm_i v1] h4) (o1 := (none, h12)) (qm_mp (G := qm_Gv) hr) rfl ?_
        show qm_Ret _ (79, [some (qm_r 0 3 a0), some (qm_i v1)], [], h12) _
        exact rX3_readParishLine_79 ho
  · rw [if_neg hc] at ho
    refine qm_Ret.sts 4 (f' := (26, [some (qm_r 0 3 a0), some (qm_i v1)], [qm_i (6 : Int32), qm_i (h2.1 (a0 + 7) 2)], h2)) rfl ?_
    refine qm_Ret.lt (t := 35) (e := 29) rfl (fun hc => ?_) (fun hc => ?_)
    · rw [if_pos hc] at ho
      exact rX3_readParishLine_35 ho
    · rw [if_neg hc] at ho
      refine qm_Ret.sts 3 (f' := (32, [some (qm_r 0 3 a0), some (qm_i v1)], [qm_i v1, qm_i (3 : Int32), qm_r 0 3 a0], h2)) rfl ?_
      obtain ⟨h13, hr, ho⟩ := qm_bd ho
      refine qm_Ret.call (X := wX3_note [qm_r 0 3 a0, qm_i (3 : Int32), qm_i v1] h2) (o1 := (none, h13)) (qm_mp (G := qm_Gv) hr) rfl ?_
      show qm_Ret _ (35, [some (qm_r 0 3 a0), some (qm_i v1)], [], h13) _
      exact rX3_readParishLine_35 ho
theorem cX3_readParishLine_ok : ∀ q ∈ ([(112, 0, 3, wX3_readNumber), (186, 0, 2, wX2_addPiece), (178, 0, 2, wX2_addRod), (108, 0, 2, wX3_readWord), (144, 0, 1, wX3_refuse), (154, 0, 3, wX3_note)] : List (Nat × Nat × Nat × qm_C)), qm_CallOK RX3 6 128 q.2.1 q.1 q.2.2.1 q.2.2.2 := List.forall_mem_cons.mpr ⟨Or.inl ⟨yX3_readNumber, cX3_readNumber, 4, (some .int), 2, 43, _, sX3_readNumber, ⟨by decide, by decide⟩, ⟨jX3_readNumber, kRX3_112, uRX3⟩, ⟨by decide, by decide, rfl⟩, Or.inl ⟨rfl, rfl, iX3_readNumber, recvX3_readNumber⟩⟩, List.forall_mem_cons.mpr ⟨Or.inl ⟨yX2_addPiece, cX2_addPiece, 2, none, 0, 0, _, sX2_addPiece, ⟨by decide, by decide⟩, ⟨jX2_addPiece, kRX3_186, uRX2⟩, ⟨by decide, by decide, rfl⟩, Or.inl ⟨rfl, rfl, iX2_addPiece, recvX2_addPiece⟩⟩, List.forall_mem_cons.mpr ⟨Or.inl ⟨yX2_addRod, cX2_addRod, 2, none, 0, 0, _, sX2_addRod, ⟨by decide, by decide⟩, ⟨jX2_addRod, kRX3_178, uRX2⟩, ⟨by decide, by decide, rfl⟩, Or.inl ⟨rfl, rfl, iX2_addRod, recvX2_addRod⟩⟩, List.forall_mem_cons.mpr ⟨Or.inl ⟨yX3_readWord, cX3_readWord, 2, (some .boolean), 5, 107, _, sX3_readWord, ⟨by decide, by decide⟩, ⟨jX3_readWord, kRX3_108, uRX3⟩, ⟨by decide, by decide, rfl⟩, Or.inl ⟨rfl, rfl, iX3_readWord, recvX3_readWord⟩⟩, List.forall_mem_cons.mpr ⟨Or.inl ⟨yX3_refuse, cX3_refuse, 1, none, 0, 0, _, sX3_refuse, ⟨by decide, by decide⟩, ⟨jX3_refuse, kRX3_144, uRX3⟩, ⟨by decide, by decide, rfl⟩, Or.inl ⟨rfl, rfl, iX3_refuse, recvX3_refuse⟩⟩, List.forall_mem_cons.mpr ⟨Or.inl ⟨yX3_note, cX3_note, 3, none, 0, 0, _, sX3_note, ⟨by decide, by decide⟩, ⟨jX3_note, kRX3_154, uRX3⟩, ⟨by decide, by decide, rfl⟩, Or.inl ⟨rfl, rfl, iX3_note, recvX3_note⟩⟩, fun _ h => absurd h List.not_mem_nil⟩⟩⟩⟩⟩⟩
theorem sX3_readParishLine : qm_Snd yX3_readParishLine cX3_readParishLine 2 none 6 128 wX3_readParishLine := qm_met (fld := fun k => qm_lk k pfRX3) (con := fun k => qm_lk k pcRX3) (call := fun k => qm_lk k [(112, 0, 3, wX3_readNumber), (186, 0, 2, wX2_addPiece), (178, 0, 2, wX2_addRod), (108, 0, 2, wX3_readWord), (144, 0, 1, wX3_refuse), (154, 0, 3, wX3_note)]) (tab := qm_tab aX3_readParishLine) (plainFor_of_name (by decide)) (qm_fld_ok pfRX3_ok) (qm_con_ok pcRX3_ok) (fun idx kd n f hc => cX3_readParishLine_ok (idx, kd, n, f) (qm_lk_mem hc)) (qm_tab_ok aX3_readParishLine_ok) (fun vs h o hw => by
  unfold wX3_readParishLine at hw
  split at hw
  · obtain ⟨r, hr, rfl⟩ := Option.map_eq_some_iff.mp hw
    exact ⟨Nat.le_of_ble_eq_true rfl, rX3_readParishLine_0 (hr)⟩
  · cases hw)
theorem recvX3_readParishLine : ∀ vs h o, wX3_readParishLine vs h = some o → ∃ ci a rest, vs = qm_r 0 ci a :: rest ∧ qm_R ci = yX3_readParishLine.cls := by
  intro vs h o hw
  unfold wX3_readParishLine at hw
  split at hw
  · exact ⟨_, _, _, rfl, rfl⟩
  · cases hw
-- RX3 readClueWord()I
theorem jX3_readClueWord : Jvm.Cond.code yX3_readClueWord cX3_readClueWord 1 (some .int) ∈ qm_all := List.mem_filter.mpr ⟨by decide +kernel, rfl⟩
theorem iX3_readClueWord : Jvm.Cond.instanceMethod yX3_readClueWord ∈ qm_all ∧ Jvm.Cond.selects yX3_readClueWord.cls yX3_readClueWord yX3_readClueWord ∈ qm_all := ⟨List.mem_filter.mpr ⟨by decide +kernel, rfl⟩, List.mem_filter.mpr ⟨by decide +kernel, rfl⟩⟩
def wX3_readClueWord : qm_C := fun vs h => match vs with
  | [.inr (.inr (some (0, 3, p0)))] => (qX3_readClueWord p0 h).map qm_Gi
  | _ => none
def aX3_readClueWord : List (Option (Instr × Nat)) := [some (.aload_n 0, 1), some (.ldc 116, 2), none, some (.invokevirtual 108, 3), none, none, some (.ifCond .eq 5, 3), none, none, some (.iconst 0, 1), some (.ireturn, 1), some (.aload_n 0, 1), some (.ldc 200, 2), none, some (.invokevirtual 108, 3), none, none, some (.ifCond .eq 5, 3), none, none, some (.iconst 1, 1), some (.ireturn, 1), some (.aload_n 0, 1), some (.ldc 202, 2), none, some (.invokevirtual 108, 3), none, none, some (.ifCond .eq 5, 3), none, none, some (.iconst 2, 1), some (.ireturn, 1), some (.aload_n 0, 1), some (.ldc 204, 2), none, some (.invokevirtual 108, 3), none, none, some (.ifCond .ne 7, 3), none, none, some (.aload_n 0, 1), some (.invokevirtual 144, 3), none, none, some (.iconst 3, 1), some (.ireturn, 1)]
theorem aX3_readClueWord_ok : qm_tabok cX3_readClueWord aX3_readClueWord = true := by decide +kernel
def mX3_readClueWord : qm_M := ((some .int), (fun k => qm_lk k pfRX3), (fun k => qm_lk k pcRX3), (fun k => qm_lk k [(108, 0, 2, wX3_readWord), (144, 0, 1, wX3_refuse)]), qm_tab aX3_readClueWord)
set_option maxRecDepth 20000 in
set_option maxHeartbeats 2000000 in
theorem rX3_readClueWord_0   {a0 : Nat} {h : qm_H} {r : Int32 × qm_H} (ho : qX3_readClueWord  a0 h = some r) : qm_Ret mX3_readClueWord (0, [some (qm_r 0 3 a0)], [], h) (qm_Gi r) := by
  unfold qX3_readClueWord at ho
  refine qm_Ret.sts 2 (f' := (3, [some (qm_r 0 3 a0)], [qm_r 10 1 0, qm_r 0 3 a0], h)) rfl ?_
  obtain ⟨r2, h1, hr, ho⟩ := qm_b2e ho
  refine qm_Ret.call (X := wX3_readWord [qm_r 0 3 a0, qm_r 10 1 0] h) (o1 := (some (qm_i r2), h1)) (qm_mp (G := qm_Gi) hr) rfl ?_
  show qm_Ret _ (6, [some (qm_r 0 3 a0)], [qm_i r2], h1) _
  refine qm_Ret.eq (t := 11) (e := 9) rfl (fun hc => ?_) (fun hc => ?_)
  · rw [if_pos hc] at ho
    refine qm_Ret.sts 2 (f' := (14, [some (qm_r 0 3 a0)], [qm_r 10 13 0, qm_r 0 3 a0], h1)) rfl ?_
    obtain ⟨r4, h3, hr, ho⟩ := qm_b2e ho
    refine qm_Ret.call (X := wX3_readWord [qm_r 0 3 a0, qm_r 10 13 0] h1) (o1 := (some (qm_i r4), h3)) (qm_mp (G := qm_Gi) hr) rfl ?_
    show qm_Ret _ (17, [some (qm_r 0 3 a0)], [qm_i r4], h3) _
    refine qm_Ret.eq (t := 22) (e := 20) rfl (fun hc => ?_) (fun hc => ?_)
    · rw [if_pos hc] at ho
      refine qm_Ret.sts 2 (f' := (25, [some (qm_r 0 3 a0)], [qm_r 10 14 0, qm_r 0 3 a0], h3)) rfl ?_
      obtain ⟨r6, h5, hr, ho⟩ := qm_b2e ho
      refine qm_Ret.call (X := wX3_readWord [qm_r 0 3 a0, qm_r 10 14 0] h3) (o1 := (some (qm_i r6), h5)) (qm_mp (G := qm_Gi) hr) rfl ?_
      show qm_Ret _ (28, [some (qm_r 0 3 a0)], [qm_i r6], h5) _
      refine qm_Ret.eq (t := 33) (e := 31) rfl (fun hc => ?_) (fun hc => ?_)
      · rw [if_pos hc] at ho
        refine qm_Ret.sts 2 (f' := (36, [some (qm_r 0 3 a0)], [qm_r 10 15 0, qm_r 0 3 a0], h5)) rfl ?_
        obtain ⟨r8, h7, hr, ho⟩ := qm_b2e ho
        refine qm_Ret.call (X := wX3_readWord [qm_r 0 3 a0, qm_r 10 15 0] h5) (o1 := (some (qm_i r8), h7)) (qm_mp (G := qm_Gi) hr) rfl ?_
        show qm_Ret _ (39, [some (qm_r 0 3 a0)], [qm_i r8], h7) _
        refine qm_Ret.ne (t := 46) (e := 42) rfl (fun hc => ?_) (fun hc => ?_)
        · rw [if_pos hc] at ho
          refine qm_Ret.sts 1 (f' := (43, [some (qm_r 0 3 a0)], [qm_r 0 3 a0], h7)) rfl ?_
          obtain ⟨h9, hr, ho⟩ := qm_bd ho
          refine qm_Ret.call (X := wX3_refuse [qm_r 0 3 a0] h7) (o1 := (none, h9)) (qm_mp (G := qm_Gv) hr) rfl ?_
          show qm_Ret _ (46, [some (qm_r 0 3 a0)], [], h9) _
          cases ho
          exact qm_Ret.ret 2 rfl
        · rw [if_neg hc] at ho
          cases ho
          exact qm_Ret.ret 2 rfl
      · rw [if_neg hc] at ho
        cases ho
        exact qm_Ret.ret 2 rfl
    · rw [if_neg hc] at ho
      cases ho
      exact qm_Ret.ret 2 rfl
  · rw [if_neg hc] at ho
    cases ho
    exact qm_Ret.ret 2 rfl
theorem cX3_readClueWord_ok : ∀ q ∈ ([(108, 0, 2, wX3_readWord), (144, 0, 1, wX3_refuse)] : List (Nat × Nat × Nat × qm_C)), qm_CallOK RX3 6 128 q.2.1 q.1 q.2.2.1 q.2.2.2 := List.forall_mem_cons.mpr ⟨Or.inl ⟨yX3_readWord, cX3_readWord, 2, (some .boolean), 5, 107, _, sX3_readWord, ⟨by decide, by decide⟩, ⟨jX3_readWord, kRX3_108, uRX3⟩, ⟨by decide, by decide, rfl⟩, Or.inl ⟨rfl, rfl, iX3_readWord, recvX3_readWord⟩⟩, List.forall_mem_cons.mpr ⟨Or.inl ⟨yX3_refuse, cX3_refuse, 1, none, 0, 0, _, sX3_refuse, ⟨by decide, by decide⟩, ⟨jX3_refuse, kRX3_144, uRX3⟩, ⟨by decide, by decide, rfl⟩, Or.inl ⟨rfl, rfl, iX3_refuse, recvX3_refuse⟩⟩, fun _ h => absurd h List.not_mem_nil⟩⟩
theorem sX3_readClueWord : qm_Snd yX3_readClueWord cX3_readClueWord 1 (some .int) 6 128 wX3_readClueWord := qm_met (fld := fun k => qm_lk k pfRX3) (con := fun k => qm_lk k pcRX3) (call := fun k => qm_lk k [(108, 0, 2, wX3_readWord), (144, 0, 1, wX3_refuse)]) (tab := qm_tab aX3_readClueWord) (plainFor_of_name (by decide)) (qm_fld_ok pfRX3_ok) (qm_con_ok pcRX3_ok) (fun idx kd n f hc => cX3_readClueWord_ok (idx, kd, n, f) (qm_lk_mem hc)) (qm_tab_ok aX3_readClueWord_ok) (fun vs h o hw => by
  unfold wX3_readClueWord at hw
  split at hw
  · obtain ⟨r, hr, rfl⟩ := Option.map_eq_some_iff.mp hw
    exact ⟨Nat.le_of_ble_eq_true rfl, rX3_readClueWord_0 (hr)⟩
  · cases hw)
theorem recvX3_readClueWord : ∀ vs h o, wX3_readClueWord vs h = some o → ∃ ci a rest, vs = qm_r 0 ci a :: rest ∧ qm_R ci = yX3_readClueWord.cls := by
  intro vs h o hw
  unfold wX3_readClueWord at hw
  split at hw
  · exact ⟨_, _, _, rfl, rfl⟩
  · cases hw
