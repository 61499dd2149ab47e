-- RX12 kept(I)I
theorem jX12_kept : Jvm.Cond.code yX12_kept cX12_kept 3 (some .int) ∈ qm_all := List.mem_filter.mpr ⟨by decide +kernel, rfl⟩
theorem iX12_kept : Jvm.Cond.instanceMethod yX12_kept ∈ qm_all ∧ Jvm.Cond.selects yX12_kept.cls yX12_kept yX12_kept ∈ qm_all := ⟨List.mem_filter.mpr ⟨by decide +kernel, rfl⟩, List.mem_filter.mpr ⟨by decide +kernel, rfl⟩⟩
def wX12_kept : qm_C := fun vs h => match vs with
  | [.inr (.inr (some (0, 12, p0))), .inl p1] => (qX12_kept p0 p1 h).map qm_Gi
  | _ => none
def aX12_kept : List (Option (Instr × Nat)) := [some (.aload_n 0, 1), some (.iconst 0, 1), some (.putfield 88, 3), none, none, some (.aload_n 0, 1), some (.iload_n 1, 1), some (.invokevirtual 439, 3), none, none, some (.ifCond .ne 5, 3), none, none, some (.iconst (-1), 1), some (.ireturn, 1), some (.aload_n 0, 1), some (.iconst 0, 1), some (.invokevirtual 452, 3), none, none, some (.istore_n 2, 1), some (.iload_n 2, 1), some (.ldc_w 390, 3), none, none, some (.if_icmp .lt 7, 3), none, none, some (.iconst (-1), 1), some (.goto 9, 3), none, none, some (.aload_n 0, 1), some (.getfield 433, 3), none, none, some (.iload_n 2, 1), some (.isub, 1), some (.ireturn, 1)]
theorem aX12_kept_ok : qm_tabok cX12_kept aX12_kept = true := by decide +kernel
def mX12_kept : qm_M := ((some .int), (fun k => qm_lk k pfRX12), (fun k => qm_lk k pcRX12), (fun k => qm_lk k [(439, 0, 2, wX12_hasParish), (452, 0, 2, wX12_costAll)]), qm_tab aX12_kept)
set_option maxRecDepth 20000 in
set_option maxHeartbeats 2000000 in
theorem rX12_kept_0   {a0 : Nat} {x1 : Int32} {h : qm_H} {r : Int32 × qm_H} (ho : qX12_kept  a0 x1 h = some r) : qm_Ret mX12_kept (0, [some (qm_r 0 12 a0), some (qm_i x1), none], [], h) (qm_Gi r) := by
  unfold qX12_kept at ho
  refine qm_Ret.sts 3 (f' := (5, [some (qm_r 0 12 a0), some (qm_i x1), none], [], (qm_seti h a0 0 (0 : Int32)))) rfl ?_
  refine qm_Ret.lets (F := fun h1 => (5, [some (qm_r 0 12 a0), some (qm_i x1), none], [], h1)) (G := qm_Gi) ho (fun h1 ho => ?_)
  refine qm_Ret.sts 2 (f' := (7, [some (qm_r 0 12 a0), some (qm_i x1), none], [qm_i x1, qm_r 0 12 a0], h1)) rfl ?_
  obtain ⟨r3, h2, hr, ho⟩ := qm_b2e ho
  refine qm_Ret.call (X := wX12_hasParish [qm_r 0 12 a0, qm_i x1] h1) (o1 := (some (qm_i r3), h2)) (qm_mp (G := qm_Gi) hr) rfl ?_
  show qm_Ret _ (10, [some (qm_r 0 12 a0), some (qm_i x1), none], [qm_i r3], h2) _
  refine qm_Ret.ne (t := 15) (e := 13) rfl (fun hc => ?_) (fun hc => ?_)
  · rw [if_pos hc] at ho
    cases ho
    exact qm_Ret.ret 2 rfl
  · rw [if_neg hc] at ho
    refine qm_Ret.sts 2 (f' := (17, [some (qm_r 0 12 a0), some (qm_i x1), none], [qm_i (0 : Int32), qm_r 0 12 a0], h2)) rfl ?_
    obtain ⟨r5, h4, hr, ho⟩ := qm_b2e ho
    refine qm_Ret.call (X := wX12_costAll [qm_r 0 12 a0, qm_i (0 : Int32)] h2) (o1 := (some (qm_i r5), h4)) (qm_mp (G := qm_Gi) hr) rfl ?_
    show qm_Ret _ (20, [some (qm_r 0 12 a0), some (qm_i x1), none], [qm_i r5], h4) _
    refine qm_Ret.sts 3 (f' := (25, [some (qm_r 0 12 a0), some (qm_i x1), some (qm_i r5)], [qm_i (1000000 : Int32), qm_i r5], h4)) rfl ?_
    refine qm_Ret.lt (t := 32) (e := 28) rfl (fun hc => ?_) (fun hc => ?_)
    · rw [if_pos hc] at ho
      cases ho
      exact qm_Ret.ret 5 rfl
    · rw [if_neg hc] at ho
      cases ho
      exact qm_Ret.ret 3 rfl
theorem cX12_kept_ok : ∀ q ∈ ([(439, 0, 2, wX12_hasParish), (452, 0, 2, wX12_costAll)] : List (Nat × Nat × Nat × qm_C)), qm_CallOK RX12 4 93 q.2.1 q.1 q.2.2.1 q.2.2.2 := List.forall_mem_cons.mpr ⟨Or.inl ⟨yX12_hasParish, cX12_hasParish, 2, (some .boolean), 2, 44, _, sX12_hasParish, ⟨by decide, by decide⟩, ⟨jX12_hasParish, kRX12_439, uRX12⟩, ⟨by decide, by decide, rfl⟩, Or.inl ⟨rfl, rfl, iX12_hasParish, recvX12_hasParish⟩⟩, List.forall_mem_cons.mpr ⟨Or.inl ⟨yX12_costAll, cX12_costAll, 3, (some .int), 3, 71, _, sX12_costAll, ⟨by decide, by decide⟩, ⟨jX12_costAll, kRX12_452, uRX12⟩, ⟨by decide, by decide, rfl⟩, Or.inl ⟨rfl, rfl, iX12_costAll, recvX12_costAll⟩⟩, fun _ h => absurd h List.not_mem_nil⟩⟩
theorem sX12_kept : qm_Snd yX12_kept cX12_kept 3 (some .int) 4 93 wX12_kept := qm_met (fld := fun k => qm_lk k pfRX12) (con := fun k => qm_lk k pcRX12) (call := fun k => qm_lk k [(439, 0, 2, wX12_hasParish), (452, 0, 2, wX12_costAll)]) (tab := qm_tab aX12_kept) (plainFor_of_name (by decide)) (qm_fld_ok pfRX12_ok) (qm_con_ok pcRX12_ok) (fun idx kd n f hc => cX12_kept_ok (idx, kd, n, f) (qm_lk_mem hc)) (qm_tab_ok aX12_kept_ok) (fun vs h o hw => by
  unfold wX12_kept at hw
  split at hw
  · obtain ⟨r, hr, rfl⟩ := Option.map_eq_some_iff.mp hw
    exact ⟨Nat.le_of_ble_eq_true rfl, rX12_kept_0 (hr)⟩
  · cases hw)
theorem recvX12_kept : ∀ vs h o, wX12_kept vs h = some o → ∃ ci a rest, vs = qm_r 0 ci a :: rest ∧ qm_R ci = yX12_kept.cls := by
  intro vs h o hw
  unfold wX12_kept at hw
  split at hw
  · exact ⟨_, _, _, rfl, rfl⟩
  · cases hw
-- RX12 count(I)I
theorem jX12_count : Jvm.Cond.code yX12_count cX12_count 2 (some .int) ∈ qm_all := List.mem_filter.mpr ⟨by decide +kernel, rfl⟩
theorem iX12_count : Jvm.Cond.instanceMethod yX12_count ∈ qm_all ∧ Jvm.Cond.selects yX12_count.cls yX12_count yX12_count ∈ qm_all := ⟨List.mem_filter.mpr ⟨by decide +kernel, rfl⟩, List.mem_filter.mpr ⟨by decide +kernel, rfl⟩⟩
def wX12_count : qm_C := fun vs h => match vs with
  | [.inr (.inr (some (0, 12, p0))), .inl p1] => (qX12_count p0 p1 h).map qm_Gi
  | _ => none
def aX12_count : List (Option (Instr × Nat)) := [some (.aload_n 0, 1), some (.iconst 0, 1), some (.putfield 88, 3), none, none, some (.iload_n 1, 1), some (.iconst 0, 1), some (.iconst 3, 1), some (.invokestatic 100, 3), none, none, some (.ifCond .eq 12, 3), none, none, some (.aload_n 0, 1), some (.getfield 23, 3), none, none, some (.iload_n 1, 1), some (.iaload, 1), some (.goto 5, 3), none, none, some (.bipush (-2), 2), none, some (.ireturn, 1)]
theorem aX12_count_ok : qm_tabok cX12_count aX12_count = true := by decide +kernel
def mX12_count : qm_M := ((some .int), (fun k => qm_lk k pfRX12), (fun k => qm_lk k pcRX12), (fun k => qm_lk k [(100, 2, 3, wX12_in)]), qm_tab aX12_count)
set_option maxRecDepth 20000 in
set_option maxHeartbeats 2000000 in
theorem rX12_count_0   {a0 : Nat} {x1 : Int32} {h : qm_H} {r : Int32 × qm_H} (ho : qX12_count  a0 x1 h = some r) : qm_Ret mX12_count (0, [some (qm_r 0 12 a0), some (qm_i x1)], [], h) (qm_Gi r) := by
  unfold qX12_count at ho
  refine qm_Ret.sts 3 (f' := (5, [some (qm_r 0 12 a0), some (qm_i x1)], [], (qm_seti h a0 0 (0 : Int32)))) rfl ?_
  refine qm_Ret.lets (F := fun h1 => (5, [some (qm_r 0 12 a0), some (qm_i x1)], [], h1)) (G := qm_Gi) ho (fun h1 ho => ?_)
  refine qm_Ret.sts 3 (f' := (8, [some (qm_r 0 12 a0), some (qm_i x1)], [qm_i (3 : Int32), qm_i (0 : Int32), qm_i x1], h1)) rfl ?_
  obtain ⟨r3, h2, hr, ho⟩ := qm_b2e ho
  refine qm_Ret.call (X := wX12_in [qm_i x1, qm_i (0 : Int32), qm_i (3 : Int32)] h1) (o1 := (some (qm_i r3), h2)) (qm_mp (G := qm_Gi) hr) rfl ?_
  show qm_Ret _ (11, [some (qm_r 0 12 a0), some (qm_i x1)], [qm_i r3], h2) _
  refine qm_Ret.eq (t := 23) (e := 14) rfl (fun hc => ?_) (fun hc => ?_)
  · rw [if_pos hc] at ho
    cases ho
    exact qm_Ret.ret 2 rfl
  · rw [if_neg hc] at ho
    refine qm_Ret.sts 3 (f' := (19, [some (qm_r 0 12 a0), some (qm_i x1)], [qm_i x1, qm_r 1 16 (a0 + 5)], h2)) rfl ?_
    obtain ⟨hg, ho⟩ := qm_ifn ho
    refine qm_Ret.gn (f1 := (20, [some (qm_r 0 12 a0), some (qm_i x1)], [qm_i (h2.1 (a0 + 5) (x1).toNatClampNeg)], h2)) hg rfl ?_
    cases ho
    exact qm_Ret.ret 2 rfl
theorem cX12_count_ok : ∀ q ∈ ([(100, 2, 3, wX12_in)] : List (Nat × Nat × Nat × qm_C)), qm_CallOK RX12 1 22 q.2.1 q.1 q.2.2.1 q.2.2.2 := List.forall_mem_cons.mpr ⟨Or.inl ⟨yX12_in, cX12_in, 3, (some .boolean), 0, 0, _, sX12_in, ⟨by decide, by decide⟩, ⟨jX12_in, kRX12_100, uRX12⟩, ⟨by decide, by decide, rfl⟩, Or.inr (Or.inl ⟨rfl, rfl, iX12_in⟩)⟩, fun _ h => absurd h List.not_mem_nil⟩
theorem sX12_count : qm_Snd yX12_count cX12_count 2 (some .int) 1 22 wX12_count := qm_met (fld := fun k => qm_lk k pfRX12) (con := fun k => qm_lk k pcRX12) (call := fun k => qm_lk k [(100, 2, 3, wX12_in)]) (tab := qm_tab aX12_count) (plainFor_of_name (by decide)) (qm_fld_ok pfRX12_ok) (qm_con_ok pcRX12_ok) (fun idx kd n f hc => cX12_count_ok (idx, kd, n, f) (qm_lk_mem hc)) (qm_tab_ok aX12_count_ok) (fun vs h o hw => by
  unfold wX12_count at hw
  split at hw
  · obtain ⟨r, hr, rfl⟩ := Option.map_eq_some_iff.mp hw
    exact ⟨Nat.le_of_ble_eq_true rfl, rX12_count_0 (hr)⟩
  · cases hw)
theorem recvX12_count : ∀ vs h o, wX12_count vs h = some o → ∃ ci a rest, vs = qm_r 0 ci a :: rest ∧ qm_R ci = yX12_count.cls := by
  intro vs h o hw
  unfold wX12_count at hw
  split at hw
  · exact ⟨_, _, _, rfl, rfl⟩
  · cases hw
-- RX12 image(I)Z
theorem jX12_image : Jvm.Cond.code yX12_image cX12_image 2 (some .boolean) ∈ qm_all := List.mem_filter.mpr ⟨by decide +kernel, rfl⟩
theorem iX12_image : Jvm.Cond.instanceMethod yX12_image ∈ qm_all ∧ Jvm.Cond.selects yX12_image.cls yX12_image yX12_image ∈ qm_all := ⟨List.mem_filter.mpr ⟨by decide +kernel, rfl⟩, List.mem_filter.mpr ⟨by decide +kernel, rfl⟩⟩
def wX12_image : qm_C := fun vs h => match vs with
  | [.inr (.inr (some (0, 12, p0))), .inl p1] => (qX12_image p0 p1 h).map qm_Gi
  | _ => none
def aX12_image : List (Option (Instr × Nat)) := [some (.aload_n 0, 1), some (.iconst 0, 1), some (.putfield 88, 3), none, none, some (.iload_n 1, 1), some (.iconst 0, 1), some (.iconst 2, 1), some (.invokestatic 100, 3), none, none, some (.ifCond .ne 5, 3), none, none, some (.iconst 0, 1), some (.ireturn, 1), some (.aload_n 0, 1), some (.iconst 0, 1), some (.iload_n 1, 1), some (.iconst 1, 1), some (.iadd, 1), some (.invokevirtual 524, 3), none, none, some (.aload_n 0, 1), some (.getfield 84, 3), none, none, some (.iload_n 1, 1), some (.iconst 1, 1), some (.bastore, 1), some (.iconst 1, 1), some (.ireturn, 1)]
theorem aX12_image_ok : qm_tabok cX12_image aX12_image = true := by decide +kernel
def mX12_image : qm_M := ((some .boolean), (fun k => qm_lk k pfRX12), (fun k => qm_lk k pcRX12), (fun k => qm_lk k [(100, 2, 3, wX12_in), (524, 0, 3, wX12_copyAll)]), qm_tab aX12_image)
set_option maxRecDepth 20000 in
set_option maxHeartbeats 2000000 in
theorem rX12_image_0   {a0 : Nat} {x1 : Int32} {h : qm_H} {r : Int32 × qm_H} (ho : qX12_image  a0 x1 h = some r) : qm_Ret mX12_image (0, [some (qm_r 0 12 a0), some (qm_i x1)], [], h) (qm_Gi r) := by
  unfold qX12_image at ho
  refine qm_Ret.sts 3 (f' := (5, [some (qm_r 0 12 a0), some (qm_i x1)], [], (qm_seti h a0 0 (0 : Int32)))) rfl ?_
  refine qm_Ret.lets (F := fun h1 => (5, [some (qm_r 0 12 a0), some (qm_i x1)], [], h1)) (G := qm_Gi) ho (fun h1 ho => ?_)
  refine qm_Ret.sts 3 (f' := (8, [some (qm_r 0 12 a0), some (qm_i x1)], [qm_i (2 : Int32), qm_i (0 : Int32), qm_i x1], h1)) rfl ?_
  obtain ⟨r3, h2, hr, ho⟩ := qm_b2e ho
  refine qm_Ret.call (X := wX12_in [qm_i x1, qm_i (0 : Int32), qm_i (2 : Int32)] h1) (o1 := (some (qm_i r3), h2)) (qm_mp (G := qm_Gi) hr) rfl ?_
  show qm_Ret _ (11, [some (qm_r 0 12 a0), some (qm_i x1)], [qm_i r3], h2) _
  refine qm_Ret.ne (t := 16) (e := 14) rfl (fun hc => ?_) (fun hc => ?_)
  · rw [if_pos hc] at ho
    cases ho
    exact qm_Ret.ret 2 rfl
  · rw [if_neg hc] at ho
    refine qm_Ret.sts 5 (f' := (21, [some (qm_r 0 12 a0), some (qm_i x1)], [qm_i (x1 + (1 : Int32)), qm_i (0 : Int32), qm_r 0 12 a0], h2)) rfl ?_
    obtain ⟨h4, hr, ho⟩ := qm_bd ho
    refine qm_Ret.call (X := wX12_copyAll [qm_r 0 12 a0, qm_i (0 : Int32), qm_i (x1 + (1 : Int32))] h2) (o1 := (none, h4)) (qm_mp (G := qm_Gv) hr) rfl ?_
    show qm_Ret _ (24, [some (qm_r 0 12 a0), some (qm_i x1)], [], h4) _
    refine qm_Ret.sts 4 (f' := (30, [some (qm_r 0 12 a0), some (qm_i x1)], [qm_i (1 : Int32), qm_i x1, qm_r 3 3 (a0 + 25)], h4)) rfl ?_
    obtain ⟨hg, ho⟩ := qm_ifn ho
    refine qm_Ret.gn (f1 := (31, [some (qm_r 0 12 a0), some (qm_i x1)], [], (qm_seti h4 (a0 + 25) (x1).toNatClampNeg (vp_nar .boolean (1 : Int32))))) hg rfl ?_
    refine qm_Ret.lets (F := fun h5 => (31, [some (qm_r 0 12 a0), some (qm_i x1)], [], h5)) (G := qm_Gi) ho (fun h5 ho => ?_)
    cases ho
    exact qm_Ret.ret 2 rfl
theorem cX12_image_ok : ∀ q ∈ ([(100, 2, 3, wX12_in), (524, 0, 3, wX12_copyAll)] : List (Nat × Nat × Nat × qm_C)), qm_CallOK RX12 2 47 q.2.1 q.1 q.2.2.1 q.2.2.2 := List.forall_mem_cons.mpr ⟨Or.inl ⟨yX12_in, cX12_in, 3, (some .boolean), 0, 0, _, sX12_in, ⟨by decide, by decide⟩, ⟨jX12_in, kRX12_100, uRX12⟩, ⟨by decide, by decide, rfl⟩, Or.inr (Or.inl ⟨rfl, rfl, iX12_in⟩)⟩, List.forall_mem_cons.mpr ⟨Or.inl ⟨yX12_copyAll, cX12_copyAll, 4, none, 1, 24, _, sX12_copyAll, ⟨by decide, by decide⟩, ⟨jX12_copyAll, kRX12_524, uRX12⟩, ⟨by decide, by decide, rfl⟩, Or.inl ⟨rfl, rfl, iX12_copyAll, recvX12_copyAll⟩⟩, fun _ h => absurd h List.not_mem_nil⟩⟩
theorem sX12_image : qm_Snd yX12_image cX12_image 2 (some .boolean) 2 47 wX12_image := qm_met (fld := fun k => qm_lk k pfRX12) (con := fun k => qm_lk k pcRX12) (call := fun k => qm_lk k [(100, 2, 3, wX12_in), (524, 0, 3, wX12_copyAll)]) (tab := qm_tab aX12_image) (plainFor_of_name (by decide)) (qm_fld_ok pfRX12_ok) (qm_con_ok pcRX12_ok) (fun idx kd n f hc => cX12_image_ok (idx, kd, n, f) (qm_lk_mem hc)) (qm_tab_ok aX12_image_ok) (fun vs h o hw => by
  unfold wX12_image at hw
  split at hw
  · obtain ⟨r, hr, rfl⟩ := Option.map_eq_some_iff.mp hw
    exact ⟨Nat.le_of_ble_eq_true rfl, rX12_image_0 (hr)⟩
  · cases hw)
theorem recvX12_image : ∀ vs h o, wX12_image vs h = some o → ∃ ci a rest, vs = qm_r 0 ci a :: rest ∧ qm_R ci = yX12_image.cls := by
  intro vs h o hw
  unfold wX12_image at hw
  split at hw
  · exact ⟨_, _, _, rfl, rfl⟩
  · cases hw
-- RX12 again(I)Z
theorem jX12_again : Jvm.Cond.code yX12_again cX12_again 2 (some .boolean) ∈ qm_all := List.mem_filter.mpr ⟨by decide +kernel, rfl⟩
theorem iX12_again : Jvm.Cond.instanceMethod yX12_again ∈ qm_all ∧ Jvm.Cond.selects yX12_again.cls yX12_again yX12_again ∈ qm_all := ⟨List.mem_filter.mpr ⟨by decide +kernel, rfl⟩, List.mem_filter.mpr ⟨by decide +kernel, rfl⟩⟩
def wX12_again : qm_C := fun vs h => match vs with
  | [.inr (.inr (some (0, 12, p0))), .inl p1] => (qX12_again p0 p1 h).map qm_Gi
  | _ => none
def aX12_again : List (Option (Instr × Nat)) := [some (.aload_n 0, 1), some (.iconst 0, 1), some (.putfield 88, 3), none, none, some (.iload_n 1, 1), some (.iconst 0, 1), some (.iconst 2, 1), some (.invokestatic 100, 3), none, none, some (.ifCond .eq 12, 3), none, none, some (.aload_n 0, 1), some (.getfield 84, 3), none, none, some (.iload_n 1, 1), some (.baload, 1), some (.ifCond .ne 5, 3), none, none, some (.iconst 0, 1), some (.ireturn, 1), some (.aload_n 0, 1), some (.iload_n 1, 1), some (.iconst 1, 1), some (.iadd, 1), some (.iconst 0, 1), some (.invokevirtual 524, 3), none, none, some (.iconst 1, 1), some (.ireturn, 1)]
theorem aX12_again_ok : qm_tabok cX12_again aX12_again = true := by decide +kernel
def mX12_again : qm_M := ((some .boolean), (fun k => qm_lk k pfRX12), (fun k => qm_lk k pcRX12), (fun k => qm_lk k [(100, 2, 3, wX12_in), (524, 0, 3, wX12_copyAll)]), qm_tab aX12_again)
set_option maxRecDepth 20000 in
set_option maxHeartbeats 2000000 in
theorem rX12_again_0   {a0 : Nat} {x1 : Int32} {h : qm_H} {r : Int32 × qm_H} (ho : qX12_again  a0 x1 h = some r) : qm_Ret mX12_again (0, [some (qm_r 0 12 a0), some (qm_i x1)], [], h) (qm_Gi r) := by
  unfold qX12_again at ho
  refine qm_Ret.sts 3 (f' := (5, [some (qm_r 0 12 a0), some (qm_i x1)], [], (qm_seti h a0 0 (0 : Int32)))) rfl ?_
  refine qm_Ret.lets (F := fun h1 => (5, [some (qm_r 0 12 a0), some (qm_i x1)], [], h1)) (G := qm_Gi) ho (fun h1 ho => ?_)
  refine qm_Ret.sts 3 (f' := (8, [some (qm_r 0 12 a0), some (qm_i x1)], [qm_i (2 : Int32), qm_i (0 : Int32), qm_i x1], h1)) rfl ?_
  obtain ⟨r3, h2, hr, ho⟩ := qm_b2e ho
  refine qm_Ret.call (X := wX12_in [qm_i x1, qm_i (0 : Int32), qm_i (2 : Int32)] h1) (o1 := (some (qm_i r3), h2)) (qm_mp (G := qm_Gi) hr) rfl ?_
  show qm_Ret _ (11, [some (qm_r 0 12 a0), some (qm_i x1)], [qm_i r3], h2) _
  refine qm_Ret.eq (t := 23) (e := 14) rfl (fun hc => ?_) (fun hc => ?_)
  · rw [if_pos hc] at ho
    cases ho
    exact qm_Ret.ret 2 rfl
  · rw [if_neg hc] at ho
    refine qm_Ret.sts 3 (f' := (19, [some (qm_r 0 12 a0), some (qm_i x1)], [qm_i x1, qm_r 3 3 (a0 + 25)], h2)) rfl ?_
    obtain ⟨hg, ho⟩ := qm_ifn ho
    refine qm_Ret.gn (f1 := (20, [some (qm_r 0 12 a0), some (qm_i x1)], [qm_i (h2.1 (a0 + 25) (x1).toNatClampNeg)], h2)) hg rfl ?_
    refine qm_Ret.ne (t := 25) (e := 23) rfl (fun hc => ?_) (fun hc => ?_)
    · rw [if_pos hc] at ho
      cases ho
      exact qm_Ret.ret 2 rfl
    · rw [if_neg hc] at ho
      refine qm_Ret.sts 5 (f' := (30, [some (qm_r 0 12 a0), some (qm_i x1)], [qm_i (0 : Int32), qm_i (x1 + (1 : Int32)), qm_r 0 12 a0], h2)) rfl ?_
      obtain ⟨h4, hr, ho⟩ := qm_bd ho
      refine qm_Ret.call (X := wX12_copyAll [qm_r 0 12 a0, qm_i (x1 + (1 : Int32)), qm_i (0 : Int32)] h2) (o1 := (none, h4)) (qm_mp (G := qm_Gv) hr) rfl ?_
      show qm_Ret _ (33, [some (qm_r 0 12 a0), some (qm_i x1)], [], h4) _
      cases ho
      exact qm_Ret.ret 2 rfl
theorem cX12_again_ok : ∀ q ∈ ([(100, 2, 3, wX12_in), (524, 0, 3, wX12_copyAll)] : List (Nat × Nat × Nat × qm_C)), qm_CallOK RX12 2 47 q.2.1 q.1 q.2.2.1 q.2.2.2 := List.forall_mem_cons.mpr ⟨Or.inl ⟨yX12_in, cX12_in, 3, (some .boolean), 0, 0, _, sX12_in, ⟨by decide, by decide⟩, ⟨jX12_in, kRX12_100, uRX12⟩, ⟨by decide, by decide, rfl⟩, Or.inr (Or.inl ⟨rfl, rfl, iX12_in⟩)⟩, List.forall_mem_cons.mpr ⟨Or.inl ⟨yX12_copyAll, cX12_copyAll, 4, none, 1, 24, _, sX12_copyAll, ⟨by decide, by decide⟩, ⟨jX12_copyAll, kRX12_524, uRX12⟩, ⟨by decide, by decide, rfl⟩, Or.inl ⟨rfl, rfl, iX12_copyAll, recvX12_copyAll⟩⟩, fun _ h => absurd h List.not_mem_nil⟩⟩
theorem sX12_again : qm_Snd yX12_again cX12_again 2 (some .boolean) 2 47 wX12_again := qm_met (fld := fun k => qm_lk k pfRX12) (con := fun k => qm_lk k pcRX12) (call := fun k => qm_lk k [(100, 2, 3, wX12_in), (524, 0, 3, wX12_copyAll)]) (tab := qm_tab aX12_again) (plainFor_of_name (by decide)) (qm_fld_ok pfRX12_ok) (qm_con_ok pcRX12_ok) (fun idx kd n f hc => cX12_again_ok (idx, kd, n, f) (qm_lk_mem hc)) (qm_tab_ok aX12_again_ok) (fun vs h o hw => by
  unfold wX12_again at hw
  split at hw
  · obtain ⟨r, hr, rfl⟩ := Option.map_eq_some_iff.mp hw
    exact ⟨Nat.le_of_ble_eq_true rfl, rX12_again_0 (hr)⟩
  · cases hw)
theorem recvX12_again : ∀ vs h o, wX12_again vs h = some o → ∃ ci a rest, vs = qm_r 0 ci a :: rest ∧ qm_R ci = yX12_again.cls := by
  intro vs h o hw
  unfold wX12_again at hw
  split at hw
  · exact ⟨_, _, _, rfl, rfl⟩
  · cases hw
