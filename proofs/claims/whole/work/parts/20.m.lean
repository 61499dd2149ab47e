-- RX7 lower(LWillowLaw$Basket;I)Z
theorem jX7_lower : Jvm.Cond.code yX7_lower cX7_lower 7 (some .boolean) ∈ qm_all := List.mem_filter.mpr ⟨by decide +kernel, rfl⟩
theorem iX7_lower : Jvm.Cond.instanceMethod yX7_lower ∈ qm_all ∧ Jvm.Cond.selects yX7_lower.cls yX7_lower yX7_lower ∈ qm_all := ⟨List.mem_filter.mpr ⟨by decide +kernel, rfl⟩, List.mem_filter.mpr ⟨by decide +kernel, rfl⟩⟩
def wX7_lower : qm_C := fun vs h => match vs with
  | [.inr (.inr (some (0, 7, p0))), .inr (.inr (some (0, 0, p1))), .inl p2] => (qX7_lower p0 p1 p2 h).map qm_Gi
  | _ => none
def aX7_lower : List (Option (Instr × Nat)) := [some (.aload_n 1, 1), some (.iload_n 2, 1), some (.invokevirtual 83, 3), none, none, some (.istore_n 3, 1), some (.aload_n 1, 1), some (.iload_n 2, 1), some (.invokevirtual 86, 3), none, none, some (.istore 4, 2), none, some (.ldc 74, 2), none, some (.istore 5, 2), none, some (.iload_n 3, 1), some (.ifCond .le 20, 3), none, none, some (.iload 5, 2), none, some (.aload_n 0, 1), some (.iload_n 2, 1), some (.aload_n 1, 1), some (.getfield 46, 3), none, none, some (.isub, 1), some (.invokevirtual 89, 3), none, none, some (.invokestatic 68, 3), none, none, some (.istore 5, 2), none, some (.iload_n 3, 1), some (.iconst 1, 1), some (.iadd, 1), some (.aload_n 1, 1), some (.getfield 41, 3), none, none, some (.if_icmp .ge 20, 3), none, none, some (.iload 5, 2), none, some (.aload_n 0, 1), some (.iload_n 2, 1), some (.aload_n 1, 1), some (.getfield 46, 3), none, none, some (.iadd, 1), some (.invokevirtual 89, 3), none, none, some (.invokestatic 68, 3), none, none, some (.istore 5, 2), none, some (.iload 4, 2), none, some (.ifCond .le 17, 3), none, none, some (.iload 5, 2), none, some (.aload_n 0, 1), some (.iload_n 2, 1), some (.iconst 1, 1), some (.isub, 1), some (.invokevirtual 89, 3), none, none, some (.invokestatic 68, 3), none, none, some (.istore 5, 2), none, some (.iload 4, 2), none, some (.iconst 1, 1), some (.iadd, 1), some (.aload_n 1, 1), some (.getfield 46, 3), none, none, some (.if_icmp .ge 17, 3), none, none, some (.iload 5, 2), none, some (.aload_n 0, 1), some (.iload_n 2, 1), some (.iconst 1, 1), some (.iadd, 1), some (.invokevirtual 89, 3), none, none, some (.invokestatic 68, 3), none, none, some (.istore 5, 2), none, some (.iload 5, 2), none, some (.aload_n 1, 1), some (.iload_n 2, 1), some (.invokestatic 75, 3), none, none, some (.iadd, 1), some (.istore 6, 2), none, some (.iload 6, 2), none, some (.aload_n 0, 1), some (.iload_n 2, 1), some (.invokevirtual 89, 3), none, none, some (.if_icmp .lt 5, 3), none, none, some (.iconst 0, 1), some (.ireturn, 1), some (.aload_n 0, 1), some (.getfield 19, 3), none, none, some (.iload_n 2, 1), some (.iload 6, 2), none, some (.iastore, 1), some (.iconst 1, 1), some (.ireturn, 1)]
theorem aX7_lower_ok : qm_tabok cX7_lower aX7_lower = true := by decide +kernel
def mX7_lower : qm_M := ((some .boolean), (fun k => qm_lk k pfRX7), (fun k => qm_lk k pcRX7), (fun k => qm_lk k [(75, 2, 2, wX7_costOf), (89, 0, 2, wX7_keyAt), (68, 2, 2, wJ9_min_7cf53), (83, 0, 2, wX0_rowOf), (86, 0, 2, wX0_columnOf)]), qm_tab aX7_lower)
set_option maxRecDepth 20000 in
set_option maxHeartbeats 2000000 in
theorem rX7_lower_109   {a0 : Nat} {a1 : Nat} {x2 : Int32} {x5 : Int32} {xd3 : Int32} {xd4 : Int32} {h : qm_H} {r : Int32 × qm_H} (ho : qX7_lower_109  a0 a1 x2 x5 h = some r) : qm_Ret mX7_lower (109, [some (qm_r 0 7 a0), some (qm_r 0 0 a1), some (qm_i x2), some (qm_i xd3), some (qm_i xd4), some (qm_i x5), none], [], h) (qm_Gi r) := by
  unfold qX7_lower_109 at ho
  refine qm_Ret.sts 3 (f' := (113, [some (qm_r 0 7 a0), some (qm_r 0 0 a1), some (qm_i x2), some (qm_i xd3), some (qm_i xd4), some (qm_i x5), none], [qm_i x2, qm_r 0 0 a1, qm_i x5], h)) rfl ?_
  obtain ⟨r2, h1, hr, ho⟩ := qm_b2e ho
  refine qm_Ret.call (X := wX7_costOf [qm_r 0 0 a1, qm_i x2] h) (o1 := (some (qm_i r2), h1)) (qm_mp (G := qm_Gi) hr) rfl ?_
  show qm_Ret _ (116, [some (qm_r 0 7 a0), some (qm_r 0 0 a1), some (qm_i x2), some (qm_i xd3), some (qm_i xd4), some (qm_i x5), none], [qm_i r2, qm_i x5], h1) _
  refine qm_Ret.sts 5 (f' := (123, [some (qm_r 0 7 a0), some (qm_r 0 0 a1), some (qm_i x2), some (qm_i xd3), some (qm_i xd4), some (qm_i x5), some (qm_i (x5 + r2))], [qm_i x2, qm_r 0 7 a0, qm_i (x5 + r2)], h1)) rfl ?_
  obtain ⟨r4, h3, hr, ho⟩ := qm_b2e ho
  refine qm_Ret.call (X := wX7_keyAt [qm_r 0 7 a0, qm_i x2] h1) (o1 := (some (qm_i r4), h3)) (qm_mp (G := qm_Gi) hr) rfl ?_
  show qm_Ret _ (126, [some (qm_r 0 7 a0), some (qm_r 0 0 a1), some (qm_i x2), some (qm_i xd3), some (qm_i xd4), some (qm_i x5), some (qm_i (x5 + r2))], [qm_i r4, qm_i (x5 + r2)], h3) _
  refine qm_Ret.lt (t := 131) (e := 129) rfl (fun hc => ?_) (fun hc => ?_)
  · rw [if_pos hc] at ho
    refine qm_Ret.sts 4 (f' := (138, [some (qm_r 0 7 a0), some (qm_r 0 0 a1), some (qm_i x2), some (qm_i xd3), some (qm_i xd4), some (qm_i x5), some (qm_i (x5 + r2))], [qm_i (x5 + r2), qm_i x2, qm_r 1 64 (a0 + 3)], h3)) rfl ?_
    obtain ⟨hg, ho⟩ := qm_ifn ho
    refine qm_Ret.gn (f1 := (139, [some (qm_r 0 7 a0), some (qm_r 0 0 a1), some (qm_i x2), some (qm_i xd3), some (qm_i xd4), some (qm_i x5), some (qm_i (x5 + r2))], [], (qm_seti h3 (a0 + 3) (x2).toNatClampNeg (x5 + r2)))) hg rfl ?_
    refine qm_Ret.lets (F := fun h5 => (139, [some (qm_r 0 7 a0), some (qm_r 0 0 a1), some (qm_i x2), some (qm_i xd3), some (qm_i xd4), some (qm_i x5), some (qm_i (x5 + r2))], [], h5)) (G := qm_Gi) ho (fun h5 ho => ?_)
    cases ho
    exact qm_Ret.ret 2 rfl
  · rw [if_neg hc] at ho
    cases ho
    exact qm_Ret.ret 2 rfl
set_option maxRecDepth 20000 in
set_option maxHeartbeats 2000000 in
theorem rX7_lower_84   {a0 : Nat} {a1 : Nat} {x2 : Int32} {x4 : Int32} {x5 : Int32} {xd3 : Int32} {h : qm_H} {r : Int32 × qm_H} (ho : qX7_lower_84  a0 a1 x2 x4 x5 h = some r) : qm_Ret mX7_lower (84, [some (qm_r 0 7 a0), some (qm_r 0 0 a1), some (qm_i x2), some (qm_i xd3), some (qm_i x4), some (qm_i x5), none], [], h) (qm_Gi r) := by
  unfold qX7_lower_84 at ho
  refine qm_Ret.sts 5 (f' := (92, [some (qm_r 0 7 a0), some (qm_r 0 0 a1), some (qm_i x2), some (qm_i xd3), some (qm_i x4), some (qm_i x5), none], [qm_i (h.1 a1 3), qm_i (x4 + (1 : Int32))], h)) rfl ?_
  refine qm_Ret.ge (t := 109) (e := 95) rfl (fun hc => ?_) (fun hc => ?_)
  · rw [if_pos hc] at ho
    refine qm_Ret.sts 5 (f' := (101, [some (qm_r 0 7 a0), some (qm_r 0 0 a1), some (qm_i x2), some (qm_i xd3), some (qm_i x4), some (qm_i x5), none], [qm_i (x2 + (1 : Int32)), qm_r 0 7 a0, qm_i x5], h)) rfl ?_
    obtain ⟨r2, h1, hr, ho⟩ := qm_b2e ho
    refine qm_Ret.call (X := wX7_keyAt [qm_r 0 7 a0, qm_i (x2 + (1 : Int32))] h) (o1 := (some (qm_i r2), h1)) (qm_mp (G := qm_Gi) hr) rfl ?_
    show qm_Ret _ (104, [some (qm_r 0 7 a0), some (qm_r 0 0 a1), some (qm_i x2), some (qm_i xd3), some (qm_i x4), some (qm_i x5), none], [qm_i r2, qm_i x5], h1) _
    obtain ⟨r4, h3, hr, ho⟩ := qm_b2e ho
    refine qm_Ret.call (X := wJ9_min_7cf53 [qm_i x5, qm_i r2] h1) (o1 := (some (qm_i r4), h3)) (qm_mp (G := qm_Gi) hr) rfl ?_
    show qm_Ret _ (107, [some (qm_r 0 7 a0), some (qm_r 0 0 a1), some (qm_i x2), some (qm_i xd3), some (qm_i x4), some (qm_i x5), none], [qm_i r4], h3) _
    refine qm_Ret.sts 1 (f' := (109, [some (qm_r 0 7 a0), some (qm_r 0 0 a1), some (qm_i x2), some (qm_i xd3), some (qm_i x4), some (qm_i r4), none], [], h3)) rfl ?_
    exact rX7_lower_109 ho
  · rw [if_neg hc] at ho
    exact rX7_lower_109 ho
set_option maxRecDepth 20000 in
set_option maxHeartbeats 2000000 in
theorem rX7_lower_65   {a0 : Nat} {a1 : Nat} {x2 : Int32} {x4 : Int32} {x5 : Int32} {xd3 : Int32} {h : qm_H} {r : Int32 × qm_H} (ho : qX7_lower_65  a0 a1 x2 x4 x5 h = some r) : qm_Ret mX7_lower (65, [some (qm_r 0 7 a0), some (qm_r 0 0 a1), some (qm_i x2), some (qm_i xd3), some (qm_i x4), some (qm_i x5), none], [], h) (qm_Gi r) := by
  unfold qX7_lower_65 at ho
  refine qm_Ret.sts 1 (f' := (67, [some (qm_r 0 7 a0), some (qm_r 0 0 a1), some (qm_i x2), some (qm_i xd3), some (qm_i x4), some (qm_i x5), none], [qm_i x4], h)) rfl ?_
  refine qm_Ret.le (t := 84) (e := 70) rfl (fun hc => ?_) (fun hc => ?_)
  · rw [if_pos hc] at ho
    refine qm_Ret.sts 5 (f' := (76, [some (qm_r 0 7 a0), some (qm_r 0 0 a1), some (qm_i x2), some (qm_i xd3), some (qm_i x4), some (qm_i x5), none], [qm_i (x2 - (1 : Int32)), qm_r 0 7 a0, qm_i x5], h)) rfl ?_
    obtain ⟨r2, h1, hr, ho⟩ := qm_b2e ho
    refine qm_Ret.call (X := wX7_keyAt [qm_r 0 7 a0, qm_i (x2 - (1 : Int32))] h) (o1 := (some (qm_i r2), h1)) (qm_mp (G := qm_Gi) hr) rfl ?_
    show qm_Ret _ (79, [some (qm_r 0 7 a0), some (qm_r 0 0 a1), some (qm_i x2), some (qm_i xd3), some (qm_i x4), some (qm_i x5), none], [qm_i r2, qm_i x5], h1) _
    obtain ⟨r4, h3, hr, ho⟩ := qm_b2e ho
    refine qm_Ret.call (X := wJ9_min_7cf53 [qm_i x5, qm_i r2] h1) (o1 := (some (qm_i r4), h3)) (qm_mp (G := qm_Gi) hr) rfl ?_
    show qm_Ret _ (82, [some (qm_r 0 7 a0), some (qm_r 0 0 a1), some (qm_i x2), some (qm_i xd3), some (qm_i x4), some (qm_i x5), none], [qm_i r4], h3) _
    refine qm_Ret.sts 1 (f' := (84, [some (qm_r 0 7 a0), some (qm_r 0 0 a1), some (qm_i x2), some (qm_i xd3), some (qm_i x4), some (qm_i r4), none], [], h3)) rfl ?_
    exact rX7_lower_84 ho
  · rw [if_neg hc] at ho
    exact rX7_lower_84 ho
set_option maxRecDepth 20000 in
set_option maxHeartbeats 2000000 in
theorem rX7_lower_38   {a0 : Nat} {a1 : Nat} {x2 : Int32} {x3 : Int32} {x4 : Int32} {x5 : Int32} {h : qm_H} {r : Int32 × qm_H} (ho : qX7_lower_38  a0 a1 x2 x3 x4 x5 h = some r) : qm_Ret mX7_lower (38, [some (qm_r 0 7 a0), some (qm_r 0 0 a1), some (qm_i x2), some (qm_i x3), some (qm_i x4), some (qm_i x5), none], [], h) (qm_Gi r) := by
  unfold qX7_lower_38 at ho
  refine qm_Ret.sts 5 (f' := (45, [some (qm_r 0 7 a0), some (qm_r 0 0 a1), some (qm_i x2), some (qm_i x3), some (qm_i x4), some (qm_i x5), none], [qm_i (h.1 a1 4), qm_i (x3 + (1 : Int32))], h)) rfl ?_
  refine qm_Ret.ge (t := 65) (e := 48) rfl (fun hc => ?_) (fun hc => ?_)
  · rw [if_pos hc] at ho
    refine qm_Ret.sts 6 (f' := (57, [some (qm_r 0 7 a0), some (qm_r 0 0 a1), some (qm_i x2), some (qm_i x3), some (qm_i x4), some (qm_i x5), none], [qm_i (x2 + (h.1 a1 3)), qm_r 0 7 a0, qm_i x5], h)) rfl ?_
    obtain ⟨r2, h1, hr, ho⟩ := qm_b2e ho
    refine qm_Ret.call (X := wX7_keyAt [qm_r 0 7 a0, qm_i (x2 + (h.1 a1 3))] h) (o1 := (some (qm_i r2), h1)) (qm_mp (G := qm_Gi) hr) rfl ?_
    show qm_Ret _ (60, [some (qm_r 0 7 a0), some (qm_r 0 0 a1), some (qm_i x2), some (qm_i x3), some (qm_i x4), some (qm_i x5), none], [qm_i r2, qm_i x5], h1) _
    obtain ⟨r4, h3, hr, ho⟩ := qm_b2e ho
    refine qm_Ret.call (X := wJ9_min_7cf53 [qm_i x5, qm_i r2] h1) (o1 := (some (qm_i r4), h3)) (qm_mp (G := qm_Gi) hr) rfl ?_
    show qm_Ret _ (63, [some (qm_r 0 7 a0), some (qm_r 0 0 a1), some (qm_i x2), some (qm_i x3), some (qm_i x4), some (qm_i x5), none], [qm_i r4], h3) _
    refine qm_Ret.sts 1 (f' := (65, [some (qm_r 0 7 a0), some (qm_r 0 0 a1), some (qm_i x2), some (qm_i x3), some (qm_i x4), some (qm_i r4), none], [], h3)) rfl ?_
    exact rX7_lower_65 ho
  · rw [if_neg hc] at ho
    exact rX7_lower_65 ho
set_option maxRecDepth 20000 in
set_option maxHeartbeats 2000000 in
theorem rX7_lower_0   {a0 : Nat} {a1 : Nat} {x2 : Int32} {h : qm_H} {r : Int32 × qm_H} (ho : qX7_lower  a0 a1 x2 h = some r) : qm_Ret mX7_lower (0, [some (qm_r 0 7 a0), some (qm_r 0 0 a1), some (qm_i x2), none, none, none, none], [], h) (qm_Gi r) := by
  unfold qX7_lower at ho
  refine qm_Ret.sts 2 (f' := (2, [some (qm_r 0 7 a0), some (qm_r 0 0 a1), some (qm_i x2), none, none, none, none], [qm_i x2, qm_r 0 0 a1], h)) rfl ?_
  obtain ⟨r2, h1, hr, ho⟩ := qm_b2e ho
  refine qm_Ret.call (X := wX0_rowOf [qm_r 0 0 a1, qm_i x2] h) (o1 := (some (qm_i r2), h1)) (qm_mp (G := qm_Gi) hr) rfl ?_
  show qm_Ret _ (5, [some (qm_r 0 7 a0), some (qm_r 0 0 a1), some (qm_i x2), none, none, none, none], [qm_i r2], h1) _
  refine qm_Ret.sts 3 (f' := (8, [some (qm_r 0 7 a0), some (qm_r 0 0 a1), some (qm_i x2), some (qm_i r2), none, none, none], [qm_i x2, qm_r 0 0 a1], h1)) rfl ?_
  obtain ⟨r4, h3, hr, ho⟩ := qm_b2e ho
  refine qm_Ret.call (X := wX0_columnOf [qm_r 0 0 a1, qm_i x2] h1) (o1 := (some (qm_i r4), h3)) (qm_mp (G := qm_Gi) hr) rfl ?_
  show qm_Ret _ (11, [some (qm_r 0 7 a0), some (qm_r 0 0 a1), some (qm_i x2), some (qm_i r2), none, none, none], [qm_i r4], h3) _
  refine qm_Ret.sts 4 (f' := (18, [some (qm_r 0 7 a0), some (qm_r 0 0 a1), some (qm_i x2), some (qm_i r2), some (qm_i r4), some (qm_i (1000000 : Int32)), none], [qm_i r2], h3)) rfl ?_
  refine qm_Ret.le (t := 38) (e := 21) rfl (fun hc => ?_) (fun hc => ?_)
  · rw [if_pos hc] at ho
    refine qm_Ret.sts 6 (f' := (30, [some (qm_r 0 7 a0), some (qm_r 0 0 a1), some (qm_i x2), some (qm_i r2), some (qm_i r4), some (qm_i (1000000 : Int32)), none], [qm_i (x2 - (h3.1 a1 3)), qm_r 0 7 a0, qm_i (1000000 : Int32)], h3)) rfl ?_
    obtain ⟨r6, h5, hr, ho⟩ := qm_b2e ho
    refine qm_Ret.call (X := wX7_keyAt [qm_r 0 7 a0, qm_i (x2 - (h3.1 a1 3))] h3) (o1 := (some (qm_i r6), h5)) (qm_mp (G := qm_Gi) hr) rfl ?_
    show qm_Ret _ (33, [some (qm_r 0 7 a0), some (qm_r 0 0 a1), some (qm_i x2), some (qm_i r2), some (qm_i r4), some (qm_i (1000000 : Int32)), none], [qm_i r6, qm_i (1000000 : Int32)], h5) _
    obtain ⟨r8, h7, hr, ho⟩ := qm_b2e ho
    refine qm_Ret.call (X := wJ9_min_7cf53 [qm_i (1000000 : Int32), qm_i r6] h5) (o1 := (some (qm_i r8), h7)) (qm_mp (G := qm_Gi) hr) rfl ?_
    show qm_Ret _ (36, [some (qm_r 0 7 a0), some (qm_r 0 0 a1), some (qm_i x2), some (qm_i r2), some (qm_i r4), some (qm_i (1000000 : Int32)), none], [qm_i r8], h7) _
    refine qm_Ret.sts 1 (f' := (38, [some (qm_r 0 7 a0), some (qm_r 0 0 a1), some (qm_i x2), some (qm_i r2), some (qm_i r4), some (qm_i r8), none], [], h7)) rfl ?_
    exact rX7_lower_38 ho
  · rw [if_neg hc] at ho
    exact rX7_lower_38 ho
theorem cX7_lower_ok : ∀ q ∈ ([(75, 2, 2, wX7_costOf), (89, 0, 2, wX7_keyAt), (68, 2, 2, wJ9_min_7cf53), (83, 0, 2, wX0_rowOf), (86, 0, 2, wX0_columnOf)] : List (Nat × Nat × Nat × qm_C)), qm_CallOK RX7 4 88 q.2.1 q.1 q.2.2.1 q.2.2.2 := List.forall_mem_cons.mpr ⟨Or.inl ⟨yX7_costOf, cX7_costOf, 2, (some .int), 3, 67, _, sX7_costOf, ⟨by decide, by decide⟩, ⟨jX7_costOf, kRX7_75, uRX7⟩, ⟨by decide, by decide, rfl⟩, Or.inr (Or.inl ⟨rfl, rfl, iX7_costOf⟩)⟩, List.forall_mem_cons.mpr ⟨Or.inl ⟨yX7_keyAt, cX7_keyAt, 2, (some .int), 0, 0, _, sX7_keyAt, ⟨by decide, by decide⟩, ⟨jX7_keyAt, kRX7_89, uRX7⟩, ⟨by decide, by decide, rfl⟩, Or.inl ⟨rfl, rfl, iX7_keyAt, recvX7_keyAt⟩⟩, List.forall_mem_cons.mpr ⟨Or.inl ⟨yJ9_min_7cf53, cJ9_min_7cf53, 2, (some .int), 0, 0, _, sJ9_min_7cf53, ⟨by decide, by decide⟩, ⟨jJ9_min_7cf53, kRX7_68, uRJ9⟩, ⟨by decide, by decide, rfl⟩, Or.inr (Or.inl ⟨rfl, rfl, iJ9_min_7cf53⟩)⟩, List.forall_mem_cons.mpr ⟨Or.inl ⟨yX0_rowOf, cX0_rowOf, 2, (some .int), 0, 0, _, sX0_rowOf, ⟨by decide, by decide⟩, ⟨jX0_rowOf, kRX7_83, uRX0⟩, ⟨by decide, by decide, rfl⟩, Or.inl ⟨rfl, rfl, iX0_rowOf, recvX0_rowOf⟩⟩, List.forall_mem_cons.mpr ⟨Or.inl ⟨yX0_columnOf, cX0_columnOf, 2, (some .int), 0, 0, _, sX0_columnOf, ⟨by decide, by decide⟩, ⟨jX0_columnOf, kRX7_86, uRX0⟩, ⟨by decide, by decide, rfl⟩, Or.inl ⟨rfl, rfl, iX0_columnOf, recvX0_columnOf⟩⟩, fun _ h => absurd h List.not_mem_nil⟩⟩⟩⟩⟩
theorem sX7_lower : qm_Snd yX7_lower cX7_lower 7 (some .boolean) 4 88 wX7_lower := qm_met (fld := fun k => qm_lk k pfRX7) (con := fun k => qm_lk k pcRX7) (call := fun k => qm_lk k [(75, 2, 2, wX7_costOf), (89, 0, 2, wX7_keyAt), (68, 2, 2, wJ9_min_7cf53), (83, 0, 2, wX0_rowOf), (86, 0, 2, wX0_columnOf)]) (tab := qm_tab aX7_lower) (plainFor_of_name (by decide)) (qm_fld_ok pfRX7_ok) (qm_con_ok pcRX7_ok) (fun idx kd n f hc => cX7_lower_ok (idx, kd, n, f) (qm_lk_mem hc)) (qm_tab_ok aX7_lower_ok) (fun vs h o hw => by
  unfold wX7_lower at hw
  split at hw
  · obtain ⟨r, hr, rfl⟩ := Option.map_eq_some_iff.mp hw
    exact ⟨Nat.le_of_ble_eq_true rfl, rX7_lower_0 (hr)⟩
  · cases hw)
theorem recvX7_lower : ∀ vs h o, wX7_lower vs h = some o → ∃ ci a rest, vs = qm_r 0 ci a :: rest ∧ qm_R ci = yX7_lower.cls := by
  intro vs h o hw
  unfold wX7_lower at hw
  split at hw
  · exact ⟨_, _, _, rfl, rfl⟩
  · cases hw
-- RX7 spread(LWillowLaw$Basket;I)V
theorem jX7_spread : Jvm.Cond.code yX7_spread cX7_spread 7 none ∈ qm_all := List.mem_filter.mpr ⟨by decide +kernel, rfl⟩
theorem iX7_spread : Jvm.Cond.instanceMethod yX7_spread ∈ qm_all ∧ Jvm.Cond.selects yX7_spread.cls yX7_spread yX7_spread ∈ qm_all := ⟨List.mem_filter.mpr ⟨by decide +kernel, rfl⟩, List.mem_filter.mpr ⟨by decide +kernel, rfl⟩⟩
def wX7_spread : qm_C := fun vs h => match vs with
  | [.inr (.inr (some (0, 7, p0))), .inr (.inr (some (0, 0, p1))), .inl p2] => (qX7_spread p0 p1 p2 h).map qm_Gv
  | _ => none
def aX7_spread : List (Option (Instr × Nat)) := [some (.aload_n 1, 1), some (.getfield 46, 3), none, none, some (.aload_n 1, 1), some (.getfield 41, 3), none, none, some (.imul, 1), some (.bipush 64, 2), none, some (.invokestatic 68, 3), none, none, some (.istore_n 3, 1), some (.iconst 0, 1), some (.istore 4, 2), none, some (.iload 4, 2), none, some (.iload_n 3, 1), some (.if_icmp .ge 18, 3), none, none, some (.aload_n 0, 1), some (.getfield 19, 3), none, none, some (.iload 4, 2), none, some (.ldc 74, 2), none, some (.iastore, 1), some (.iinc 4 1, 3), none, none, some (.goto (-18), 3), none, none, some (.iload_n 2, 1), some (.ifCond .lt 8, 3), none, none, some (.iload_n 2, 1), some (.iload_n 3, 1), some (.if_icmp .lt 4, 3), none, none, some (.return_, 1), some (.aload_n 0, 1), some (.getfield 19, 3), none, none, some (.iload_n 2, 1), some (.aload_n 1, 1), some (.iload_n 2, 1), some (.invokestatic 75, 3), none, none, some (.iastore, 1), some (.iconst 1, 1), some (.istore 4, 2), none, some (.iconst 0, 1), some (.istore 5, 2), none, some (.iload 5, 2), none, some (.bipush 64, 2), none, some (.if_icmp .ge 44, 3), none, none, some (.iload 4, 2), none, some (.ifCond .eq 39, 3), none, none, some (.iconst 0, 1), some (.istore 4, 2), none, some (.iconst 0, 1), some (.istore 6, 2), none, some (.iload 6, 2), none, some (.iload_n 3, 1), some (.if_icmp .ge 21, 3), none, none, some (.iload 4, 2), none, some (.aload_n 0, 1), some (.aload_n 1, 1), some (.iload 6, 2), none, some (.invokevirtual 79, 3), none, none, some (.ior, 1), some (.istore 4, 2), none, some (.iinc 6 1, 3), none, none, some (.goto (-21), 3), none, none, some (.iinc 5 1, 3), none, none, some (.goto (-45), 3), none, none, some (.return_, 1)]
theorem aX7_spread_ok : qm_tabok cX7_spread aX7_spread = true := by decide +kernel
def mX7_spread : qm_M := (none, (fun k => qm_lk k pfRX7), (fun k => qm_lk k pcRX7), (fun k => qm_lk k [(79, 0, 3, wX7_lower), (75, 2, 2, wX7_costOf), (68, 2, 2, wJ9_min_7cf53)]), qm_tab aX7_spread)
set_option maxRecDepth 20000 in
set_option maxHeartbeats 2000000 in
theorem rX7_spread_84 {K66 : Nat → Nat → Int32 → Int32 → Int32 → qm_H → Option (qm_H)} (H66 : ∀ {a0 : Nat} {a1 : Nat} {x3 : Int32} {x4 : Int32} {x5 : Int32} {xd2 : Int32} {d6 : Option qm_V} {h : qm_H} {r : qm_H}, K66 a0 a1 x3 x4 x5 h = some r → qm_Ret mX7_spread (66, [some (qm_r 0 7 a0), some (qm_r 0 0 a1), some (qm_i xd2), some (qm_i x3), some (qm_i x4), some (qm_i x5), d6], [], h) (qm_Gv r)) : ∀ {fuel : Nat} {a0 : Nat} {a1 : Nat} {x3 : Int32} {x4 : Int32} {x5 : Int32} {x6 : Int32} {xd2 : Int32} {h : qm_H} {r : qm_H}, qX7_spread_84 K66 fuel a0 a1 x3 x4 x5 x6 h = some r → qm_Ret mX7_spread (84, [some (qm_r 0 7 a0), some (qm_r 0 0 a1), some (qm_i xd2), some (qm_i x3), some (qm_i x4), some (qm_i x5), some (qm_i x6)], [], h) (qm_Gv r) := by
  intro fuel
  induction fuel with
  | zero => intros; rename_i ho; cases ho
  | succ n ih =>
    intro a0 a1 x3 x4 x5 x6 xd2 h r ho
    unfold qX7_spread_84 at ho
    refine qm_Ret.sts 2 (f' := (87, [some (qm_r 0 7 a0), some (qm_r 0 0 a1), some (qm_i xd2), some (qm_i x3), some (qm_i x4), some (qm_i x5), some (qm_i x6)], [qm_i x3, qm_i x6], h)) rfl ?_
    refine qm_Ret.ge (t := 108) (e := 90) rfl (fun hc => ?_) (fun hc => ?_)
    · rw [if_pos hc] at ho
      refine qm_Ret.sts 4 (f' := (96, [some (qm_r 0 7 a0), some (qm_r 0 0 a1), some (qm_i xd2), some (qm_i x3), some (qm_i x4), some (qm_i x5), some (qm_i x6)], [qm_i x6, qm_r 0 0 a1, qm_r 0 7 a0, qm_i x4], h)) rfl ?_
      obtain ⟨r2, h1, hr, ho⟩ := qm_b2e ho
      refine qm_Ret.call (X := wX7_lower [qm_r 0 7 a0, qm_r 0 0 a1, qm_i x6] h) (o1 := (some (qm_i r2), h1)) (qm_mp (G := qm_Gi) hr) rfl ?_
      show qm_Ret _ (99, [some (qm_r 0 7 a0), some (qm_r 0 0 a1), some (qm_i xd2), some (qm_i x3), some (qm_i x4), some (qm_i x5), some (qm_i x6)], [qm_i r2, qm_i x4], h1) _
      refine qm_Ret.sts 4 (f' := (84, [some (qm_r 0 7 a0), some (qm_r 0 0 a1), some (qm_i xd2), some (qm_i x3), some (qm_i (x4 ||| r2)), some (qm_i x5), some (qm_i (x6 + (1 : Int32)))], [], h1)) rfl ?_
      exact ih ho
    · rw [if_neg hc] at ho
      refine qm_Ret.sts 2 (f' := (66, [some (qm_r 0 7 a0), some (qm_r 0 0 a1), some (qm_i xd2), some (qm_i x3), some (qm_i x4), some (qm_i (x5 + (1 : Int32))), some (qm_i x6)], [], h)) rfl ?_
      exact H66 ho
set_option maxRecDepth 20000 in
set_option maxHeartbeats 2000000 in
theorem rX7_spread_66   : ∀ {fuel : Nat} {a0 : Nat} {a1 : Nat} {x3 : Int32} {x4 : Int32} {x5 : Int32} {xd2 : Int32} {d6 : Option qm_V} {h : qm_H} {r : qm_H}, qX7_spread_66  fuel a0 a1 x3 x4 x5 h = some r → qm_Ret mX7_spread (66, [some (qm_r 0 7 a0), some (qm_r 0 0 a1), some (qm_i xd2), some (qm_i x3), some (qm_i x4), some (qm_i x5), d6], [], h) (qm_Gv r) := by
  intro fuel
  induction fuel with
  | zero => intros; rename_i ho; cases ho
  | succ n ih =>
    intro a0 a1 x3 x4 x5 xd2 d6 h r ho
    unfold qX7_spread_66 at ho
    refine qm_Ret.sts 2 (f' := (70, [some (qm_r 0 7 a0), some (qm_r 0 0 a1), some (qm_i xd2), some (qm_i x3), some (qm_i x4), some (qm_i x5), d6], [qm_i (64 : Int32), qm_i x5], h)) rfl ?_
    refine qm_Ret.ge (t := 114) (e := 73) rfl (fun hc => ?_) (fun hc => ?_)
    · rw [if_pos hc] at ho
      refine qm_Ret.sts 1 (f' := (75, [some (qm_r 0 7 a0), some (qm_r 0 0 a1), some (qm_i xd2), some (qm_i x3), some (qm_i x4), some (qm_i x5), d6], [qm_i x4], h)) rfl ?_
      refine qm_Ret.eq (t := 114) (e := 78) rfl (fun hc => ?_) (fun hc => ?_)
      · rw [if_pos hc] at ho
        cases ho
        exact qm_Ret.ret 1 rfl
      · rw [if_neg hc] at ho
        refine qm_Ret.sts 4 (f' := (84, [some (qm_r 0 7 a0), some (qm_r 0 0 a1), some (qm_i xd2), some (qm_i x3), some (qm_i (0 : Int32)), some (qm_i x5), some (qm_i (0 : Int32))], [], h)) rfl ?_
        exact rX7_spread_84 (ih) ho
    · rw [if_neg hc] at ho
      cases ho
      exact qm_Ret.ret 1 rfl
set_option maxRecDepth 20000 in
set_option maxHeartbeats 2000000 in
theorem rX7_spread_18   : ∀ {fuel : Nat} {a0 : Nat} {a1 : Nat} {x2 : Int32} {x3 : Int32} {x4 : Int32} {h : qm_H} {r : qm_H}, qX7_spread_18  fuel a0 a1 x2 x3 x4 h = some r → qm_Ret mX7_spread (18, [some (qm_r 0 7 a0), some (qm_r 0 0 a1), some (qm_i x2), some (qm_i x3), some (qm_i x4), none, none], [], h) (qm_Gv r) := by
  intro fuel
  induction fuel with
  | zero => intros; rename_i ho; cases ho
  | succ n ih =>
    intro a0 a1 x2 x3 x4 h r ho
    unfold qX7_spread_18 at ho
    refine qm_Ret.sts 2 (f' := (21, [some (qm_r 0 7 a0), some (qm_r 0 0 a1), some (qm_i x2), some (qm_i x3), some (qm_i x4), none, none], [qm_i x3, qm_i x4], h)) rfl ?_
    refine qm_Ret.ge (t := 39) (e := 24) rfl (fun hc => ?_) (fun hc => ?_)
    · rw [if_pos hc] at ho
      refine qm_Ret.sts 4 (f' := (32, [some (qm_r 0 7 a0), some (qm_r 0 0 a1), some (qm_i x2), some (qm_i x3), some (qm_i x4), none, none], [qm_i (1000000 : Int32), qm_i x4, qm_r 1 64 (a0 + 3)], h)) rfl ?_
      obtain ⟨hg, ho⟩ := qm_ifn ho
      refine qm_Ret.gn (f1 := (33, [some (qm_r 0 7 a0), some (qm_r 0 0 a1), some (qm_i x2), some (qm_i x3), some (qm_i x4), none, none], [], (qm_seti h (a0 + 3) (x4).toNatClampNeg (1000000 : Int32)))) hg rfl ?_
      refine qm_Ret.lets (F := fun h4 => (33, [some (qm_r 0 7 a0), some (qm_r 0 0 a1), some (qm_i x2), some (qm_i x3), some (qm_i x4), none, none], [], h4)) (G := qm_Gv) ho (fun h4 ho => ?_)
      refine qm_Ret.sts 2 (f' := (18, [some (qm_r 0 7 a0), some (qm_r 0 0 a1), some (qm_i x2), some (qm_i x3), some (qm_i (x4 + (1 : Int32))), none, none], [], h4)) rfl ?_
      exact ih ho
    · rw [if_neg hc] at ho
      refine qm_Ret.sts 1 (f' := (40, [some (qm_r 0 7 a0), some (qm_r 0 0 a1), some (qm_i x2), some (qm_i x3), some (qm_i x4), none, none], [qm_i x2], h)) rfl ?_
      refine qm_Ret.lt (t := 48) (e := 43) rfl (fun hc => ?_) (fun hc => ?_)
      · rw [if_pos hc] at ho
        cases ho
        exact qm_Ret.ret 1 rfl
      · rw [if_neg hc] at ho
        refine qm_Ret.sts 2 (f' := (45, [some (qm_r 0 7 a0), some (qm_r 0 0 a1), some (qm_i x2), some (qm_i x3), some (qm_i x4), none, none], [qm_i x3, qm_i x2], h)) rfl ?_
        refine qm_Ret.lt (t := 49) (e := 48) rfl (fun hc => ?_) (fun hc => ?_)
        · rw [if_pos hc] at ho
          refine qm_Ret.sts 5 (f' := (56, [some (qm_r 0 7 a0), some (qm_r 0 0 a1), some (qm_i x2), some (qm_i x3), some (qm_i x4), none, none], [qm_i x2, qm_r 0 0 a1, qm_i x2, qm_r 1 64 (a0 + 3)], h)) rfl ?_
          obtain ⟨r2, h1, hr, ho⟩ := qm_b2e ho
          refine qm_Ret.call (X := wX7_costOf [qm_r 0 0 a1, qm_i x2] h) (o1 := (some (qm_i r2), h1)) (qm_mp (G := qm_Gi) hr) rfl ?_
          show qm_Ret _ (59, [some (qm_r 0 7 a0), some (qm_r 0 0 a1), some (qm_i x2), some (qm_i x3), some (qm_i x4), none, none], [qm_i r2, qm_i x2, qm_r 1 64 (a0 + 3)], h1) _
          obtain ⟨hg, ho⟩ := qm_ifn ho
          refine qm_Ret.gn (f1 := (60, [some (qm_r 0 7 a0), some (qm_r 0 0 a1), some (qm_i x2), some (qm_i x3), some (qm_i x4), none, none], [], (qm_seti h1 (a0 + 3) (x2).toNatClampNeg r2))) hg rfl ?_
          refine qm_Ret.lets (F := fun h3 => (60, [some (qm_r 0 7 a0), some (qm_r 0 0 a1), some (qm_i x2), some (qm_i x3), some (qm_i x4), none, none], [], h3)) (G := qm_Gv) ho (fun h3 ho => ?_)
          refine qm_Ret.sts 4 (f' := (66, [some (qm_r 0 7 a0), some (qm_r 0 0 a1), some (qm_i x2), some (qm_i x3), some (qm_i (1 : Int32)), some (qm_i (0 : Int32)), none], [], h3)) rfl ?_
          exact rX7_spread_66 ho
        · rw [if_neg hc] at ho
          cases ho
          exact qm_Ret.ret 1 rfl
set_option maxRecDepth 20000 in
set_option maxHeartbeats 2000000 in
theorem rX7_spread_0   {a0 : Nat} {a1 : Nat} {x2 : Int32} {h : qm_H} {r : qm_H} (ho : qX7_spread  a0 a1 x2 h = some r) : qm_Ret mX7_spread (0, [some (qm_r 0 7 a0), some (qm_r 0 0 a1), some (qm_i x2), none, none, none, none], [], h) (qm_Gv r) := by
  unfold qX7_spread at ho
  refine qm_Ret.sts 6 (f' := (11, [some (qm_r 0 7 a0), some (qm_r 0 0 a1), some (qm_i x2), none, none, none, none], [qm_i (64 : Int32), qm_i ((h.1 a1 3) * (h.1 a1 4))], h)) rfl ?_
  obtain ⟨r2, h1, hr, ho⟩ := qm_b2e ho
  refine qm_Ret.call (X := wJ9_min_7cf53 [qm_i ((h.1 a1 3) * (h.1 a1 4)), qm_i (64 : Int32)] h) (o1 := (some (qm_i r2), h1)) (qm_mp (G := qm_Gi) hr) rfl ?_
  show qm_Ret _ (14, [some (qm_r 0 7 a0), some (qm_r 0 0 a1), some (qm_i x2), none, none, none, none], [qm_i r2], h1) _
  refine qm_Ret.sts 3 (f' := (18, [some (qm_r 0 7 a0), some (qm_r 0 0 a1), some (qm_i x2), some (qm_i r2), some (qm_i (0 : Int32)), none, none], [], h1)) rfl ?_
  exact rX7_spread_18 ho
theorem cX7_spread_ok : ∀ q ∈ ([(79, 0, 3, wX7_lower), (75, 2, 2, wX7_costOf), (68, 2, 2, wJ9_min_7cf53)] : List (Nat × Nat × Nat × qm_C)), qm_CallOK RX7 5 114 q.2.1 q.1 q.2.2.1 q.2.2.2 := List.forall_mem_cons.mpr ⟨Or.inl ⟨yX7_lower, cX7_lower, 7, (some .boolean), 4, 88, _, sX7_lower, ⟨by decide, by decide⟩, ⟨jX7_lower, kRX7_79, uRX7⟩, ⟨by decide, by decide, rfl⟩, Or.inl ⟨rfl, rfl, iX7_lower, recvX7_lower⟩⟩, List.forall_mem_cons.mpr ⟨Or.inl ⟨yX7_costOf, cX7_costOf, 2, (some .int), 3, 67, _, sX7_costOf, ⟨by decide, by decide⟩, ⟨jX7_costOf, kRX7_75, uRX7⟩, ⟨by decide, by decide, rfl⟩, Or.inr (Or.inl ⟨rfl, rfl, iX7_costOf⟩)⟩, List.forall_mem_cons.mpr ⟨Or.inl ⟨yJ9_min_7cf53, cJ9_min_7cf53, 2, (some .int), 0, 0, _, sJ9_min_7cf53, ⟨by decide, by decide⟩, ⟨jJ9_min_7cf53, kRX7_68, uRJ9⟩, ⟨by decide, by decide, rfl⟩, Or.inr (Or.inl ⟨rfl, rfl, iJ9_min_7cf53⟩)⟩, fun _ h => absurd h List.not_mem_nil⟩⟩⟩
theorem sX7_spread : qm_Snd yX7_spread cX7_spread 7 none 5 114 wX7_spread := qm_met (fld := fun k => qm_lk k pfRX7) (con := fun k => qm_lk k pcRX7) (call := fun k => qm_lk k [(79, 0, 3, wX7_lower), (75, 2, 2, wX7_costOf), (68, 2, 2, wJ9_min_7cf53)]) (tab := qm_tab aX7_spread) (plainFor_of_name (by decide)) (qm_fld_ok pfRX7_ok) (qm_con_ok pcRX7_ok) (fun idx kd n f hc => cX7_spread_ok (idx, kd, n, f) (qm_lk_mem hc)) (qm_tab_ok aX7_spread_ok) (fun vs h o hw => by
  unfold wX7_spread at hw
  split at hw
  · obtain ⟨r, hr, rfl⟩ := Option.map_eq_some_iff.mp hw
    exact ⟨Nat.le_of_ble_eq_true rfl, rX7_spread_0 (hr)⟩
  · cases hw)
theorem recvX7_spread : ∀ vs h o, wX7_spread vs h = some o → ∃ ci a rest, vs = qm_r 0 ci a :: rest ∧ qm_R ci = yX7_spread.cls := by
  intro vs h o hw
  unfold wX7_spread at hw
  split at hw
  · exact ⟨_, _, _, rfl, rfl⟩
  · cases hw
-- RX7 toTheRim(LWillowLaw$Basket;)I
theorem jX7_toTheRim : Jvm.Cond.code yX7_toTheRim cX7_toTheRim 6 (some .int) ∈ qm_all := List.mem_filter.mpr ⟨by decide +kernel, rfl⟩
theorem iX7_toTheRim : Jvm.Cond.instanceMethod yX7_toTheRim ∈ qm_all ∧ Jvm.Cond.selects yX7_toTheRim.cls yX7_toTheRim yX7_toTheRim ∈ qm_all := ⟨List.mem_filter.mpr ⟨by decide +kernel, rfl⟩, List.mem_filter.mpr ⟨by decide +kernel, rfl⟩⟩
def wX7_toTheRim : qm_C := fun vs h => match vs with
  | [.inr (.inr (some (0, 7, p0))), .inr (.inr (some (0, 0, p1)))] => (qX7_toTheRim p0 p1 h).map qm_Gi
  | _ => none
def aX7_toTheRim : List (Option (Instr × Nat)) := [some (.ldc 74, 2), none, some (.istore_n 2, 1), some (.iconst 0, 1), some (.istore_n 3, 1), some (.iload_n 3, 1), some (.aload_n 1, 1), some (.getfield 41, 3), none, none, some (.if_icmp .ge 87, 3), none, none, some (.iconst 0, 1), some (.istore 4, 2), none, some (.iload 4, 2), none, some (.aload_n 1, 1), some (.getfield 46, 3), none, none, some (.if_icmp .ge 69, 3), none, none, some (.iload_n 3, 1), some (.ifCond .eq 29, 3), none, none, some (.iload 4, 2), none, some (.ifCond .eq 24, 3), none, none, some (.iload_n 3, 1), some (.aload_n 1, 1), some (.getfield 41, 3), none, none, some (.iconst 1, 1), some (.isub, 1), some (.if_icmp .eq 14, 3), none, none, some (.iload 4, 2), none, some (.aload_n 1, 1), some (.getfield 46, 3), none, none, some (.iconst 1, 1), some (.isub, 1), some (.if_icmp .ne 7, 3), none, none, some (.iconst 1, 1), some (.goto 4, 3), none, none, some (.iconst 0, 1), some (.istore 5, 2), none, some (.iload 5, 2), none, some (.ifCond .eq 21, 3), none, none, some (.iload_n 2, 1), some (.aload_n 0, 1), some (.aload_n 1, 1), some (.getfield 46, 3), none, none, some (.iload_n 3, 1), some (.imul, 1), some (.iload 4, 2), none, some (.iadd, 1), some (.invokevirtual 89, 3), none, none, some (.invokestatic 68, 3), none, none, some (.istore_n 2, 1), some (.iinc 4 1, 3), none, none, some (.goto (-72), 3), none, none, some (.iinc 3 1, 3), none, none, some (.goto (-89), 3), none, none, some (.iload_n 2, 1), some (.ireturn, 1)]
theorem aX7_toTheRim_ok : qm_tabok cX7_toTheRim aX7_toTheRim = true := by decide +kernel
def mX7_toTheRim : qm_M := ((some .int), (fun k => qm_lk k pfRX7), (fun k => qm_lk k pcRX7), (fun k => qm_lk k [(89, 0, 2, wX7_keyAt), (68, 2, 2, wJ9_min_7cf53)]), qm_tab aX7_toTheRim)
set_option maxRecDepth 20000 in
set_option maxHeartbeats 2000000 in
theorem rX7_toTheRim_60 {K5 : Nat → Nat → Int32 → Int32 → qm_H → Option (Int32 × qm_H)} {K16 : Nat → Nat → Int32 → Int32 → Int32 → qm_H → Option (Int32 × qm_H)} (H5 : ∀ {a0 : Nat} {a1 : Nat} {x2 : Int32} {x3 : Int32} {d4 : Option qm_V} {d5 : Option qm_V} {h : qm_H} {r : Int32 × qm_H}, K5 a0 a1 x2 x3 h = some r → qm_Ret mX7_toTheRim (5, [some (qm_r 0 7 a0), some (qm_r 0 0 a1), some (qm_i x2), some (qm_i x3), d4, d5], [], h) (qm_Gi r)) (H16 : ∀ {a0 : Nat} {a1 : Nat} {x2 : Int32} {x3 : Int32} {x4 : Int32} {d5 : Option qm_V} {h : qm_H} {r : Int32 × qm_H}, K16 a0 a1 x2 x3 x4 h = some r → qm_Ret mX7_toTheRim (16, [some (qm_r 0 7 a0), some (qm_r 0 0 a1), some (qm_i x2), some (qm_i x3), some (qm_i x4), d5], [], h) (qm_Gi r)) {a0 : Nat} {a1 : Nat} {x2 : Int32} {x3 : Int32} {x4 : Int32} {xs0 : Int32} {d5 : Option qm_V} {h : qm_H} {r : Int32 × qm_H} (ho : qX7_toTheRim_60 K5 K16 a0 a1 x2 x3 x4 xs0 h = some r) : qm_Ret mX7_toTheRim (60, [some (qm_r 0 7 a0), some (qm_r 0 0 a1), some (qm_i x2), some (qm_i x3), some (qm_i x4), d5], [qm_i xs0], h) (qm_Gi r) := by
  unfold qX7_toTheRim_60 at ho
  refine qm_Ret.sts 2 (f' := (64, [some (qm_r 0 7 a0), some (qm_r 0 0 a1), some (qm_i x2), some (qm_i x3), some (qm_i x4), some (qm_i xs0)], [qm_i xs0], h)) rfl ?_
  refine qm_Ret.eq (t := 85) (e := 67) rfl (fun hc => ?_) (fun hc => ?_)
  · rw [if_pos hc] at ho
    refine qm_Ret.sts 2 (f' := (16, [some (qm_r 0 7 a0), some (qm_r 0 0 a1), some (qm_i x2), some (qm_i x3), some (qm_i (x4 + (1 : Int32))), some (qm_i xs0)], [], h)) rfl ?_
    exact H16 ho
  · rw [if_neg hc] at ho
    refine qm_Ret.sts 8 (f' := (78, [some (qm_r 0 7 a0), some (qm_r 0 0 a1), some (qm_i x2), some (qm_i x3), some (qm_i x4), some (qm_i xs0)], [qm_i (((h.1 a1 3) * x3) + x4), qm_r 0 7 a0, qm_i x2], h)) rfl ?_
    obtain ⟨r2, h1, hr, ho⟩ := qm_b2e ho
    refine qm_Ret.call (X := wX7_keyAt [qm_r 0 7 a0, qm_i (((h.1 a1 3) * x3) + x4)] h) (o1 := (some (qm_i r2), h1)) (qm_mp (G := qm_Gi) hr) rfl ?_
    show qm_Ret _ (81, [some (qm_r 0 7 a0), some (qm_r 0 0 a1), some (qm_i x2), some (qm_i x3), some (qm_i x4), some (qm_i xs0)], [qm_i r2, qm_i x2], h1) _
    obtain ⟨r4, h3, hr, ho⟩ := qm_b2e ho
    refine qm_Ret.call (X := wJ9_min_7cf53 [qm_i x2, qm_i r2] h1) (o1 := (some (qm_i r4), h3)) (qm_mp (G := qm_Gi) hr) rfl ?_
    show qm_Ret _ (84, [some (qm_r 0 7 a0), some (qm_r 0 0 a1), some (qm_i x2), some (qm_i x3), some (qm_i x4), some (qm_i xs0)], [qm_i r4], h3) _
    refine qm_Ret.sts 3 (f' := (16, [some (qm_r 0 7 a0), some (qm_r 0 0 a1), some (qm_i r4), some (qm_i x3), some (qm_i (x4 + (1 : Int32))), some (qm_i xs0)], [], h3)) rfl ?_
    exact H16 ho
set_option maxRecDepth 20000 in
set_option maxHeartbeats 2000000 in
theorem rX7_toTheRim_16 {K5 : Nat → Nat → Int32 → Int32 → qm_H → Option (Int32 × qm_H)} (H5 : ∀ {a0 : Nat} {a1 : Nat} {x2 : Int32} {x3 : Int32} {d4 : Option qm_V} {d5 : Option qm_V} {h : qm_H} {r : Int32 × qm_H}, K5 a0 a1 x2 x3 h = some r → qm_Ret mX7_toTheRim (5, [some (qm_r 0 7 a0), some (qm_r 0 0 a1), some (qm_i x2), some (qm_i x3), d4, d5], [], h) (qm_Gi r)) : ∀ {fuel : Nat} {a0 : Nat} {a1 : Nat} {x2 : Int32} {x3 : Int32} {x4 : Int32} {d5 : Option qm_V} {h : qm_H} {r : Int32 × qm_H}, qX7_toTheRim_16 K5 fuel a0 a1 x2 x3 x4 h = some r → qm_Ret mX7_toTheRim (16, [some (qm_r 0 7 a0), some (qm_r 0 0 a1), some (qm_i x2), some (qm_i x3), some (qm_i x4), d5], [], h) (qm_Gi r) := by
  intro fuel
  induction fuel with
  | zero => intros; rename_i ho; cases ho
  | succ n ih =>
    intro a0 a1 x2 x3 x4 d5 h r ho
    unfold qX7_toTheRim_16 at ho
    refine qm_Ret.sts 3 (f' := (22, [some (qm_r 0 7 a0), some (qm_r 0 0 a1), some (qm_i x2), some (qm_i x3), some (qm_i x4), d5], [qm_i (h.1 a1 3), qm_i x4], h)) rfl ?_
    refine qm_Ret.ge (t := 91) (e := 25) rfl (fun hc => ?_) (fun hc => ?_)
    · rw [if_pos hc] at ho
      refine qm_Ret.sts 1 (f' := (26, [some (qm_r 0 7 a0), some (qm_r 0 0 a1), some (qm_i x2), some (qm_i x3), some (qm_i x4), d5], [qm_i x3], h)) rfl ?_
      refine qm_Ret.eq (t := 55) (e := 29) rfl (fun hc => ?_) (fun hc => ?_)
      · rw [if_pos hc] at ho
        refine qm_Ret.sts 2 (f' := (60, [some (qm_r 0 7 a0), some (qm_r 0 0 a1), some (qm_i x2), some (qm_i x3), some (qm_i x4), d5], [qm_i (1 : Int32)], h)) rfl ?_
        exact rX7_toTheRim_60 H5 (ih) ho
      · rw [if_neg hc] at ho
        refine qm_Ret.sts 1 (f' := (31, [some (qm_r 0 7 a0), some (qm_r 0 0 a1), some (qm_i x2), some (qm_i x3), some (qm_i x4), d5], [qm_i x4], h)) rfl ?_
        refine qm_Ret.eq (t := 55) (e := 34) rfl (fun hc => ?_) (fun hc => ?_)
        · rw [if_pos hc] at ho
          refine qm_Ret.sts 2 (f' := (60, [some (qm_r 0 7 a0), some (qm_r 0 0 a1), some (qm_i x2), some (qm_i x3), some (qm_i x4), d5], [qm_i (1 : Int32)], h)) rfl ?_
          exact rX7_toTheRim_60 H5 (ih) ho
        · rw [if_neg hc] at ho
          refine qm_Ret.sts 5 (f' := (41, [some (qm_r 0 7 a0), some (qm_r 0 0 a1), some (qm_i x2), some (qm_i x3), some (qm_i x4), d5], [qm_i ((h.1 a1 4) - (1 : Int32)), qm_i x3], h)) rfl ?_
          refine qm_Ret.eq (t := 55) (e := 44) rfl (fun hc => ?_) (fun hc => ?_)
          · rw [if_pos hc] at ho
            refine qm_Ret.sts 2 (f' := (60, [some (qm_r 0 7 a0), some (qm_r 0 0 a1), some (qm_i x2), some (qm_i x3), some (qm_i x4), d5], [qm_i (1 : Int32)], h)) rfl ?_
            exact rX7_toTheRim_60 H5 (ih) ho
          · rw [if_neg hc] at ho
            refine qm_Ret.sts 5 (f' := (52, [some (qm_r 0 7 a0), some (qm_r 0 0 a1), some (qm_i x2), some (qm_i x3), some (qm_i x4), d5], [qm_i ((h.1 a1 3) - (1 : Int32)), qm_i x4], h)) rfl ?_
            refine qm_Ret.ne (t := 59) (e := 55) rfl (fun hc => ?_) (fun hc => ?_)
            · rw [if_pos hc] at ho
              refine qm_Ret.sts 2 (f' := (60, [some (qm_r 0 7 a0), some (qm_r 0 0 a1), some (qm_i x2), some (qm_i x3), some (qm_i x4), d5], [qm_i (1 : Int32)], h)) rfl ?_
              exact rX7_toTheRim_60 H5 (ih) ho
            · rw [if_neg hc] at ho
              refine qm_Ret.sts 1 (f' := (60, [some (qm_r 0 7 a0), some (qm_r 0 0 a1), some (qm_i x2), some (qm_i x3), some (qm_i x4), d5], [qm_i (0 : Int32)], h)) rfl ?_
              exact rX7_toTheRim_60 H5 (ih) ho
    · rw [if_neg hc] at ho
      refine qm_Ret.sts 2 (f' := (5, [some (qm_r 0 7 a0), some (qm_r 0 0 a1), some (qm_i x2), some (qm_i (x3 + (1 : Int32))), some (qm_i x4), d5], [], h)) rfl ?_
      exact H5 ho
set_option maxRecDepth 20000 in
set_option maxHeartbeats 2000000 in
theorem rX7_toTheRim_5   : ∀ {fuel : Nat} {a0 : Nat} {a1 : Nat} {x2 : Int32} {x3 : Int32} {d4 : Option qm_V} {d5 : Option qm_V} {h : qm_H} {r : Int32 × qm_H}, qX7_toTheRim_5  fuel a0 a1 x2 x3 h = some r → qm_Ret mX7_toTheRim (5, [some (qm_r 0 7 a0), some (qm_r 0 0 a1), some (qm_i x2), some (qm_i x3), d4, d5], [], h) (qm_Gi r) := by
  intro fuel
  induction fuel with
  | zero => intros; rename_i ho; cases ho
  | succ n ih =>
    intro a0 a1 x2 x3 d4 d5 h r ho
    unfold qX7_toTheRim_5 at ho
    refine qm_Ret.sts 3 (f' := (10, [some (qm_r 0 7 a0), some (qm_r 0 0 a1), some (qm_i x2), some (qm_i x3), d4, d5], [qm_i (h.1 a1 4), qm_i x3], h)) rfl ?_
    refine qm_Ret.ge (t := 97) (e := 13) rfl (fun hc => ?_) (fun hc => ?_)
    · rw [if_pos hc] at ho
      refine qm_Ret.sts 2 (f' := (16, [some (qm_r 0 7 a0), some (qm_r 0 0 a1), some (qm_i x2), some (qm_i x3), some (qm_i (0 : Int32)), d5], [], h)) rfl ?_
      exact rX7_toTheRim_16 (ih) ho
    · rw [if_neg hc] at ho
      cases ho
      exact qm_Ret.ret 2 rfl
set_option maxRecDepth 20000 in
set_option maxHeartbeats 2000000 in
theorem rX7_toTheRim_0   {a0 : Nat} {a1 : Nat} {h : qm_H} {r : Int32 × qm_H} (ho : qX7_toTheRim  a0 a1 h = some r) : qm_Ret mX7_toTheRim (0, [some (qm_r 0 7 a0), some (qm_r 0 0 a1), none, none, none, none], [], h) (qm_Gi r) := by
  unfold qX7_toTheRim at ho
  refine qm_Ret.sts 4 (f' := (5, [some (qm_r 0 7 a0), some (qm_r 0 0 a1), some (qm_i (1000000 : Int32)), some (qm_i (0 : Int32)), none, none], [], h)) rfl ?_
  exact rX7_toTheRim_5 ho
theorem cX7_toTheRim_ok : ∀ q ∈ ([(89, 0, 2, wX7_keyAt), (68, 2, 2, wJ9_min_7cf53)] : List (Nat × Nat × Nat × qm_C)), qm_CallOK RX7 1 21 q.2.1 q.1 q.2.2.1 q.2.2.2 := List.forall_mem_cons.mpr ⟨Or.inl ⟨yX7_keyAt, cX7_keyAt, 2, (some .int), 0, 0, _, sX7_keyAt, ⟨by decide, by decide⟩, ⟨jX7_keyAt, kRX7_89, uRX7⟩, ⟨by decide, by decide, rfl⟩, Or.inl ⟨rfl, rfl, iX7_keyAt, recvX7_keyAt⟩⟩, List.forall_mem_cons.mpr ⟨Or.inl ⟨yJ9_min_7cf53, cJ9_min_7cf53, 2, (some .int), 0, 0, _, sJ9_min_7cf53, ⟨by decide, by decide⟩, ⟨jJ9_min_7cf53, kRX7_68, uRJ9⟩, ⟨by decide, by decide, rfl⟩, Or.inr (Or.inl ⟨rfl, rfl, iJ9_min_7cf53⟩)⟩, fun _ h => absurd h List.not_mem_nil⟩⟩
theorem sX7_toTheRim : qm_Snd yX7_toTheRim cX7_toTheRim 6 (some .int) 1 21 wX7_toTheRim := qm_met (fld := fun k => qm_lk k pfRX7) (con := fun k => qm_lk k pcRX7) (call := fun k => qm_lk k [(89, 0, 2, wX7_keyAt), (68, 2, 2, wJ9_min_7cf53)]) (tab := qm_tab aX7_toTheRim) (plainFor_of_name (by decide)) (qm_fld_ok pfRX7_ok) (qm_con_ok pcRX7_ok) (fun idx kd n f hc => cX7_toTheRim_ok (idx, kd, n, f) (qm_lk_mem hc)) (qm_tab_ok aX7_toTheRim_ok) (fun vs h o hw => by
  unfold wX7_toTheRim at hw
  split at hw
  · obtain ⟨r, hr, rfl⟩ := Option.map_eq_some_iff.mp hw
    exact ⟨Nat.le_of_ble_eq_true rfl, rX7_toTheRim_0 (hr)⟩
  · cases hw)
theorem recvX7_toTheRim : ∀ vs h o, wX7_toTheRim vs h = some o → ∃ ci a rest, vs = qm_r 0 ci a :: rest ∧ qm_R ci = yX7_toTheRim.cls := by
  intro vs h o hw
  unfold wX7_toTheRim at hw
  split at hw
  · exact ⟨_, _, _, rfl, rfl⟩
  · cases hw
-- RX9 put(I)V
theorem jX9_put : Jvm.Cond.code yX9_put cX9_put 3 none ∈ qm_all := List.mem_filter.mpr ⟨by decide +kernel, rfl⟩
theorem iX9_put : Jvm.Cond.instanceMethod yX9_put ∈ qm_all ∧ Jvm.Cond.selects yX9_put.cls yX9_put yX9_put ∈ qm_all := ⟨List.mem_filter.mpr ⟨by decide +kernel, rfl⟩, List.mem_filter.mpr ⟨by decide +kernel, rfl⟩⟩
def wX9_put : qm_C := fun vs h => match vs with
  | [.inr (.inr (some (0, 9, p0))), .inl p1] => (qX9_put p0 p1 h).map qm_Gv
  | _ => none
def aX9_put : List (Option (Instr × Nat)) := [some (.iconst 0, 1), some (.istore_n 2, 1), some (.iload_n 2, 1), some (.iconst 4, 1), some (.if_icmp .ge 48, 3), none, none, some (.aload_n 0, 1), some (.getfield 51, 3), none, none, some (.sipush 600, 3), none, none, some (.if_icmp .ge 38, 3), none, none, some (.aload_n 0, 1), some (.getfield 9, 3), none, none, some (.aload_n 0, 1), some (.getfield 51, 3), none, none, some (.iload_n 1, 1), some (.bipush 24, 2), none, some (.bipush 8, 2), none, some (.iload_n 2, 1), some (.imul, 1), some (.isub, 1), some (.iushr, 1), some (.i2b, 1), some (.bastore, 1), some (.aload_n 0, 1), some (.dup, 1), some (.getfield 51, 3), none, none, some (.iconst 1, 1), some (.iadd, 1), some (.putfield 51, 3), none, none, some (.iinc 2 1, 3), none, none, some (.goto (-47), 3), none, none, some (.return_, 1)]
theorem aX9_put_ok : qm_tabok cX9_put aX9_put = true := by decide +kernel
def mX9_put : qm_M := (none, (fun k => qm_lk k pfRX9), (fun k => qm_lk k pcRX9), (fun k => qm_lk k []), qm_tab aX9_put)
set_option maxRecDepth 20000 in
set_option maxHeartbeats 2000000 in
theorem rX9_put_2   : ∀ {fuel : Nat} {a0 : Nat} {x1 : Int32} {x2 : Int32} {h : qm_H} {r : qm_H}, qX9_put_2  fuel a0 x1 x2 h = some r → qm_Ret mX9_put (2, [some (qm_r 0 9 a0), some (qm_i x1), some (qm_i x2)], [], h) (qm_Gv r) := by
  intro fuel
  induction fuel with
  | zero => intros; rename_i ho; cases ho
  | succ n ih =>
    intro a0 x1 x2 h r ho
    unfold qX9_put_2 at ho
    refine qm_Ret.sts 2 (f' := (4, [some (qm_r 0 9 a0), some (qm_i x1), some (qm_i x2)], [qm_i (4 : Int32), qm_i x2], h)) rfl ?_
    refine qm_Ret.ge (t := 52) (e := 7) rfl (fun hc => ?_) (fun hc => ?_)
    · rw [if_pos hc] at ho
      refine qm_Ret.sts 3 (f' := (14, [some (qm_r 0 9 a0), some (qm_i x1), some (qm_i x2)], [qm_i (600 : Int32), qm_i (h.1 a0 6)], h)) rfl ?_
      refine qm_Ret.ge (t := 52) (e := 17) rfl (fun hc => ?_) (fun hc => ?_)
      · rw [if_pos hc] at ho
        refine qm_Ret.sts 12 (f' := (35, [some (qm_r 0 9 a0), some (qm_i x1), some (qm_i x2)], [qm_i ((qm_iushr x1 ((24 : Int32) - ((8 : Int32) * x2)))).toInt8.toInt32, qm_i (h.1 a0 6), qm_r 2 600 (a0 + 1)], h)) rfl ?_
        obtain ⟨hg, ho⟩ := qm_ifn ho
        refine qm_Ret.gn (f1 := (36, [some (qm_r 0 9 a0), some (qm_i x1), some (qm_i x2)], [], (qm_seti h (a0 + 1) (h.1 a0 6).toNatClampNeg (vp_nar .byte ((qm_iushr x1 ((24 : Int32) - ((8 : Int32) * x2)))).toInt8.toInt32)))) hg rfl ?_
        refine qm_Ret.lets (F := fun h1 => (36, [some (qm_r 0 9 a0), some (qm_i x1), some (qm_i x2)], [], h1)) (G := qm_Gv) ho (fun h1 ho => ?_)
        refine qm_Ret.sts 6 (f' := (46, [some (qm_r 0 9 a0), some (qm_i x1), some (qm_i x2)], [], (qm_seti h1 a0 6 ((h1.1 a0 6) + (1 : Int32))))) rfl ?_
        refine qm_Ret.lets (F := fun h2 => (46, [some (qm_r 0 9 a0), some (qm_i x1), some (qm_i x2)], [], h2)) (G := qm_Gv) ho (fun h2 ho => ?_)
        refine qm_Ret.sts 2 (f' := (2, [some (qm_r 0 9 a0), some (qm_i x1), some (qm_i (x2 + (1 : Int32)))], [], h2)) rfl ?_
        exact ih ho
      · rw [if_neg hc] at ho
        cases ho
        exact qm_Ret.ret 1 rfl
    · rw [if_neg hc] at ho
      cases ho
      exact qm_Ret.ret 1 rfl
set_option maxRecDepth 20000 in
set_option maxHeartbeats 2000000 in
theorem rX9_put_0   {a0 : Nat} {x1 : Int32} {h : qm_H} {r : qm_H} (ho : qX9_put  a0 x1 h = some r) : qm_Ret mX9_put (0, [some (qm_r 0 9 a0), some (qm_i x1), none], [], h) (qm_Gv r) := by
  unfold qX9_put at ho
  refine qm_Ret.sts 2 (f' := (2, [some (qm_r 0 9 a0), some (qm_i x1), some (qm_i (0 : Int32))], [], h)) rfl ?_
  exact rX9_put_2 ho
theorem cX9_put_ok : ∀ q ∈ ([] : List (Nat × Nat × Nat × qm_C)), qm_CallOK RX9 0 0 q.2.1 q.1 q.2.2.1 q.2.2.2 := fun _ h => absurd h List.not_mem_nil
theorem sX9_put : qm_Snd yX9_put cX9_put 3 none 0 0 wX9_put := qm_met (fld := fun k => qm_lk k pfRX9) (con := fun k => qm_lk k pcRX9) (call := fun k => qm_lk k []) (tab := qm_tab aX9_put) (plainFor_of_name (by decide)) (qm_fld_ok pfRX9_ok) (qm_con_ok pcRX9_ok) (fun idx kd n f hc => cX9_put_ok (idx, kd, n, f) (qm_lk_mem hc)) (qm_tab_ok aX9_put_ok) (fun vs h o hw => by
  unfold wX9_put at hw
  split at hw
  · obtain ⟨r, hr, rfl⟩ := Option.map_eq_some_iff.mp hw
    exact ⟨Nat.le_of_ble_eq_true rfl, rX9_put_0 (hr)⟩
  · cases hw)
theorem recvX9_put : ∀ vs h o, wX9_put vs h = some o → ∃ ci a rest, vs = qm_r 0 ci a :: rest ∧ qm_R ci = yX9_put.cls := by
  intro vs h o hw
  unfold wX9_put at hw
  split at hw
  · exact ⟨_, _, _, rfl, rfl⟩
  · cases hw
-- RX9 basketAt(I)LWillowLaw$Basket;
theorem jX9_basketAt : Jvm.Cond.code yX9_basketAt cX9_basketAt 2 (some (.object "WillowLaw$Basket")) ∈ qm_all := List.mem_filter.mpr ⟨by decide +kernel, rfl⟩
theorem iX9_basketAt : Jvm.Cond.instanceMethod yX9_basketAt ∈ qm_all ∧ Jvm.Cond.selects yX9_basketAt.cls yX9_basketAt yX9_basketAt ∈ qm_all := ⟨List.mem_filter.mpr ⟨by decide +kernel, rfl⟩, List.mem_filter.mpr ⟨by decide +kernel, rfl⟩⟩
def wX9_basketAt : qm_C := fun vs h => match vs with
  | [.inr (.inr (some (0, 9, p0))), .inl p1] => (qX9_basketAt p0 p1 h).map (qm_Go 0)
  | _ => none
def aX9_basketAt : List (Option (Instr × Nat)) := [some (.iload_n 1, 1), some (.ifCond .lt 18, 3), none, none, some (.iload_n 1, 1), some (.aload_n 0, 1), some (.getfield 15, 3), none, none, some (.iconst 0, 1), some (.iaload, 1), some (.if_icmp .ge 8, 3), none, none, some (.iload_n 1, 1), some (.iconst 2, 1), some (.if_icmp .lt 7, 3), none, none, some (.aconst_null, 1), some (.goto 9, 3), none, none, some (.aload_n 0, 1), some (.getfield 21, 3), none, none, some (.iload_n 1, 1), some (.aaload, 1), some (.areturn, 1)]
theorem aX9_basketAt_ok : qm_tabok cX9_basketAt aX9_basketAt = true := by decide +kernel
def mX9_basketAt : qm_M := ((some (.object "WillowLaw$Basket")), (fun k => qm_lk k pfRX9), (fun k => qm_lk k pcRX9), (fun k => qm_lk k []), qm_tab aX9_basketAt)
set_option maxRecDepth 20000 in
set_option maxHeartbeats 2000000 in
theorem rX9_basketAt_0   {a0 : Nat} {x1 : Int32} {h : qm_H} {r : Option Nat × qm_H} (ho : qX9_basketAt  a0 x1 h = some r) : qm_Ret mX9_basketAt (0, [some (qm_r 0 9 a0), some (qm_i x1)], [], h) ((qm_Go 0) r) := by
  unfold qX9_basketAt at ho
  refine qm_Ret.sts 1 (f' := (1, [some (qm_r 0 9 a0), some (qm_i x1)], [qm_i x1], h)) rfl ?_
  refine qm_Ret.lt (t := 19) (e := 4) rfl (fun hc => ?_) (fun hc => ?_)
  · rw [if_pos hc] at ho
    cases ho
    exact qm_Ret.ret 3 rfl
  · rw [if_neg hc] at ho
    refine qm_Ret.sts 5 (f' := (11, [some (qm_r 0 9 a0), some (qm_i x1)], [qm_i (h.1 (a0 + 2) (0 : Int32).toNatClampNeg), qm_i x1], h)) rfl ?_
    refine qm_Ret.ge (t := 19) (e := 14) rfl (fun hc => ?_) (fun hc => ?_)
    · rw [if_pos hc] at ho
      refine qm_Ret.sts 2 (f' := (16, [some (qm_r 0 9 a0), some (qm_i x1)], [qm_i (2 : Int32), qm_i x1], h)) rfl ?_
      refine qm_Ret.lt (t := 23) (e := 19) rfl (fun hc => ?_) (fun hc => ?_)
      · rw [if_pos hc] at ho
        refine qm_Ret.sts 3 (f' := (28, [some (qm_r 0 9 a0), some (qm_i x1)], [qm_i x1, qm_r 5 2 (a0 + 3)], h)) rfl ?_
        obtain ⟨hg, ho⟩ := qm_ifn ho
        refine qm_Ret.gn (f1 := (29, [some (qm_r 0 9 a0), some (qm_i x1)], [qm_r 0 0 ((a0 + 3) + 4 + 11 * (x1).toNatClampNeg)], h)) hg rfl ?_
        cases ho
        exact qm_Ret.ret 1 rfl
      · rw [if_neg hc] at ho
        cases ho
        exact qm_Ret.ret 3 rfl
    · rw [if_neg hc] at ho
      cases ho
      exact qm_Ret.ret 3 rfl
theorem cX9_basketAt_ok : ∀ q ∈ ([] : List (Nat × Nat × Nat × qm_C)), qm_CallOK RX9 0 0 q.2.1 q.1 q.2.2.1 q.2.2.2 := fun _ h => absurd h List.not_mem_nil
theorem sX9_basketAt : qm_Snd yX9_basketAt cX9_basketAt 2 (some (.object "WillowLaw$Basket")) 0 0 wX9_basketAt := qm_met (fld := fun k => qm_lk k pfRX9) (con := fun k => qm_lk k pcRX9) (call := fun k => qm_lk k []) (tab := qm_tab aX9_basketAt) (plainFor_of_name (by decide)) (qm_fld_ok pfRX9_ok) (qm_con_ok pcRX9_ok) (fun idx kd n f hc => cX9_basketAt_ok (idx, kd, n, f) (qm_lk_mem hc)) (qm_tab_ok aX9_basketAt_ok) (fun vs h o hw => by
  unfold wX9_basketAt at hw
  split at hw
  · obtain ⟨r, hr, rfl⟩ := Option.map_eq_some_iff.mp hw
    exact ⟨Nat.le_of_ble_eq_true rfl, rX9_basketAt_0 (hr)⟩
  · cases hw)
theorem recvX9_basketAt : ∀ vs h o, wX9_basketAt vs h = some o → ∃ ci a rest, vs = qm_r 0 ci a :: rest ∧ qm_R ci = yX9_basketAt.cls := by
  intro vs h o hw
  unfold wX9_basketAt at hw
  split at hw
  · exact ⟨_, _, _, rfl, rfl⟩
  · cases hw
-- RX9 yearAt(I)LWillowLaw$Year;
theorem jX9_yearAt : Jvm.Cond.code yX9_yearAt cX9_yearAt 2 (some (.object "WillowLaw$Year")) ∈ qm_all := List.mem_filter.mpr ⟨by decide +kernel, rfl⟩
theorem iX9_yearAt : Jvm.Cond.instanceMethod yX9_yearAt ∈ qm_all ∧ Jvm.Cond.selects yX9_yearAt.cls yX9_yearAt yX9_yearAt ∈ qm_all := ⟨List.mem_filter.mpr ⟨by decide +kernel, rfl⟩, List.mem_filter.mpr ⟨by decide +kernel, rfl⟩⟩
def wX9_yearAt : qm_C := fun vs h => match vs with
  | [.inr (.inr (some (0, 9, p0))), .inl p1] => (qX9_yearAt p0 p1 h).map (qm_Go 10)
  | _ => none
def aX9_yearAt : List (Option (Instr × Nat)) := [some (.iload_n 1, 1), some (.ifCond .lt 18, 3), none, none, some (.iload_n 1, 1), some (.aload_n 0, 1), some (.getfield 15, 3), none, none, some (.iconst 1, 1), some (.iaload, 1), some (.if_icmp .ge 8, 3), none, none, some (.iload_n 1, 1), some (.iconst 2, 1), some (.if_icmp .lt 7, 3), none, none, some (.aconst_null, 1), some (.goto 9, 3), none, none, some (.aload_n 0, 1), some (.getfield 27, 3), none, none, some (.iload_n 1, 1), some (.aaload, 1), some (.areturn, 1)]
theorem aX9_yearAt_ok : qm_tabok cX9_yearAt aX9_yearAt = true := by decide +kernel
def mX9_yearAt : qm_M := ((some (.object "WillowLaw$Year")), (fun k => qm_lk k pfRX9), (fun k => qm_lk k pcRX9), (fun k => qm_lk k []), qm_tab aX9_yearAt)
set_option maxRecDepth 20000 in
set_option maxHeartbeats 2000000 in
theorem rX9_yearAt_0   {a0 : Nat} {x1 : Int32} {h : qm_H} {r : Option Nat × qm_H} (ho : qX9_yearAt  a0 x1 h = some r) : qm_Ret mX9_yearAt (0, [some (qm_r 0 9 a0), some (qm_i x1)], [], h) ((qm_Go 10) r) := by
  unfold qX9_yearAt at ho
  refine qm_Ret.sts 1 (f' := (1, [some (qm_r 0 9 a0), some (qm_i x1)], [qm_i x1], h)) rfl ?_
  refine qm_Ret.lt (t := 19) (e := 4) rfl (fun hc => ?_) (fun hc => ?_)
  · rw [if_pos hc] at ho
    cases ho
    exact qm_Ret.ret 3 rfl
  · rw [if_neg hc] at ho
    refine qm_Ret.sts 5 (f' := (11, [some (qm_r 0 9 a0), some (qm_i x1)], [qm_i (h.1 (a0 + 2) (1 : Int32).toNatClampNeg), qm_i x1], h)) rfl ?_
    refine qm_Ret.ge (t := 19) (e := 14) rfl (fun hc => ?_) (fun hc => ?_)
    · rw [if_pos hc] at ho
      refine qm_Ret.sts 2 (f' := (16, [some (qm_r 0 9 a0), some (qm_i x1)], [qm_i (2 : Int32), qm_i x1], h)) rfl ?_
      refine qm_Ret.lt (t := 23) (e := 19) rfl (fun hc => ?_) (fun hc => ?_)
      · rw [if_pos hc] at ho
        refine qm_Ret.sts 3 (f' := (28, [some (qm_r 0 9 a0), some (qm_i x1)], [qm_i x1, qm_r 9 2 (a0 + 4)], h)) rfl ?_
        obtain ⟨hg, ho⟩ := qm_ifn ho
        refine qm_Ret.gn (f1 := (29, [some (qm_r 0 9 a0), some (qm_i x1)], [qm_r 0 10 ((a0 + 4) + 7 + 11 * (x1).toNatClampNeg)], h)) hg rfl ?_
        cases ho
        exact qm_Ret.ret 1 rfl
      · rw [if_neg hc] at ho
        cases ho
        exact qm_Ret.ret 3 rfl
    · rw [if_neg hc] at ho
      cases ho
      exact qm_Ret.ret 3 rfl
theorem cX9_yearAt_ok : ∀ q ∈ ([] : List (Nat × Nat × Nat × qm_C)), qm_CallOK RX9 0 0 q.2.1 q.1 q.2.2.1 q.2.2.2 := fun _ h => absurd h List.not_mem_nil
theorem sX9_yearAt : qm_Snd yX9_yearAt cX9_yearAt 2 (some (.object "WillowLaw$Year")) 0 0 wX9_yearAt := qm_met (fld := fun k => qm_lk k pfRX9) (con := fun k => qm_lk k pcRX9) (call := fun k => qm_lk k []) (tab := qm_tab aX9_yearAt) (plainFor_of_name (by decide)) (qm_fld_ok pfRX9_ok) (qm_con_ok pcRX9_ok) (fun idx kd n f hc => cX9_yearAt_ok (idx, kd, n, f) (qm_lk_mem hc)) (qm_tab_ok aX9_yearAt_ok) (fun vs h o hw => by
  unfold wX9_yearAt at hw
  split at hw
  · obtain ⟨r, hr, rfl⟩ := Option.map_eq_some_iff.mp hw
    exact ⟨Nat.le_of_ble_eq_true rfl, rX9_yearAt_0 (hr)⟩
  · cases hw)
theorem recvX9_yearAt : ∀ vs h o, wX9_yearAt vs h = some o → ∃ ci a rest, vs = qm_r 0 ci a :: rest ∧ qm_R ci = yX9_yearAt.cls := by
  intro vs h o hw
  unfold wX9_yearAt at hw
  split at hw
  · exact ⟨_, _, _, rfl, rfl⟩
  · cases hw
-- RX9 parishAt(I)LWillowLaw$Parish;
theorem jX9_parishAt : Jvm.Cond.code yX9_parishAt cX9_parishAt 2 (some (.object "WillowLaw$Parish")) ∈ qm_all := List.mem_filter.mpr ⟨by decide +kernel, rfl⟩
theorem iX9_parishAt : Jvm.Cond.instanceMethod yX9_parishAt ∈ qm_all ∧ Jvm.Cond.selects yX9_parishAt.cls yX9_parishAt yX9_parishAt ∈ qm_all := ⟨List.mem_filter.mpr ⟨by decide +kernel, rfl⟩, List.mem_filter.mpr ⟨by decide +kernel, rfl⟩⟩
def wX9_parishAt : qm_C := fun vs h => match vs with
  | [.inr (.inr (some (0, 9, p0))), .inl p1] => (qX9_parishAt p0 p1 h).map (qm_Go 2)
  | _ => none
def aX9_parishAt : List (Option (Instr × Nat)) := [some (.iload_n 1, 1), some (.ifCond .lt 18, 3), none, none, some (.iload_n 1, 1), some (.aload_n 0, 1), some (.getfield 15, 3), none, none, some (.iconst 2, 1), some (.iaload, 1), some (.if_icmp .ge 8, 3), none, none, some (.iload_n 1, 1), some (.iconst 2, 1), some (.if_icmp .lt 7, 3), none, none, some (.aconst_null, 1), some (.goto 9, 3), none, none, some (.aload_n 0, 1), some (.getfield 33, 3), none, none, some (.iload_n 1, 1), some (.aaload, 1), some (.areturn, 1)]
theorem aX9_parishAt_ok : qm_tabok cX9_parishAt aX9_parishAt = true := by decide +kernel
def mX9_parishAt : qm_M := ((some (.object "WillowLaw$Parish")), (fun k => qm_lk k pfRX9), (fun k => qm_lk k pcRX9), (fun k => qm_lk k []), qm_tab aX9_parishAt)
set_option maxRecDepth 20000 in
set_option maxHeartbeats 2000000 in
theorem rX9_parishAt_0   {a0 : Nat} {x1 : Int32} {h : qm_H} {r : Option Nat × qm_H} (ho : qX9_parishAt  a0 x1 h = some r) : qm_Ret mX9_parishAt (0, [some (qm_r 0 9 a0), some (qm_i x1)], [], h) ((qm_Go 2) r) := by
  unfold qX9_parishAt at ho
  refine qm_Ret.sts 1 (f' := (1, [some (qm_r 0 9 a0), some (qm_i x1)], [qm_i x1], h)) rfl ?_
  refine qm_Ret.lt (t := 19) (e := 4) rfl (fun hc => ?_) (fun hc => ?_)
  · rw [if_pos hc] at ho
    cases ho
    exact qm_Ret.ret 3 rfl
  · rw [if_neg hc] at ho
    refine qm_Ret.sts 5 (f' := (11, [some (qm_r 0 9 a0), some (qm_i x1)], [qm_i (h.1 (a0 + 2) (2 : Int32).toNatClampNeg), qm_i x1], h)) rfl ?_
    refine qm_Ret.ge (t := 19) (e := 14) rfl (fun hc => ?_) (fun hc => ?_)
    · rw [if_pos hc] at ho
      refine qm_Ret.sts 2 (f' := (16, [some (qm_r 0 9 a0), some (qm_i x1)], [qm_i (2 : Int32), qm_i x1], h)) rfl ?_
      refine qm_Ret.lt (t := 23) (e := 19) rfl (fun hc => ?_) (fun hc => ?_)
      · rw [if_pos hc] at ho
        refine qm_Ret.sts 3 (f' := (28, [some (qm_r 0 9 a0), some (qm_i x1)], [qm_i x1, qm_r 7 2 (a0 + 5)], h)) rfl ?_
        obtain ⟨hg, ho⟩ := qm_ifn ho
        refine qm_Ret.gn (f1 := (29, [some (qm_r 0 9 a0), some (qm_i x1)], [qm_r 0 2 ((a0 + 5) + 8 + 11 * (x1).toNatClampNeg)], h)) hg rfl ?_
        cases ho
        exact qm_Ret.ret 1 rfl
      · rw [if_neg hc] at ho
        cases ho
        exact qm_Ret.ret 3 rfl
    · rw [if_neg hc] at ho
      cases ho
      exact qm_Ret.ret 3 rfl
theorem cX9_parishAt_ok : ∀ q ∈ ([] : List (Nat × Nat × Nat × qm_C)), qm_CallOK RX9 0 0 q.2.1 q.1 q.2.2.1 q.2.2.2 := fun _ h => absurd h List.not_mem_nil
theorem sX9_parishAt : qm_Snd yX9_parishAt cX9_parishAt 2 (some (.object "WillowLaw$Parish")) 0 0 wX9_parishAt := qm_met (fld := fun k => qm_lk k pfRX9) (con := fun k => qm_lk k pcRX9) (call := fun k => qm_lk k []) (tab := qm_tab aX9_parishAt) (plainFor_of_name (by decide)) (qm_fld_ok pfRX9_ok) (qm_con_ok pcRX9_ok) (fun idx kd n f hc => cX9_parishAt_ok (idx, kd, n, f) (qm_lk_mem hc)) (qm_tab_ok aX9_parishAt_ok) (fun vs h o hw => by
  unfold wX9_parishAt at hw
  split at hw
  · obtain ⟨r, hr, rfl⟩ := Option.map_eq_some_iff.mp hw
    exact ⟨Nat.le_of_ble_eq_true rfl, rX9_parishAt_0 (hr)⟩
  · cases hw)
theorem recvX9_parishAt : ∀ vs h o, wX9_parishAt vs h = some o → ∃ ci a rest, vs = qm_r 0 ci a :: rest ∧ qm_R ci = yX9_parishAt.cls := by
  intro vs h o hw
  unfold wX9_parishAt at hw
  split at hw
  · exact ⟨_, _, _, rfl, rfl⟩
  · cases hw
-- RX9 cluesAt(I)LWillowLaw$Clues;
theorem jX9_cluesAt : Jvm.Cond.code yX9_cluesAt cX9_cluesAt 2 (some (.object "WillowLaw$Clues")) ∈ qm_all := List.mem_filter.mpr ⟨by decide +kernel, rfl⟩
theorem iX9_cluesAt : Jvm.Cond.instanceMethod yX9_cluesAt ∈ qm_all ∧ Jvm.Cond.selects yX9_cluesAt.cls yX9_cluesAt yX9_cluesAt ∈ qm_all := ⟨List.mem_filter.mpr ⟨by decide +kernel, rfl⟩, List.mem_filter.mpr ⟨by decide +kernel, rfl⟩⟩
def wX9_cluesAt : qm_C := fun vs h => match vs with
  | [.inr (.inr (some (0, 9, p0))), .inl p1] => (qX9_cluesAt p0 p1 h).map (qm_Go 1)
  | _ => none
def aX9_cluesAt : List (Option (Instr × Nat)) := [some (.iload_n 1, 1), some (.ifCond .lt 18, 3), none, none, some (.iload_n 1, 1), some (.aload_n 0, 1), some (.getfield 15, 3), none, none, some (.iconst 3, 1), some (.iaload, 1), some (.if_icmp .ge 8, 3), none, none, some (.iload_n 1, 1), some (.iconst 2, 1), some (.if_icmp .lt 7, 3), none, none, some (.aconst_null, 1), some (.goto 9, 3), none, none, some (.aload_n 0, 1), some (.getfield 39, 3), none, none, some (.iload_n 1, 1), some (.aaload, 1), some (.areturn, 1)]
theorem aX9_cluesAt_ok : qm_tabok cX9_cluesAt aX9_cluesAt = true := by decide +kernel
def mX9_cluesAt : qm_M := ((some (.object "WillowLaw$Clues")), (fun k => qm_lk k pfRX9), (fun k => qm_lk k pcRX9), (fun k => qm_lk k []), qm_tab aX9_cluesAt)
set_option maxRecDepth 20000 in
set_option maxHeartbeats 2000000 in
theorem rX9_cluesAt_0   {a0 : Nat} {x1 : Int32} {h : qm_H} {r : Option Nat × qm_H} (ho : qX9_cluesAt  a0 x1 h = some r) : qm_Ret mX9_cluesAt (0, [some (qm_r 0 9 a0), some (qm_i x1)], [], h) ((qm_Go 1) r) := by
  unfold qX9_cluesAt at ho
  refine qm_Ret.sts 1 (f' := (1, [some (qm_r 0 9 a0), some (qm_i x1)], [qm_i x1], h)) rfl ?_
  refine qm_Ret.lt (t := 19) (e := 4) rfl (fun hc => ?_) (fun hc => ?_)
  · rw [if_pos hc] at ho
    cases ho
    exact qm_Ret.ret 3 rfl
  · rw [if_neg hc] at ho
    refine qm_Ret.sts 5 (f' := (11, [some (qm_r 0 9 a0), some (qm_i x1)], [qm_i (h.1 (a0 + 2) (3 : Int32).toNatClampNeg), qm_i x1], h)) rfl ?_
    refine qm_Ret.ge (t := 19) (e := 14) rfl (fun hc => ?_) (fun hc => ?_)
    · rw [if_pos hc] at ho
      refine qm_Ret.sts 2 (f' := (16, [some (qm_r 0 9 a0), some (qm_i x1)], [qm_i (2 : Int32), qm_i x1], h)) rfl ?_
      refine qm_Ret.lt (t := 23) (e := 19) rfl (fun hc => ?_) (fun hc => ?_)
      · rw [if_pos hc] at ho
        refine qm_Ret.sts 3 (f' := (28, [some (qm_r 0 9 a0), some (qm_i x1)], [qm_i x1, qm_r 6 2 (a0 + 6)], h)) rfl ?_
        obtain ⟨hg, ho⟩ := qm_ifn ho
        refine qm_Ret.gn (f1 := (29, [some (qm_r 0 9 a0), some (qm_i x1)], [qm_r 0 1 ((a0 + 6) + 10 + 11 * (x1).toNatClampNeg)], h)) hg rfl ?_
        cases ho
        exact qm_Ret.ret 1 rfl
      · rw [if_neg hc] at ho
        cases ho
        exact qm_Ret.ret 3 rfl
    · rw [if_neg hc] at ho
      cases ho
      exact qm_Ret.ret 3 rfl
theorem cX9_cluesAt_ok : ∀ q ∈ ([] : List (Nat × Nat × Nat × qm_C)), qm_CallOK RX9 0 0 q.2.1 q.1 q.2.2.1 q.2.2.2 := fun _ h => absurd h List.not_mem_nil
theorem sX9_cluesAt : qm_Snd yX9_cluesAt cX9_cluesAt 2 (some (.object "WillowLaw$Clues")) 0 0 wX9_cluesAt := qm_met (fld := fun k => qm_lk k pfRX9) (con := fun k => qm_lk k pcRX9) (call := fun k => qm_lk k []) (tab := qm_tab aX9_cluesAt) (plainFor_of_name (by decide)) (qm_fld_ok pfRX9_ok) (qm_con_ok pcRX9_ok) (fun idx kd n f hc => cX9_cluesAt_ok (idx, kd, n, f) (qm_lk_mem hc)) (qm_tab_ok aX9_cluesAt_ok) (fun vs h o hw => by
  unfold wX9_cluesAt at hw
  split at hw
  · obtain ⟨r, hr, rfl⟩ := Option.map_eq_some_iff.mp hw
    exact ⟨Nat.le_of_ble_eq_true rfl, rX9_cluesAt_0 (hr)⟩
  · cases hw)
theorem recvX9_cluesAt : ∀ vs h o, wX9_cluesAt vs h = some o → ∃ ci a rest, vs = qm_r 0 ci a :: rest ∧ qm_R ci = yX9_cluesAt.cls := by
  intro vs h o hw
  unfold wX9_cluesAt at hw
  split at hw
  · exact ⟨_, _, _, rfl, rfl⟩
  · cases hw
-- RX10 take(LWillowLaw$Year;)V
theorem jX10_take : Jvm.Cond.code yX10_take cX10_take 2 none ∈ qm_all := List.mem_filter.mpr ⟨by decide +kernel, rfl⟩
theorem iX10_take : Jvm.Cond.instanceMethod yX10_take ∈ qm_all ∧ Jvm.Cond.selects yX10_take.cls yX10_take yX10_take ∈ qm_all := ⟨List.mem_filter.mpr ⟨by decide +kernel, rfl⟩, List.mem_filter.mpr ⟨by decide +kernel, rfl⟩⟩
def wX10_take : qm_C := fun vs h => match vs with
  | [.inr (.inr (some (0, 10, p0))), .inr (.inr (some (0, 10, p1)))] => (qX10_take p0 p1 h).map qm_Gv
  | _ => none
def aX10_take : List (Option (Instr × Nat)) := [some (.aload_n 1, 1), some (.getfield 11, 3), none, none, some (.iconst 0, 1), some (.aload_n 0, 1), some (.getfield 11, 3), none, none, some (.iconst 0, 1), some (.sipush 160, 3), none, none, some (.invokestatic 19, 3), none, none, some (.aload_n 0, 1), some (.aload_n 1, 1), some (.getfield 15, 3), none, none, some (.putfield 15, 3), none, none, some (.return_, 1)]
theorem aX10_take_ok : qm_tabok cX10_take aX10_take = true := by decide +kernel
def mX10_take : qm_M := (none, (fun k => qm_lk k pfRX10), (fun k => qm_lk k pcRX10), (fun k => qm_lk k [(19, 2, 5, qm_cpy)]), qm_tab aX10_take)
set_option maxRecDepth 20000 in
set_option maxHeartbeats 2000000 in
theorem rX10_take_0   {a0 : Nat} {a1 : Nat} {h : qm_H} {r : qm_H} (ho : qX10_take  a0 a1 h = some r) : qm_Ret mX10_take (0, [some (qm_r 0 10 a0), some (qm_r 0 10 a1)], [], h) (qm_Gv r) := by
  unfold qX10_take at ho
  refine qm_Ret.sts 7 (f' := (13, [some (qm_r 0 10 a0), some (qm_r 0 10 a1)], [qm_i (160 : Int32), qm_i (0 : Int32), qm_r 1 160 (a0 + 1), qm_i (0 : Int32), qm_r 1 160 (a1 + 1)], h)) rfl ?_
  obtain ⟨h1, hr, ho⟩ := qm_bd ho
  refine qm_Ret.call (X := qm_cpy [qm_r 1 160 (a1 + 1), qm_i (0 : Int32), qm_r 1 160 (a0 + 1), qm_i (0 : Int32), qm_i (160 : Int32)] h) (o1 := (none, h1)) (qm_cpy_ok hr) rfl ?_
  show qm_Ret _ (16, [some (qm_r 0 10 a0), some (qm_r 0 10 a1)], [], h1) _
  refine qm_Ret.sts 4 (f' := (24, [some (qm_r 0 10 a0), some (qm_r 0 10 a1)], [], (qm_seti h1 a0 1 (h1.1 a1 1)))) rfl ?_
  refine qm_Ret.lets (F := fun h2 => (24, [some (qm_r 0 10 a0), some (qm_r 0 10 a1)], [], h2)) (G := qm_Gv) ho (fun h2 ho => ?_)
  cases ho
  exact qm_Ret.ret 1 rfl
theorem cX10_take_ok : ∀ q ∈ ([(19, 2, 5, qm_cpy)] : List (Nat × Nat × Nat × qm_C)), qm_CallOK RX10 1 60 q.2.1 q.1 q.2.2.1 q.2.2.2 := List.forall_mem_cons.mpr ⟨Or.inr ⟨rfl, rfl, rfl, by decide, by decide, kRX10_19⟩, fun _ h => absurd h List.not_mem_nil⟩
theorem sX10_take : qm_Snd yX10_take cX10_take 2 none 1 60 wX10_take := qm_met (fld := fun k => qm_lk k pfRX10) (con := fun k => qm_lk k pcRX10) (call := fun k => qm_lk k [(19, 2, 5, qm_cpy)]) (tab := qm_tab aX10_take) (plainFor_of_name (by decide)) (qm_fld_ok pfRX10_ok) (qm_con_ok pcRX10_ok) (fun idx kd n f hc => cX10_take_ok (idx, kd, n, f) (qm_lk_mem hc)) (qm_tab_ok aX10_take_ok) (fun vs h o hw => by
  unfold wX10_take at hw
  split at hw
  · obtain ⟨r, hr, rfl⟩ := Option.map_eq_some_iff.mp hw
    exact ⟨Nat.le_of_ble_eq_true rfl, rX10_take_0 (hr)⟩
  · cases hw)
theorem recvX10_take : ∀ vs h o, wX10_take vs h = some o → ∃ ci a rest, vs = qm_r 0 ci a :: rest ∧ qm_R ci = yX10_take.cls := by
  intro vs h o hw
  unfold wX10_take at hw
  split at hw
  · exact ⟨_, _, _, rfl, rfl⟩
  · cases hw
-- RX9 keep(IILWillowLaw$Reader;)V
theorem jX9_keep : Jvm.Cond.code yX9_keep cX9_keep 4 none ∈ qm_all := List.mem_filter.mpr ⟨by decide +kernel, rfl⟩
theorem iX9_keep : Jvm.Cond.instanceMethod yX9_keep ∈ qm_all ∧ Jvm.Cond.selects yX9_keep.cls yX9_keep yX9_keep ∈ qm_all := ⟨List.mem_filter.mpr ⟨by decide +kernel, rfl⟩, List.mem_filter.mpr ⟨by decide +kernel, rfl⟩⟩
def wX9_keep : qm_C := fun vs h => match vs with
  | [.inr (.inr (some (0, 9, p0))), .inl p1, .inl p2, .inr (.inr (some (0, 3, p3)))] => (qX9_keep p0 p1 p2 p3 h).map qm_Gv
  | _ => none
def aX9_keep : List (Option (Instr × Nat)) := [some (.iload_n 2, 1), some (.ifCond .lt 8, 3), none, none, some (.iload_n 2, 1), some (.iconst 2, 1), some (.if_icmp .lt 4, 3), none, none, some (.return_, 1), some (.iload_n 1, 1), some (.tableswitch 73 0 2 #[25, 41, 57], 25), none, none, none, none, none, none, none, none, none, none, none, none, none, none, none, none, none, none, none, none, none, none, none, none, some (.aload_n 0, 1), some (.getfield 21, 3), none, none, some (.iload_n 2, 1), some (.aaload, 1), some (.aload_n 3, 1), some (.getfield 54, 3), none, none, some (.invokevirtual 60, 3), none, none, some (.goto 48, 3), none, none, some (.aload_n 0, 1), some (.getfield 27, 3), none, none, some (.iload_n 2, 1), some (.aaload, 1), some (.aload_n 3, 1), some (.getfield 64, 3), none, none, some (.invokevirtual 68, 3), none, none, some (.goto 32, 3), none, none, some (.aload_n 0, 1), some (.getfield 33, 3), none, none, some (.iload_n 2, 1), some (.aaload, 1), some (.aload_n 3, 1), some (.getfield 71, 3), none, none, some (.invokevirtual 75, 3), none, none, some (.goto 16, 3), none, none, some (.aload_n 0, 1), some (.getfield 39, 3), none, none, some (.iload_n 2, 1), some (.aaload, 1), some (.aload_n 3, 1), some (.getfield 78, 3), none, none, some (.invokevirtual 82, 3), none, none, some (.return_, 1)]
theorem aX9_keep_ok : qm_tabok cX9_keep aX9_keep = true := by decide +kernel
def mX9_keep : qm_M := (none, (fun k => qm_lk k pfRX9), (fun k => qm_lk k pcRX9), (fun k => qm_lk k [(60, 0, 2, wX0_take), (68, 0, 2, wX10_take), (75, 0, 2, wX2_take), (82, 0, 2, wX1_take)]), qm_tab aX9_keep)
set_option maxRecDepth 20000 in
set_option maxHeartbeats 2000000 in
theorem rX9_keep_0   {a0 : Nat} {x1 : Int32} {x2 : Int32} {a3 : Nat} {h : qm_H} {r : qm_H} (ho : qX9_keep  a0 x1 x2 a3 h = some r) : qm_Ret mX9_keep (0, [some (qm_r 0 9 a0), some (qm_i x1), some (qm_i x2), some (qm_r 0 3 a3)], [], h) (qm_Gv r) := by
  unfold qX9_keep at ho
  refine qm_Ret.sts 1 (f' := (1, [some (qm_r 0 9 a0), some (qm_i x1), some (qm_i x2), some (qm_r 0 3 a3)], [qm_i x2], h)) rfl ?_
  refine qm_Ret.lt (t := 9) (e := 4) rfl (fun hc => ?_) (fun hc => ?_)
  · rw [if_pos hc] at ho
    cases ho
    exact qm_Ret.ret 1 rfl
  · rw [if_neg hc] at ho
    refine qm_Ret.sts 2 (f' := (6, [some (qm_r 0 9 a0), some (qm_i x1), some (qm_i x2), some (qm_r 0 3 a3)], [qm_i (2 : Int32), qm_i x2], h)) rfl ?_
    refine qm_Ret.lt (t := 10) (e := 9) rfl (fun hc => ?_) (fun hc => ?_)
    · rw [if_pos hc] at ho
      refine qm_Ret.sts 1 (f' := (11, [some (qm_r 0 9 a0), some (qm_i x1), some (qm_i x2), some (qm_r 0 3 a3)], [qm_i x1], h)) rfl ?_
      by_cases hc0 : x1 = (0 : Int32)
      · rw [if_pos hc0] at ho
        refine qm_Ret.sw (z := (0 : Int32)) (f1 := (36, [some (qm_r 0 9 a0), some (qm_i x1), some (qm_i x2), some (qm_r 0 3 a3)], [], h)) hc0 rfl rfl ?_
        refine qm_Ret.sts 3 (f' := (41, [some (qm_r 0 9 a0), some (qm_i x1), some (qm_i x2), some (qm_r 0 3 a3)], [qm_i x2, qm_r 5 2 (a0 + 3)], h)) rfl ?_
        obtain ⟨hg, ho⟩ := qm_ifn ho
        refine qm_Ret.gn (f1 := (42, [some (qm_r 0 9 a0), some (qm_i x1), some (qm_i x2), some (qm_r 0 3 a3)], [qm_r 0 0 ((a0 + 3) + 4 + 11 * (x2).toNatClampNeg)], h)) hg rfl ?_
        refine qm_Ret.sts 2 (f' := (46, [some (qm_r 0 9 a0), some (qm_i x1), some (qm_i x2), some (qm_r 0 3 a3)], [qm_r 0 0 (a3 + 1), qm_r 0 0 ((a0 + 3) + 4 + 11 * (x2).toNatClampNeg)], h)) rfl ?_
        obtain ⟨h1, hr, ho⟩ := qm_bd ho
        refine qm_Ret.call (X := wX0_take [qm_r 0 0 ((a0 + 3) + 4 + 11 * (x2).toNatClampNeg), qm_r 0 0 (a3 + 1)] h) (o1 := (none, h1)) (qm_mp (G := qm_Gv) hr) rfl ?_
        show qm_Ret _ (49, [some (qm_r 0 9 a0), some (qm_i x1), some (qm_i x2), some (qm_r 0 3 a3)], [], h1) _
        cases ho
        exact qm_Ret.ret 2 rfl
      · rw [if_neg hc0] at ho
        by_cases hc1 : x1 = (1 : Int32)
        · rw [if_pos hc1] at ho
          refine qm_Ret.sw (z := (1 : Int32)) (f1 := (52, [some (qm_r 0 9 a0), some (qm_i x1), some (qm_i x2), some (qm_r 0 3 a3)], [], h)) hc1 rfl rfl ?_
          refine qm_Ret.sts 3 (f' := (57, [some (qm_r 0 9 a0), some (qm_i x1), some (qm_i x2), some (qm_r 0 3 a3)], [qm_i x2, qm_r 9 2 (a0 + 4)], h)) rfl ?_
          obtain ⟨hg, ho⟩ := qm_ifn ho
          refine qm_Ret.gn (f1 := (58, [some (qm_r 0 9 a0), some (qm_i x1), some (qm_i x2), some (qm_r 0 3 a3)], [qm_r 0 10 ((a0 + 4) + 7 + 11 * (x2).toNatClampNeg)], h)) hg rfl ?_
          refine qm_Ret.sts 2 (f' := (62, [some (qm_r 0 9 a0), some (qm_i x1), some (qm_i x2), some (qm_r 0 3 a3)], [qm_r 0 10 (a3 + 5), qm_r 0 10 ((a0 + 4) + 7 + 11 * (x2).toNatClampNeg)], h)) rfl ?_
          obtain ⟨h2, hr, ho⟩ := qm_bd ho
          refine qm_Ret.call (X := wX10_take [qm_r 0 10 ((a0 + 4) + 7 + 11 * (x2).toNatClampNeg), qm_r 0 10 (a3 + 5)] h) (o1 := (none, h2)) (qm_mp (G := qm_Gv) hr) rfl ?_
          show qm_Ret _ (65, [some (qm_r 0 9 a0), some (qm_i x1), some (qm_i x2), some (qm_r 0 3 a3)], [], h2) _
          cases ho
          exact qm_Ret.ret 2 rfl
        · rw [if_neg hc1] at ho
          by_cases hc2 : x1 = (2 : Int32)
          · rw [if_pos hc2] at ho
            refine qm_Ret.sw (z := (2 : Int32)) (f1 := (68, [some (qm_r 0 9 a0), some (qm_i x1), some (qm_i x2), some (qm_r 0 3 a3)], [], h)) hc2 rfl rfl ?_
            refine qm_Ret.sts 3 (f' := (73, [some (qm_r 0 9 a0), some (qm_i x1), some (qm_i x2), some (qm_r 0 3 a3)], [qm_i x2, qm_r 7 2 (a0 + 5)], h)) rfl ?_
            obtain ⟨hg, ho⟩ := qm_ifn ho
            refine qm_Ret.gn (f1 := (74, [some (qm_r 0 9 a0), some (qm_i x1), some (qm_i x2), some (qm_r 0 3 a3)], [qm_r 0 2 ((a0 + 5) + 8 + 11 * (x2).toNatClampNeg)], h)) hg rfl ?_
            refine qm_Ret.sts 2 (f' := (78, [some (qm_r 0 9 a0), some (qm_i x1), some (qm_i x2), some (qm_r 0 3 a3)], [qm_r 0 2 (a3 + 7), qm_r 0 2 ((a0 + 5) + 8 + 11 * (x2).toNatClampNeg)], h)) rfl ?_
            obtain ⟨h3, hr, ho⟩ := qm_bd ho
            refine qm_Ret.call (X := wX2_take [qm_r 0 2 ((a0 + 5) + 8 + 11 * (x2).toNatClampNeg), qm_r 0 2 (a3 + 7)] h) (o1 := (none, h3)) (qm_mp (G := qm_Gv) hr) rfl ?_
            show qm_Ret _ (81, [some (qm_r 0 9 a0), some (qm_i x1), some (qm_i x2), some (qm_r 0 3 a3)], [], h3) _
            cases ho
            exact qm_Ret.ret 2 rfl
          · rw [if_neg hc2] at ho
            have nhc0 := lv_neT hc0 (show (0 : Int32).toInt = 0 by decide)
            have nhc1 := lv_neT hc1 (show (1 : Int32).toInt = 1 by decide)
            have nhc2 := lv_neT hc2 (show (2 : Int32).toInt = 2 by decide)
            refine qm_Ret.swd (d := 73) (lo := 0) (hi := 2) (pc := 11) (by omega) (by decide) rfl ?_
            show qm_Ret _ (84, [some (qm_r 0 9 a0), some (qm_i x1), some (qm_i x2), some (qm_r 0 3 a3)], [], h) _
            refine qm_Ret.sts 3 (f' := (89, [some (qm_r 0 9 a0), some (qm_i x1), some (qm_i x2), some (qm_r 0 3 a3)], [qm_i x2, qm_r 6 2 (a0 + 6)], h)) rfl ?_
            obtain ⟨hg, ho⟩ := qm_ifn ho
            refine qm_Ret.gn (f1 := (90, [some (qm_r 0 9 a0), some (qm_i x1), some (qm_i x2), some (qm_r 0 3 a3)], [qm_r 0 1 ((a0 + 6) + 10 + 11 * (x2).toNatClampNeg)], h)) hg rfl ?_
            refine qm_Ret.sts 2 (f' := (94, [some (qm_r 0 9 a0), some (qm_i x1), some (qm_i x2), some (qm_r 0 3 a3)], [qm_r 0 1 (a3 + 10), qm_r 0 1 ((a0 + 6) + 10 + 11 * (x2).toNatClampNeg)], h)) rfl ?_
            obtain ⟨h4, hr, ho⟩ := qm_bd ho
            refine qm_Ret.call (X := wX1_take [qm_r 0 1 ((a0 + 6) + 10 + 11 * (x2).toNatClampNeg), qm_r 0 1 (a3 + 10)] h) (o1 := (none, h4)) (qm_mp (G := qm_Gv) hr) rfl ?_
            show qm_Ret _ (97, [some (qm_r 0 9 a0), some (qm_i x1), some (qm_i x2), some (qm_r 0 3 a3)], [], h4) _
            cases ho
            exact qm_Ret.ret 1 rfl
    · rw [if_neg hc] at ho
      cases ho
      exact qm_Ret.ret 1 rfl
theorem cX9_keep_ok : ∀ q ∈ ([(60, 0, 2, wX0_take), (68, 0, 2, wX10_take), (75, 0, 2, wX2_take), (82, 0, 2, wX1_take)] : List (Nat × Nat × Nat × qm_C)), qm_CallOK RX9 2 81 q.2.1 q.1 q.2.2.1 q.2.2.2 := List.forall_mem_cons.mpr ⟨Or.inl ⟨yX0_take, cX0_take, 2, none, 1, 60, _, sX0_take, ⟨by decide, by decide⟩, ⟨jX0_take, kRX9_60, uRX0⟩, ⟨by decide, by decide, rfl⟩, Or.inl ⟨rfl, rfl, iX0_take, recvX0_take⟩⟩, List.forall_mem_cons.mpr ⟨Or.inl ⟨yX10_take, cX10_take, 2, none, 1, 60, _, sX10_take, ⟨by decide, by decide⟩, ⟨jX10_take, kRX9_68, uRX10⟩, ⟨by decide, by decide, rfl⟩, Or.inl ⟨rfl, rfl, iX10_take, recvX10_take⟩⟩, List.forall_mem_cons.mpr ⟨Or.inl ⟨yX2_take, cX2_take, 2, none, 1, 60, _, sX2_take, ⟨by decide, by decide⟩, ⟨jX2_take, kRX9_75, uRX2⟩, ⟨by decide, by decide, rfl⟩, Or.inl ⟨rfl, rfl, iX2_take, recvX2_take⟩⟩, List.forall_mem_cons.mpr ⟨Or.inl ⟨yX1_take, cX1_take, 2, none, 1, 60, _, sX1_take, ⟨by decide, by decide⟩, ⟨jX1_take, kRX9_82, uRX1⟩, ⟨by decide, by decide, rfl⟩, Or.inl ⟨rfl, rfl, iX1_take, recvX1_take⟩⟩, fun _ h => absurd h List.not_mem_nil⟩⟩⟩⟩
theorem sX9_keep : qm_Snd yX9_keep cX9_keep 4 none 2 81 wX9_keep := qm_met (fld := fun k => qm_lk k pfRX9) (con := fun k => qm_lk k pcRX9) (call := fun k => qm_lk k [(60, 0, 2, wX0_take), (68, 0, 2, wX10_take), (75, 0, 2, wX2_take), (82, 0, 2, wX1_take)]) (tab := qm_tab aX9_keep) (plainFor_of_name (by decide)) (qm_fld_ok pfRX9_ok) (qm_con_ok pcRX9_ok) (fun idx kd n f hc => cX9_keep_ok (idx, kd, n, f) (qm_lk_mem hc)) (qm_tab_ok aX9_keep_ok) (fun vs h o hw => by
  unfold wX9_keep at hw
  split at hw
  · obtain ⟨r, hr, rfl⟩ := Option.map_eq_some_iff.mp hw
    exact ⟨Nat.le_of_ble_eq_true rfl, rX9_keep_0 (hr)⟩
  · cases hw)
theorem recvX9_keep : ∀ vs h o, wX9_keep vs h = some o → ∃ ci a rest, vs = qm_r 0 ci a :: rest ∧ qm_R ci = yX9_keep.cls := by
  intro vs h o hw
  unfold wX9_keep at hw
  split at hw
  · exact ⟨_, _, _, rfl, rfl⟩
  · cases hw
