-- RX12 soft(IIZ)I
theorem jX12_soft : Jvm.Cond.code yX12_soft cX12_soft 9 (some .int) ∈ qm_all := List.mem_filter.mpr ⟨by decide +kernel, rfl⟩
theorem iX12_soft : Jvm.Cond.instanceMethod yX12_soft ∈ qm_all ∧ Jvm.Cond.selects yX12_soft.cls yX12_soft yX12_soft ∈ qm_all := ⟨List.mem_filter.mpr ⟨by decide +kernel, rfl⟩, List.mem_filter.mpr ⟨by decide +kernel, rfl⟩⟩
def wX12_soft : qm_C := fun vs h => match vs with
  | [.inr (.inr (some (0, 12, p0))), .inl p1, .inl p2, .inl p3] => (qX12_soft p0 p1 p2 p3 h).map qm_Gi
  | _ => none
def aX12_soft : List (Option (Instr × Nat)) := [some (.aload_n 0, 1), some (.iconst 0, 1), some (.putfield 88, 3), none, none, some (.iload_n 2, 1), some (.iconst 1, 1), some (.bipush 64, 2), none, some (.invokestatic 100, 3), none, none, some (.ifCond .eq 11, 3), none, none, some (.aload_n 0, 1), some (.iload_n 1, 1), some (.invokevirtual 301, 3), none, none, some (.ifCond .ne 5, 3), none, none, some (.iconst (-1), 1), some (.ireturn, 1), some (.iconst (-1), 1), some (.istore 4, 2), none, some (.ldc_w 390, 3), none, none, some (.istore 5, 2), none, some (.iconst 1, 1), some (.istore 6, 2), none, some (.iload 6, 2), none, some (.aload_n 0, 1), some (.getfield 273, 3), none, none, some (.if_icmp .gt 90, 3), none, none, some (.iload_n 2, 1), some (.iload 6, 2), none, some (.idiv, 1), some (.istore 7, 2), none, some (.iload 6, 2), none, some (.iload 7, 2), none, some (.imul, 1), some (.iload_n 2, 1), some (.if_icmp .ne 69, 3), none, none, some (.iload 7, 2), none, some (.iconst 1, 1), some (.aload_n 0, 1), some (.getfield 276, 3), none, none, some (.invokestatic 100, 3), none, none, some (.ifCond .eq 56, 3), none, none, some (.aload_n 0, 1), some (.iload 6, 2), none, some (.iload 7, 2), none, some (.invokevirtual 313, 3), none, none, some (.iconst (-1), 1), some (.if_icmp .ne 44, 3), none, none, some (.aload_n 0, 1), some (.iload 6, 2), none, some (.iload 7, 2), none, some (.invokevirtual 508, 3), none, none, some (.istore 8, 2), none, some (.iload 8, 2), none, some (.iload 5, 2), none, some (.if_icmp .ge 14, 3), none, none, some (.bipush 10, 2), none, some (.iload 6, 2), none, some (.imul, 1), some (.iload 7, 2), none, some (.iadd, 1), some (.goto 5, 3), none, none, some (.iload 4, 2), none, some (.istore 4, 2), none, some (.iload 5, 2), none, some (.iload 8, 2), none, some (.invokestatic 335, 3), none, none, some (.istore 5, 2), none, some (.iinc 6 1, 3), none, none, some (.goto (-93), 3), none, none, some (.iload 4, 2), none, some (.iconst (-1), 1), some (.if_icmp .eq 7, 3), none, none, some (.iload_n 3, 1), some (.ifCond .ne 8, 3), none, none, some (.iload 4, 2), none, some (.goto 5, 3), none, none, some (.iload 5, 2), none, some (.ireturn, 1)]
theorem aX12_soft_ok : qm_tabok cX12_soft aX12_soft = true := by decide +kernel
def mX12_soft : qm_M := ((some .int), (fun k => qm_lk k pfRX12), (fun k => qm_lk k pcRX12), (fun k => qm_lk k [(335, 2, 2, wX12_lesser), (100, 2, 3, wX12_in), (313, 0, 3, wX12_slipsBy), (508, 0, 3, wX12_holdOf), (301, 0, 2, wX12_hand)]), qm_tab aX12_soft)
set_option maxRecDepth 20000 in
set_option maxHeartbeats 2000000 in
theorem rX12_soft_115 {K36 : Nat → Int32 → Int32 → Int32 → Int32 → Int32 → qm_H → Option (Int32 × qm_H)} (H36 : ∀ {a0 : Nat} {x2 : Int32} {x3 : Int32} {x4 : Int32} {x5 : Int32} {x6 : Int32} {xd1 : Int32} {d7 : Option qm_V} {d8 : Option qm_V} {h : qm_H} {r : Int32 × qm_H}, K36 a0 x2 x3 x4 x5 x6 h = some r → qm_Ret mX12_soft (36, [some (qm_r 0 12 a0), some (qm_i xd1), some (qm_i x2), some (qm_i x3), some (qm_i x4), some (qm_i x5), some (qm_i x6), d7, d8], [], h) (qm_Gi r)) {a0 : Nat} {x2 : Int32} {x3 : Int32} {x5 : Int32} {x6 : Int32} {x8 : Int32} {xs0 : Int32} {xd1 : Int32} {xd4 : Int32} {xd7 : Int32} {h : qm_H} {r : Int32 × qm_H} (ho : qX12_soft_115 K36 a0 x2 x3 x5 x6 x8 xs0 h = some r) : qm_Ret mX12_soft (115, [some (qm_r 0 12 a0), some (qm_i xd1), some (qm_i x2), some (qm_i x3), some (qm_i xd4), some (qm_i x5), some (qm_i x6), some (qm_i xd7), some (qm_i x8)], [qm_i xs0], h) (qm_Gi r) := by
  unfold qX12_soft_115 at ho
  refine qm_Ret.sts 3 (f' := (121, [some (qm_r 0 12 a0), some (qm_i xd1), some (qm_i x2), some (qm_i x3), some (qm_i xs0), some (qm_i x5), some (qm_i x6), some (qm_i xd7), some (qm_i x8)], [qm_i x8, qm_i x5], h)) rfl ?_
  obtain ⟨r2, h1, hr, ho⟩ := qm_b2e ho
  refine qm_Ret.call (X := wX12_lesser [qm_i x5, qm_i x8] h) (o1 := (some (qm_i r2), h1)) (qm_mp (G := qm_Gi) hr) rfl ?_
  show qm_Ret _ (124, [some (qm_r 0 12 a0), some (qm_i xd1), some (qm_i x2), some (qm_i x3), some (qm_i xs0), some (qm_i x5), some (qm_i x6), some (qm_i xd7), some (qm_i x8)], [qm_i r2], h1) _
  refine qm_Ret.sts 3 (f' := (36, [some (qm_r 0 12 a0), some (qm_i xd1), some (qm_i x2), some (qm_i x3), some (qm_i xs0), some (qm_i r2), some (qm_i (x6 + (1 : Int32))), some (qm_i xd7), some (qm_i x8)], [], h1)) rfl ?_
  exact H36 ho
set_option maxRecDepth 20000 in
set_option maxHeartbeats 2000000 in
theorem rX12_soft_36   : ∀ {fuel : Nat} {a0 : Nat} {x2 : Int32} {x3 : Int32} {x4 : Int32} {x5 : Int32} {x6 : Int32} {xd1 : Int32} {d7 : Option qm_V} {d8 : Option qm_V} {h : qm_H} {r : Int32 × qm_H}, qX12_soft_36  fuel a0 x2 x3 x4 x5 x6 h = some r → qm_Ret mX12_soft (36, [some (qm_r 0 12 a0), some (qm_i xd1), some (qm_i x2), some (qm_i x3), some (qm_i x4), some (qm_i x5), some (qm_i x6), d7, d8], [], h) (qm_Gi r) := by
  intro fuel
  induction fuel with
  | zero => intros; rename_i ho; cases ho
  | succ n ih =>
    intro a0 x2 x3 x4 x5 x6 xd1 d7 d8 h r ho
    unfold qX12_soft_36 at ho
    refine qm_Ret.sts 3 (f' := (42, [some (qm_r 0 12 a0), some (qm_i xd1), some (qm_i x2), some (qm_i x3), some (qm_i x4), some (qm_i x5), some (qm_i x6), d7, d8], [qm_i (h.1 a0 25), qm_i x6], h)) rfl ?_
    refine qm_Ret.gt (t := 132) (e := 45) rfl (fun hc => ?_) (fun hc => ?_)
    · rw [if_pos hc] at ho
      refine qm_Ret.sts 2 (f' := (135, [some (qm_r 0 12 a0), some (qm_i xd1), some (qm_i x2), some (qm_i x3), some (qm_i x4), some (qm_i x5), some (qm_i x6), d7, d8], [qm_i (-1 : Int32), qm_i x4], h)) rfl ?_
      refine qm_Ret.eq (t := 142) (e := 138) rfl (fun hc => ?_) (fun hc => ?_)
      · rw [if_pos hc] at ho
        cases ho
        exact qm_Ret.ret 3 rfl
      · rw [if_neg hc] at ho
        refine qm_Ret.sts 1 (f' := (139, [some (qm_r 0 12 a0), some (qm_i xd1), some (qm_i x2), some (qm_i x3), some (qm_i x4), some (qm_i x5), some (qm_i x6), d7, d8], [qm_i x3], h)) rfl ?_
        refine qm_Ret.ne (t := 147) (e := 142) rfl (fun hc => ?_) (fun hc => ?_)
        · rw [if_pos hc] at ho
          cases ho
          exact qm_Ret.ret 3 rfl
        · rw [if_neg hc] at ho
          cases ho
          exact qm_Ret.ret 2 rfl
    · rw [if_neg hc] at ho
      refine qm_Ret.sts 2 (f' := (48, [some (qm_r 0 12 a0), some (qm_i xd1), some (qm_i x2), some (qm_i x3), some (qm_i x4), some (qm_i x5), some (qm_i x6), d7, d8], [qm_i x6, qm_i x2], h)) rfl ?_
      obtain ⟨hg, ho⟩ := qm_ifn ho
      refine qm_Ret.gn (f1 := (49, [some (qm_r 0 12 a0), some (qm_i xd1), some (qm_i x2), some (qm_i x3), some (qm_i x4), some (qm_i x5), some (qm_i x6), d7, d8], [qm_i (x2 / x6)], h)) hg rfl ?_
      refine qm_Ret.sts 5 (f' := (57, [some (qm_r 0 12 a0), some (qm_i xd1), some (qm_i x2), some (qm_i x3), some (qm_i x4), some (qm_i x5), some (qm_i x6), some (qm_i (x2 / x6)), d8], [qm_i x2, qm_i (x6 * (x2 / x6))], h)) rfl ?_
      refine qm_Ret.ne (t := 126) (e := 60) rfl (fun hc => ?_) (fun hc => ?_)
      · rw [if_pos hc] at ho
        refine qm_Ret.sts 4 (f' := (67, [some (qm_r 0 12 a0), some (qm_i xd1), some (qm_i x2), some (qm_i x3), some (qm_i x4), some (qm_i x5), some (qm_i x6), some (qm_i (x2 / x6)), d8], [qm_i (h.1 a0 26), qm_i (1 : Int32), qm_i (x2 / x6)], h)) rfl ?_
        obtain ⟨r2, h1, hr, ho⟩ := qm_b2e ho
        refine qm_Ret.call (X := wX12_in [qm_i (x2 / x6), qm_i (1 : Int32), qm_i (h.1 a0 26)] h) (o1 := (some (qm_i r2), h1)) (qm_mp (G := qm_Gi) hr) rfl ?_
        show qm_Ret _ (70, [some (qm_r 0 12 a0), some (qm_i xd1), some (qm_i x2), some (qm_i x3), some (qm_i x4), some (qm_i x5), some (qm_i x6), some (qm_i (x2 / x6)), d8], [qm_i r2], h1) _
        refine qm_Ret.eq (t := 126) (e := 73) rfl (fun hc => ?_) (fun hc => ?_)
        · rw [if_pos hc] at ho
          refine qm_Ret.sts 2 (f' := (36, [some (qm_r 0 12 a0), some (qm_i xd1), some (qm_i x2), some (qm_i x3), some (qm_i x4), some (qm_i x5), some (qm_i (x6 + (1 : Int32))), some (qm_i (x2 / x6)), d8], [], h1)) rfl ?_
          exact ih ho
        · rw [if_neg hc] at ho
          refine qm_Ret.sts 3 (f' := (78, [some (qm_r 0 12 a0), some (qm_i xd1), some (qm_i x2), some (qm_i x3), some (qm_i x4), some (qm_i x5), some (qm_i x6), some (qm_i (x2 / x6)), d8], [qm_i (x2 / x6), qm_i x6, qm_r 0 12 a0], h1)) rfl ?_
          obtain ⟨r4, h3, hr, ho⟩ := qm_b2e ho
          refine qm_Ret.call (X := wX12_slipsBy [qm_r 0 12 a0, qm_i x6, qm_i (x2 / x6)] h1) (o1 := (some (qm_i r4), h3)) (qm_mp (G := qm_Gi) hr) rfl ?_
          show qm_Ret _ (81, [some (qm_r 0 12 a0), some (qm_i xd1), some (qm_i x2), some (qm_i x3), some (qm_i x4), some (qm_i x5), some (qm_i x6), some (qm_i (x2 / x6)), d8], [qm_i r4], h3) _
          refine qm_Ret.sts 1 (f' := (82, [some (qm_r 0 12 a0), some (qm_i xd1), some (qm_i x2), some (qm_i x3), some (qm_i x4), some (qm_i x5), some (qm_i x6), some (qm_i (x2 / x6)), d8], [qm_i (-1 : Int32), qm_i r4], h3)) rfl ?_
          refine qm_Ret.ne (t := 126) (e := 85) rfl (fun hc => ?_) (fun hc => ?_)
          · rw [if_pos hc] at ho
            refine qm_Ret.sts 3 (f' := (90, [some (qm_r 0 12 a0), some (qm_i xd1), some (qm_i x2), some (qm_i x3), some (qm_i x4), some (qm_i x5), some (qm_i x6), some (qm_i (x2 / x6)), d8], [qm_i (x2 / x6), qm_i x6, qm_r 0 12 a0], h3)) rfl ?_
            obtain ⟨r6, h5, hr, ho⟩ := qm_b2e ho
            refine qm_Ret.call (X := wX12_holdOf [qm_r 0 12 a0, qm_i x6, qm_i (x2 / x6)] h3) (o1 := (some (qm_i r6), h5)) (qm_mp (G := qm_Gi) hr) rfl ?_
            show qm_Ret _ (93, [some (qm_r 0 12 a0), some (qm_i xd1), some (qm_i x2), some (qm_i x3), some (qm_i x4), some (qm_i x5), some (qm_i x6), some (qm_i (x2 / x6)), d8], [qm_i r6], h5) _
            refine qm_Ret.sts 3 (f' := (99, [some (qm_r 0 12 a0), some (qm_i xd1), some (qm_i x2), some (qm_i x3), some (qm_i x4), some (qm_i x5), some (qm_i x6), some (qm_i (x2 / x6)), some (qm_i r6)], [qm_i x5, qm_i r6], h5)) rfl ?_
            refine qm_Ret.ge (t := 113) (e := 102) rfl (fun hc => ?_) (fun hc => ?_)
            · rw [if_pos hc] at ho
              refine qm_Ret.sts 6 (f' := (115, [some (qm_r 0 12 a0), some (qm_i xd1), some (qm_i x2), some (qm_i x3), some (qm_i x4), some (qm_i x5), some (qm_i x6), some (qm_i (x2 / x6)), some (qm_i r6)], [qm_i (((10 : Int32) * x6) + (x2 / x6))], h5)) rfl ?_
              exact rX12_soft_115 (ih) ho
            · rw [if_neg hc] at ho
              refine qm_Ret.sts 1 (f' := (115, [some (qm_r 0 12 a0), some (qm_i xd1), some (qm_i x2), some (qm_i x3), some (qm_i x4), some (qm_i x5), some (qm_i x6), some (qm_i (x2 / x6)), some (qm_i r6)], [qm_i x4], h5)) rfl ?_
              exact rX12_soft_115 (ih) ho
          · rw [if_neg hc] at ho
            refine qm_Ret.sts 2 (f' := (36, [some (qm_r 0 12 a0), some (qm_i xd1), some (qm_i x2), some (qm_i x3), some (qm_i x4), some (qm_i x5), some (qm_i (x6 + (1 : Int32))), some (qm_i (x2 / x6)), d8], [], h3)) rfl ?_
            exact ih ho
      · rw [if_neg hc] at ho
        refine qm_Ret.sts 2 (f' := (36, [some (qm_r 0 12 a0), some (qm_i xd1), some (qm_i x2), some (qm_i x3), some (qm_i x4), some (qm_i x5), some (qm_i (x6 + (1 : Int32))), some (qm_i (x2 / x6)), d8], [], h)) rfl ?_
        exact ih ho
set_option maxRecDepth 20000 in
set_option maxHeartbeats 2000000 in
theorem rX12_soft_0   {a0 : Nat} {x1 : Int32} {x2 : Int32} {x3 : Int32} {h : qm_H} {r : Int32 × qm_H} (ho : qX12_soft  a0 x1 x2 x3 h = some r) : qm_Ret mX12_soft (0, [some (qm_r 0 12 a0), some (qm_i x1), some (qm_i x2), some (qm_i x3), none, none, none, none, none], [], h) (qm_Gi r) := by
  unfold qX12_soft at ho
  refine qm_Ret.sts 3 (f' := (5, [some (qm_r 0 12 a0), some (qm_i x1), some (qm_i x2), some (qm_i x3), none, none, none, none, none], [], (qm_seti h a0 0 (0 : Int32)))) rfl ?_
  refine qm_Ret.lets (F := fun h1 => (5, [some (qm_r 0 12 a0), some (qm_i x1), some (qm_i x2), some (qm_i x3), none, none, none, none, none], [], h1)) (G := qm_Gi) ho (fun h1 ho => ?_)
  refine qm_Ret.sts 3 (f' := (9, [some (qm_r 0 12 a0), some (qm_i x1), some (qm_i x2), some (qm_i x3), none, none, none, none, none], [qm_i (64 : Int32), qm_i (1 : Int32), qm_i x2], h1)) rfl ?_
  obtain ⟨r3, h2, hr, ho⟩ := qm_b2e ho
  refine qm_Ret.call (X := wX12_in [qm_i x2, qm_i (1 : Int32), qm_i (64 : Int32)] h1) (o1 := (some (qm_i r3), h2)) (qm_mp (G := qm_Gi) hr) rfl ?_
  show qm_Ret _ (12, [some (qm_r 0 12 a0), some (qm_i x1), some (qm_i x2), some (qm_i x3), none, none, none, none, none], [qm_i r3], h2) _
  refine qm_Ret.eq (t := 23) (e := 15) rfl (fun hc => ?_) (fun hc => ?_)
  · rw [if_pos hc] at ho
    cases ho
    exact qm_Ret.ret 2 rfl
  · rw [if_neg hc] at ho
    refine qm_Ret.sts 2 (f' := (17, [some (qm_r 0 12 a0), some (qm_i x1), some (qm_i x2), some (qm_i x3), none, none, none, none, none], [qm_i x1, qm_r 0 12 a0], h2)) rfl ?_
    obtain ⟨r5, h4, hr, ho⟩ := qm_b2e ho
    refine qm_Ret.call (X := wX12_hand [qm_r 0 12 a0, qm_i x1] h2) (o1 := (some (qm_i r5), h4)) (qm_mp (G := qm_Gi) hr) rfl ?_
    show qm_Ret _ (20, [some (qm_r 0 12 a0), some (qm_i x1), some (qm_i x2), some (qm_i x3), none, none, none, none, none], [qm_i r5], h4) _
    refine qm_Ret.ne (t := 25) (e := 23) rfl (fun hc => ?_) (fun hc => ?_)
    · rw [if_pos hc] at ho
      cases ho
      exact qm_Ret.ret 2 rfl
    · rw [if_neg hc] at ho
      refine qm_Ret.sts 6 (f' := (36, [some (qm_r 0 12 a0), some (qm_i x1), some (qm_i x2), some (qm_i x3), some (qm_i (-1 : Int32)), some (qm_i (1000000 : Int32)), some (qm_i (1 : Int32)), none, none], [], h4)) rfl ?_
      exact rX12_soft_36 ho
theorem cX12_soft_ok : ∀ q ∈ ([(335, 2, 2, wX12_lesser), (100, 2, 3, wX12_in), (313, 0, 3, wX12_slipsBy), (508, 0, 3, wX12_holdOf), (301, 0, 2, wX12_hand)] : List (Nat × Nat × Nat × qm_C)), qm_CallOK RX12 5 120 q.2.1 q.1 q.2.2.1 q.2.2.2 := List.forall_mem_cons.mpr ⟨Or.inl ⟨yX12_lesser, cX12_lesser, 2, (some .int), 0, 0, _, sX12_lesser, ⟨by decide, by decide⟩, ⟨jX12_lesser, kRX12_335, uRX12⟩, ⟨by decide, by decide, rfl⟩, Or.inr (Or.inl ⟨rfl, rfl, iX12_lesser⟩)⟩, List.forall_mem_cons.mpr ⟨Or.inl ⟨yX12_in, cX12_in, 3, (some .boolean), 0, 0, _, sX12_in, ⟨by decide, by decide⟩, ⟨jX12_in, kRX12_100, uRX12⟩, ⟨by decide, by decide, rfl⟩, Or.inr (Or.inl ⟨rfl, rfl, iX12_in⟩)⟩, List.forall_mem_cons.mpr ⟨Or.inl ⟨yX12_slipsBy, cX12_slipsBy, 4, (some .int), 3, 72, _, sX12_slipsBy, ⟨by decide, by decide⟩, ⟨jX12_slipsBy, kRX12_313, uRX12⟩, ⟨by decide, by decide, rfl⟩, Or.inl ⟨rfl, rfl, iX12_slipsBy, recvX12_slipsBy⟩⟩, List.forall_mem_cons.mpr ⟨Or.inl ⟨yX12_holdOf, cX12_holdOf, 3, (some .int), 4, 98, _, sX12_holdOf, ⟨by decide, by decide⟩, ⟨jX12_holdOf, kRX12_508, uRX12⟩, ⟨by decide, by decide, rfl⟩, Or.inl ⟨rfl, rfl, iX12_holdOf, recvX12_holdOf⟩⟩, List.forall_mem_cons.mpr ⟨Or.inl ⟨yX12_hand, cX12_hand, 3, (some .boolean), 2, 44, _, sX12_hand, ⟨by decide, by decide⟩, ⟨jX12_hand, kRX12_301, uRX12⟩, ⟨by decide, by decide, rfl⟩, Or.inl ⟨rfl, rfl, iX12_hand, recvX12_hand⟩⟩, fun _ h => absurd h List.not_mem_nil⟩⟩⟩⟩⟩
theorem sX12_soft : qm_Snd yX12_soft cX12_soft 9 (some .int) 5 120 wX12_soft := qm_met (fld := fun k => qm_lk k pfRX12) (con := fun k => qm_lk k pcRX12) (call := fun k => qm_lk k [(335, 2, 2, wX12_lesser), (100, 2, 3, wX12_in), (313, 0, 3, wX12_slipsBy), (508, 0, 3, wX12_holdOf), (301, 0, 2, wX12_hand)]) (tab := qm_tab aX12_soft) (plainFor_of_name (by decide)) (qm_fld_ok pfRX12_ok) (qm_con_ok pcRX12_ok) (fun idx kd n f hc => cX12_soft_ok (idx, kd, n, f) (qm_lk_mem hc)) (qm_tab_ok aX12_soft_ok) (fun vs h o hw => by
  unfold wX12_soft at hw
  split at hw
  · obtain ⟨r, hr, rfl⟩ := Option.map_eq_some_iff.mp hw
    exact ⟨Nat.le_of_ble_eq_true rfl, rX12_soft_0 (hr)⟩
  · cases hw)
theorem recvX12_soft : ∀ vs h o, wX12_soft vs h = some o → ∃ ci a rest, vs = qm_r 0 ci a :: rest ∧ qm_R ci = yX12_soft.cls := by
  intro vs h o hw
  unfold wX12_soft at hw
  split at hw
  · exact ⟨_, _, _, rfl, rfl⟩
  · cases hw
-- RX12 tunnel(III)I
theorem jX12_tunnel : Jvm.Cond.code yX12_tunnel cX12_tunnel 4 (some .int) ∈ qm_all := List.mem_filter.mpr ⟨by decide +kernel, rfl⟩
theorem iX12_tunnel : Jvm.Cond.instanceMethod yX12_tunnel ∈ qm_all ∧ Jvm.Cond.selects yX12_tunnel.cls yX12_tunnel yX12_tunnel ∈ qm_all := ⟨List.mem_filter.mpr ⟨by decide +kernel, rfl⟩, List.mem_filter.mpr ⟨by decide +kernel, rfl⟩⟩
def wX12_tunnel : qm_C := fun vs h => match vs with
  | [.inr (.inr (some (0, 12, p0))), .inl p1, .inl p2, .inl p3] => (qX12_tunnel p0 p1 p2 p3 h).map qm_Gi
  | _ => none
def aX12_tunnel : List (Option (Instr × Nat)) := [some (.aload_n 0, 1), some (.iconst 0, 1), some (.putfield 88, 3), none, none, some (.aload_n 0, 1), some (.iload_n 1, 1), some (.invokevirtual 301, 3), none, none, some (.ifCond .eq 19, 3), none, none, some (.aload_n 0, 1), some (.iload_n 2, 1), some (.invokevirtual 394, 3), none, none, some (.ifCond .eq 11, 3), none, none, some (.aload_n 0, 1), some (.iload_n 3, 1), some (.invokevirtual 394, 3), none, none, some (.ifCond .ne 5, 3), none, none, some (.iconst (-1), 1), some (.ireturn, 1), some (.aload_n 0, 1), some (.iload_n 2, 1), some (.invokevirtual 397, 3), none, none, some (.aload_n 0, 1), some (.getfield 63, 3), none, none, some (.iload_n 3, 1), some (.iaload, 1), some (.sipush 256, 3), none, none, some (.idiv, 1), some (.ireturn, 1)]
theorem aX12_tunnel_ok : qm_tabok cX12_tunnel aX12_tunnel = true := by decide +kernel
def mX12_tunnel : qm_M := ((some .int), (fun k => qm_lk k pfRX12), (fun k => qm_lk k pcRX12), (fun k => qm_lk k [(301, 0, 2, wX12_hand), (394, 0, 2, wX12_isCell), (397, 0, 2, wX12_findSoon)]), qm_tab aX12_tunnel)
set_option maxRecDepth 20000 in
set_option maxHeartbeats 2000000 in
theorem rX12_tunnel_0   {a0 : Nat} {x1 : Int32} {x2 : Int32} {x3 : Int32} {h : qm_H} {r : Int32 × qm_H} (ho : qX12_tunnel  a0 x1 x2 x3 h = some r) : qm_Ret mX12_tunnel (0, [some (qm_r 0 12 a0), some (qm_i x1), some (qm_i x2), some (qm_i x3)], [], h) (qm_Gi r) := by
  unfold qX12_tunnel at ho
  refine qm_Ret.sts 3 (f' := (5, [some (qm_r 0 12 a0), some (qm_i x1), some (qm_i x2), some (qm_i x3)], [], (qm_seti h a0 0 (0 : Int32)))) rfl ?_
  refine qm_Ret.lets (F := fun h1 => (5, [some (qm_r 0 12 a0), some (qm_i x1), some (qm_i x2), some (qm_i x3)], [], h1)) (G := qm_Gi) ho (fun h1 ho => ?_)
  refine qm_Ret.sts 2 (f' := (7, [some (qm_r 0 12 a0), some (qm_i x1), some (qm_i x2), some (qm_i x3)], [qm_i x1, qm_r 0 12 a0], h1)) rfl ?_
  obtain ⟨r3, h2, hr, ho⟩ := qm_b2e ho
  refine qm_Ret.call (X := wX12_hand [qm_r 0 12 a0, qm_i x1] h1) (o1 := (some (qm_i r3), h2)) (qm_mp (G := qm_Gi) hr) rfl ?_
  show qm_Ret _ (10, [some (qm_r 0 12 a0), some (qm_i x1), some (qm_i x2), some (qm_i x3)], [qm_i r3], h2) _
  refine qm_Ret.eq (t := 29) (e := 13) rfl (fun hc => ?_) (fun hc => ?_)
  · rw [if_pos hc] at ho
    cases ho
    exact qm_Ret.ret 2 rfl
  · rw [if_neg hc] at ho
    refine qm_Ret.sts 2 (f' := (15, [some (qm_r 0 12 a0), some (qm_i x1), some (qm_i x2), some (qm_i x3)], [qm_i x2, qm_r 0 12 a0], h2)) rfl ?_
    obtain ⟨r5, h4, hr, ho⟩ := qm_b2e ho
    refine qm_Ret.call (X := wX12_isCell [qm_r 0 12 a0, qm_i x2] h2) (o1 := (some (qm_i r5), h4)) (qm_mp (G := qm_Gi) hr) rfl ?_
    show qm_Ret _ (18, [some (qm_r 0 12 a0), some (qm_i x1), some (qm_i x2), some (qm_i x3)], [qm_i r5], h4) _
    refine qm_Ret.eq (t := 29) (e := 21) rfl (fun hc => ?_) (fun hc => ?_)
    · rw [if_pos hc] at ho
      cases ho
      exact qm_Ret.ret 2 rfl
    · rw [if_neg hc] at ho
      refine qm_Ret.sts 2 (f' := (23, [some (qm_r 0 12 a0), some (qm_i x1), some (qm_i x2), some (qm_i x3)], [qm_i x3, qm_r 0 12 a0], h4)) rfl ?_
      obtain ⟨r7, h6, hr, ho⟩ := qm_b2e ho
      refine qm_Ret.call (X := wX12_isCell [qm_r 0 12 a0, qm_i x3] h4) (o1 := (some (qm_i r7), h6)) (qm_mp (G := qm_Gi) hr) rfl ?_
      show qm_Ret _ (26, [some (qm_r 0 12 a0), some (qm_i x1), some (qm_i x2), some (qm_i x3)], [qm_i r7], h6) _
      refine qm_Ret.ne (t := 31) (e := 29) rfl (fun hc => ?_) (fun hc => ?_)
      · rw [if_pos hc] at ho
        cases ho
        exact qm_Ret.ret 2 rfl
      · rw [if_neg hc] at ho
        refine qm_Ret.sts 2 (f' := (33, [some (qm_r 0 12 a0), some (qm_i x1), some (qm_i x2), some (qm_i x3)], [qm_i x2, qm_r 0 12 a0], h6)) rfl ?_
        obtain ⟨h8, hr, ho⟩ := qm_bd ho
        refine qm_Ret.call (X := wX12_findSoon [qm_r 0 12 a0, qm_i x2] h6) (o1 := (none, h8)) (qm_mp (G := qm_Gv) hr) rfl ?_
        show qm_Ret _ (36, [some (qm_r 0 12 a0), some (qm_i x1), some (qm_i x2), some (qm_i x3)], [], h8) _
        refine qm_Ret.sts 3 (f' := (41, [some (qm_r 0 12 a0), some (qm_i x1), some (qm_i x2), some (qm_i x3)], [qm_i x3, qm_r 1 64 (a0 + 18)], h8)) rfl ?_
        obtain ⟨hg, ho⟩ := qm_ifn ho
        refine qm_Ret.gn (f1 := (42, [some (qm_r 0 12 a0), some (qm_i x1), some (qm_i x2), some (qm_i x3)], [qm_i (h8.1 (a0 + 18) (x3).toNatClampNeg)], h8)) hg rfl ?_
        cases ho
        exact qm_Ret.ret 3 rfl
theorem cX12_tunnel_ok : ∀ q ∈ ([(301, 0, 2, wX12_hand), (394, 0, 2, wX12_isCell), (397, 0, 2, wX12_findSoon)] : List (Nat × Nat × Nat × qm_C)), qm_CallOK RX12 4 91 q.2.1 q.1 q.2.2.1 q.2.2.2 := List.forall_mem_cons.mpr ⟨Or.inl ⟨yX12_hand, cX12_hand, 3, (some .boolean), 2, 44, _, sX12_hand, ⟨by decide, by decide⟩, ⟨jX12_hand, kRX12_301, uRX12⟩, ⟨by decide, by decide, rfl⟩, Or.inl ⟨rfl, rfl, iX12_hand, recvX12_hand⟩⟩, List.forall_mem_cons.mpr ⟨Or.inl ⟨yX12_isCell, cX12_isCell, 2, (some .boolean), 1, 22, _, sX12_isCell, ⟨by decide, by decide⟩, ⟨jX12_isCell, kRX12_394, uRX12⟩, ⟨by decide, by decide, rfl⟩, Or.inl ⟨rfl, rfl, iX12_isCell, recvX12_isCell⟩⟩, List.forall_mem_cons.mpr ⟨Or.inl ⟨yX12_findSoon, cX12_findSoon, 6, none, 3, 66, _, sX12_findSoon, ⟨by decide, by decide⟩, ⟨jX12_findSoon, kRX12_397, uRX12⟩, ⟨by decide, by decide, rfl⟩, Or.inl ⟨rfl, rfl, iX12_findSoon, recvX12_findSoon⟩⟩, fun _ h => absurd h List.not_mem_nil⟩⟩⟩
theorem sX12_tunnel : qm_Snd yX12_tunnel cX12_tunnel 4 (some .int) 4 91 wX12_tunnel := qm_met (fld := fun k => qm_lk k pfRX12) (con := fun k => qm_lk k pcRX12) (call := fun k => qm_lk k [(301, 0, 2, wX12_hand), (394, 0, 2, wX12_isCell), (397, 0, 2, wX12_findSoon)]) (tab := qm_tab aX12_tunnel) (plainFor_of_name (by decide)) (qm_fld_ok pfRX12_ok) (qm_con_ok pcRX12_ok) (fun idx kd n f hc => cX12_tunnel_ok (idx, kd, n, f) (qm_lk_mem hc)) (qm_tab_ok aX12_tunnel_ok) (fun vs h o hw => by
  unfold wX12_tunnel at hw
  split at hw
  · obtain ⟨r, hr, rfl⟩ := Option.map_eq_some_iff.mp hw
    exact ⟨Nat.le_of_ble_eq_true rfl, rX12_tunnel_0 (hr)⟩
  · cases hw)
theorem recvX12_tunnel : ∀ vs h o, wX12_tunnel vs h = some o → ∃ ci a rest, vs = qm_r 0 ci a :: rest ∧ qm_R ci = yX12_tunnel.cls := by
  intro vs h o hw
  unfold wX12_tunnel at hw
  split at hw
  · exact ⟨_, _, _, rfl, rfl⟩
  · cases hw
-- RX12 columnMany(I)I
theorem jX12_columnMany : Jvm.Cond.code yX12_columnMany cX12_columnMany 4 (some .int) ∈ qm_all := List.mem_filter.mpr ⟨by decide +kernel, rfl⟩
theorem iX12_columnMany : Jvm.Cond.instanceMethod yX12_columnMany ∈ qm_all ∧ Jvm.Cond.selects yX12_columnMany.cls yX12_columnMany yX12_columnMany ∈ qm_all := ⟨List.mem_filter.mpr ⟨by decide +kernel, rfl⟩, List.mem_filter.mpr ⟨by decide +kernel, rfl⟩⟩
def wX12_columnMany : qm_C := fun vs h => match vs with
  | [.inr (.inr (some (0, 12, p0))), .inl p1] => (qX12_columnMany p0 p1 h).map qm_Gi
  | _ => none
def aX12_columnMany : List (Option (Instr × Nat)) := [some (.iconst 0, 1), some (.istore_n 2, 1), some (.iconst 0, 1), some (.istore_n 3, 1), some (.iload_n 3, 1), some (.aload_n 0, 1), some (.getfield 276, 3), none, none, some (.if_icmp .ge 30, 3), none, none, some (.iload_n 2, 1), some (.aload_n 0, 1), some (.getfield 50, 3), none, none, some (.iload_n 3, 1), some (.iaload, 1), some (.iload_n 1, 1), some (.invokestatic 92, 3), none, none, some (.ifCond .eq 7, 3), none, none, some (.iconst 1, 1), some (.goto 4, 3), none, none, some (.iconst 0, 1), some (.iadd, 1), some (.istore_n 2, 1), some (.iinc 3 1, 3), none, none, some (.goto (-32), 3), none, none, some (.iload_n 2, 1), some (.ireturn, 1)]
theorem aX12_columnMany_ok : qm_tabok cX12_columnMany aX12_columnMany = true := by decide +kernel
def mX12_columnMany : qm_M := ((some .int), (fun k => qm_lk k pfRX12), (fun k => qm_lk k pcRX12), (fun k => qm_lk k [(92, 2, 2, wX12_has)]), qm_tab aX12_columnMany)
set_option maxRecDepth 20000 in
set_option maxHeartbeats 2000000 in
theorem rX12_columnMany_4   : ∀ {fuel : Nat} {a0 : Nat} {x1 : Int32} {x2 : Int32} {x3 : Int32} {h : qm_H} {r : Int32 × qm_H}, qX12_columnMany_4  fuel a0 x1 x2 x3 h = some r → qm_Ret mX12_columnMany (4, [some (qm_r 0 12 a0), some (qm_i x1), some (qm_i x2), some (qm_i x3)], [], h) (qm_Gi r) := by
  intro fuel
  induction fuel with
  | zero => intros; rename_i ho; cases ho
  | succ n ih =>
    intro a0 x1 x2 x3 h r ho
    unfold qX12_columnMany_4 at ho
    refine qm_Ret.sts 3 (f' := (9, [some (qm_r 0 12 a0), some (qm_i x1), some (qm_i x2), some (qm_i x3)], [qm_i (h.1 a0 26), qm_i x3], h)) rfl ?_
    refine qm_Ret.ge (t := 39) (e := 12) rfl (fun hc => ?_) (fun hc => ?_)
    · rw [if_pos hc] at ho
      refine qm_Ret.sts 4 (f' := (18, [some (qm_r 0 12 a0), some (qm_i x1), some (qm_i x2), some (qm_i x3)], [qm_i x3, qm_r 1 8 (a0 + 14), qm_i x2], h)) rfl ?_
      obtain ⟨hg, ho⟩ := qm_ifn ho
      refine qm_Ret.gn (f1 := (19, [some (qm_r 0 12 a0), some (qm_i x1), some (qm_i x2), some (qm_i x3)], [qm_i (h.1 (a0 + 14) (x3).toNatClampNeg), qm_i x2], h)) hg rfl ?_
      refine qm_Ret.sts 1 (f' := (20, [some (qm_r 0 12 a0), some (qm_i x1), some (qm_i x2), some (qm_i x3)], [qm_i x1, qm_i (h.1 (a0 + 14) (x3).toNatClampNeg), qm_i x2], h)) rfl ?_
      obtain ⟨r2, h1, hr, ho⟩ := qm_b2e ho
      refine qm_Ret.call (X := wX12_has [qm_i (h.1 (a0 + 14) (x3).toNatClampNeg), qm_i x1] h) (o1 := (some (qm_i r2), h1)) (qm_mp (G := qm_Gi) hr) rfl ?_
      show qm_Ret _ (23, [some (qm_r 0 12 a0), some (qm_i x1), some (qm_i x2), some (qm_i x3)], [qm_i r2, qm_i x2], h1) _
      refine qm_Ret.eq (t := 30) (e := 26) rfl (fun hc => ?_) (fun hc => ?_)
      · rw [if_pos hc] at ho
        refine qm_Ret.sts 2 (f' := (32, [some (qm_r 0 12 a0), some (qm_i x1), some (qm_i x2), some (qm_i x3)], [qm_i (x2 + (0 : Int32))], h1)) rfl ?_
        refine qm_Ret.lets (F := fun v3 => (32, [some (qm_r 0 12 a0), some (qm_i x1), some (qm_i x2), some (qm_i x3)], [qm_i v3], h1)) (G := qm_Gi) ho (fun v3 ho => ?_)
        refine qm_Ret.sts 3 (f' := (4, [some (qm_r 0 12 a0), some (qm_i x1), some (qm_i v3), some (qm_i (x3 + (1 : Int32)))], [], h1)) rfl ?_
        exact ih ho
      · rw [if_neg hc] at ho
        refine qm_Ret.sts 3 (f' := (32, [some (qm_r 0 12 a0), some (qm_i x1), some (qm_i x2), some (qm_i x3)], [qm_i (x2 + (1 : Int32))], h1)) rfl ?_
        refine qm_Ret.lets (F := fun v4 => (32, [some (qm_r 0 12 a0), some (qm_i x1), some (qm_i x2), some (qm_i x3)], [qm_i v4], h1)) (G := qm_Gi) ho (fun v4 ho => ?_)
        refine qm_Ret.sts 3 (f' := (4, [some (qm_r 0 12 a0), some (qm_i x1), some (qm_i v4), some (qm_i (x3 + (1 : Int32)))], [], h1)) rfl ?_
        exact ih ho
    · rw [if_neg hc] at ho
      cases ho
      exact qm_Ret.ret 2 rfl
set_option maxRecDepth 20000 in
set_option maxHeartbeats 2000000 in
theorem rX12_columnMany_0   {a0 : Nat} {x1 : Int32} {h : qm_H} {r : Int32 × qm_H} (ho : qX12_columnMany  a0 x1 h = some r) : qm_Ret mX12_columnMany (0, [some (qm_r 0 12 a0), some (qm_i x1), none, none], [], h) (qm_Gi r) := by
  unfold qX12_columnMany at ho
  refine qm_Ret.sts 4 (f' := (4, [some (qm_r 0 12 a0), some (qm_i x1), some (qm_i (0 : Int32)), some (qm_i (0 : Int32))], [], h)) rfl ?_
  exact rX12_columnMany_4 ho
theorem cX12_columnMany_ok : ∀ q ∈ ([(92, 2, 2, wX12_has)] : List (Nat × Nat × Nat × qm_C)), qm_CallOK RX12 1 21 q.2.1 q.1 q.2.2.1 q.2.2.2 := List.forall_mem_cons.mpr ⟨Or.inl ⟨yX12_has, cX12_has, 2, (some .boolean), 0, 0, _, sX12_has, ⟨by decide, by decide⟩, ⟨jX12_has, kRX12_92, uRX12⟩, ⟨by decide, by decide, rfl⟩, Or.inr (Or.inl ⟨rfl, rfl, iX12_has⟩)⟩, fun _ h => absurd h List.not_mem_nil⟩
theorem sX12_columnMany : qm_Snd yX12_columnMany cX12_columnMany 4 (some .int) 1 21 wX12_columnMany := qm_met (fld := fun k => qm_lk k pfRX12) (con := fun k => qm_lk k pcRX12) (call := fun k => qm_lk k [(92, 2, 2, wX12_has)]) (tab := qm_tab aX12_columnMany) (plainFor_of_name (by decide)) (qm_fld_ok pfRX12_ok) (qm_con_ok pcRX12_ok) (fun idx kd n f hc => cX12_columnMany_ok (idx, kd, n, f) (qm_lk_mem hc)) (qm_tab_ok aX12_columnMany_ok) (fun vs h o hw => by
  unfold wX12_columnMany at hw
  split at hw
  · obtain ⟨r, hr, rfl⟩ := Option.map_eq_some_iff.mp hw
    exact ⟨Nat.le_of_ble_eq_true rfl, rX12_columnMany_0 (hr)⟩
  · cases hw)
theorem recvX12_columnMany : ∀ vs h o, wX12_columnMany vs h = some o → ∃ ci a rest, vs = qm_r 0 ci a :: rest ∧ qm_R ci = yX12_columnMany.cls := by
  intro vs h o hw
  unfold wX12_columnMany at hw
  split at hw
  · exact ⟨_, _, _, rfl, rfl⟩
  · cases hw
-- RX12 mirrors()I
theorem jX12_mirrors : Jvm.Cond.code yX12_mirrors cX12_mirrors 5 (some .int) ∈ qm_all := List.mem_filter.mpr ⟨by decide +kernel, rfl⟩
theorem iX12_mirrors : Jvm.Cond.instanceMethod yX12_mirrors ∈ qm_all ∧ Jvm.Cond.selects yX12_mirrors.cls yX12_mirrors yX12_mirrors ∈ qm_all := ⟨List.mem_filter.mpr ⟨by decide +kernel, rfl⟩, List.mem_filter.mpr ⟨by decide +kernel, rfl⟩⟩
def wX12_mirrors : qm_C := fun vs h => match vs with
  | [.inr (.inr (some (0, 12, p0)))] => (qX12_mirrors p0 h).map qm_Gi
  | _ => none
def aX12_mirrors : List (Option (Instr × Nat)) := [some (.iconst 1, 1), some (.istore_n 1, 1), some (.iconst 1, 1), some (.istore_n 2, 1), some (.iconst 0, 1), some (.istore_n 3, 1), some (.iload_n 3, 1), some (.aload_n 0, 1), some (.getfield 279, 3), none, none, some (.if_icmp .ge 101, 3), none, none, some (.iload_n 3, 1), some (.aload_n 0, 1), some (.getfield 273, 3), none, none, some (.idiv, 1), some (.aload_n 0, 1), some (.getfield 273, 3), none, none, some (.imul, 1), some (.istore 4, 2), none, some (.iload_n 1, 1), some (.ifCond .eq 35, 3), none, none, some (.aload_n 0, 1), some (.iload_n 3, 1), some (.invokevirtual 288, 3), none, none, some (.aload_n 0, 1), some (.iload 4, 2), none, some (.aload_n 0, 1), some (.getfield 273, 3), none, none, some (.iadd, 1), some (.iconst 1, 1), some (.isub, 1), some (.iload_n 3, 1), some (.aload_n 0, 1), some (.getfield 273, 3), none, none, some (.irem, 1), some (.isub, 1), some (.invokevirtual 288, 3), none, none, some (.if_icmp .ne 7, 3), none, none, some (.iconst 1, 1), some (.goto 4, 3), none, none, some (.iconst 0, 1), some (.istore_n 1, 1), some (.iload_n 2, 1), some (.ifCond .eq 38, 3), none, none, some (.aload_n 0, 1), some (.iload_n 3, 1), some (.invokevirtual 288, 3), none, none, some (.aload_n 0, 1), some (.aload_n 0, 1), some (.getfield 279, 3), none, none, some (.aload_n 0, 1), some (.getfield 273, 3), none, none, some (.isub, 1), some (.iload 4, 2), none, some (.isub, 1), some (.iload_n 3, 1), some (.aload_n 0, 1), some (.getfield 273, 3), none, none, some (.irem, 1), some (.iadd, 1), some (.invokevirtual 288, 3), none, none, some (.if_icmp .ne 7, 3), none, none, some (.iconst 1, 1), some (.goto 4, 3), none, none, some (.iconst 0, 1), some (.istore_n 2, 1), some (.iinc 3 1, 3), none, none, some (.goto (-103), 3), none, none, some (.iload_n 1, 1), some (.ifCond .eq 7, 3), none, none, some (.iconst 1, 1), some (.goto 4, 3), none, none, some (.iconst 0, 1), some (.iload_n 2, 1), some (.ifCond .eq 7, 3), none, none, some (.iconst 2, 1), some (.goto 4, 3), none, none, some (.iconst 0, 1), some (.iadd, 1), some (.ireturn, 1)]
theorem aX12_mirrors_ok : qm_tabok cX12_mirrors aX12_mirrors = true := by decide +kernel
def mX12_mirrors : qm_M := ((some .int), (fun k => qm_lk k pfRX12), (fun k => qm_lk k pcRX12), (fun k => qm_lk k [(288, 0, 2, wX12_isOpen)]), qm_tab aX12_mirrors)
set_option maxRecDepth 20000 in
set_option maxHeartbeats 2000000 in
theorem rX12_mirrors_64 {K6 : Nat → Int32 → Int32 → Int32 → qm_H → Option (Int32 × qm_H)} (H6 : ∀ {a0 : Nat} {x1 : Int32} {x2 : Int32} {x3 : Int32} {d4 : Option qm_V} {h : qm_H} {r : Int32 × qm_H}, K6 a0 x1 x2 x3 h = some r → qm_Ret mX12_mirrors (6, [some (qm_r 0 12 a0), some (qm_i x1), some (qm_i x2), some (qm_i x3), d4], [], h) (qm_Gi r)) {a0 : Nat} {x2 : Int32} {x3 : Int32} {x4 : Int32} {xs0 : Int32} {xd1 : Int32} {h : qm_H} {r : Int32 × qm_H} (ho : qX12_mirrors_64 K6 a0 x2 x3 x4 xs0 h = some r) : qm_Ret mX12_mirrors (64, [some (qm_r 0 12 a0), some (qm_i xd1), some (qm_i x2), some (qm_i x3), some (qm_i x4)], [qm_i xs0], h) (qm_Gi r) := by
  unfold qX12_mirrors_64 at ho
  refine qm_Ret.sts 2 (f' := (66, [some (qm_r 0 12 a0), some (qm_i xs0), some (qm_i x2), some (qm_i x3), some (qm_i x4)], [qm_i x2], h)) rfl ?_
  refine qm_Ret.eq (t := 104) (e := 69) rfl (fun hc => ?_) (fun hc => ?_)
  · rw [if_pos hc] at ho
    refine qm_Ret.sts 4 (f' := (6, [some (qm_r 0 12 a0), some (qm_i xs0), some (qm_i (0 : Int32)), some (qm_i (x3 + (1 : Int32))), some (qm_i x4)], [], h)) rfl ?_
    exact H6 ho
  · rw [if_neg hc] at ho
    refine qm_Ret.sts 2 (f' := (71, [some (qm_r 0 12 a0), some (qm_i xs0), some (qm_i x2), some (qm_i x3), some (qm_i x4)], [qm_i x3, qm_r 0 12 a0], h)) rfl ?_
    obtain ⟨r2, h1, hr, ho⟩ := qm_b2e ho
    refine qm_Ret.call (X := wX12_isOpen [qm_r 0 12 a0, qm_i x3] h) (o1 := (some (qm_i r2), h1)) (qm_mp (G := qm_Gi) hr) rfl ?_
    show qm_Ret _ (74, [some (qm_r 0 12 a0), some (qm_i xs0), some (qm_i x2), some (qm_i x3), some (qm_i x4)], [qm_i r2], h1) _
    refine qm_Ret.sts 11 (f' := (92, [some (qm_r 0 12 a0), some (qm_i xs0), some (qm_i x2), some (qm_i x3), some (qm_i x4)], [qm_i (h1.1 a0 25), qm_i x3, qm_i (((h1.1 a0 27) - (h1.1 a0 25)) - x4), qm_r 0 12 a0, qm_i r2], h1)) rfl ?_
    obtain ⟨hg, ho⟩ := qm_ifn ho
    refine qm_Ret.gn (f1 := (93, [some (qm_r 0 12 a0), some (qm_i xs0), some (qm_i x2), some (qm_i x3), some (qm_i x4)], [qm_i (qm_irem x3 (h1.1 a0 25)), qm_i (((h1.1 a0 27) - (h1.1 a0 25)) - x4), qm_r 0 12 a0, qm_i r2], h1)) hg rfl ?_
    refine qm_Ret.sts 1 (f' := (94, [some (qm_r 0 12 a0), some (qm_i xs0), some (qm_i x2), some (qm_i x3), some (qm_i x4)], [qm_i ((((h1.1 a0 27) - (h1.1 a0 25)) - x4) + (qm_irem x3 (h1.1 a0 25))), qm_r 0 12 a0, qm_i r2], h1)) rfl ?_
    obtain ⟨r4, h3, hr, ho⟩ := qm_b2e ho
    refine qm_Ret.call (X := wX12_isOpen [qm_r 0 12 a0, qm_i ((((h1.1 a0 27) - (h1.1 a0 25)) - x4) + (qm_irem x3 (h1.1 a0 25)))] h1) (o1 := (some (qm_i r4), h3)) (qm_mp (G := qm_Gi) hr) rfl ?_
    show qm_Ret _ (97, [some (qm_r 0 12 a0), some (qm_i xs0), some (qm_i x2), some (qm_i x3), some (qm_i x4)], [qm_i r4, qm_i r2], h3) _
    refine qm_Ret.ne (t := 104) (e := 100) rfl (fun hc => ?_) (fun hc => ?_)
    · rw [if_pos hc] at ho
      refine qm_Ret.sts 5 (f' := (6, [some (qm_r 0 12 a0), some (qm_i xs0), some (qm_i (1 : Int32)), some (qm_i (x3 + (1 : Int32))), some (qm_i x4)], [], h3)) rfl ?_
      exact H6 ho
    · rw [if_neg hc] at ho
      refine qm_Ret.sts 4 (f' := (6, [some (qm_r 0 12 a0), some (qm_i xs0), some (qm_i (0 : Int32)), some (qm_i (x3 + (1 : Int32))), some (qm_i x4)], [], h3)) rfl ?_
      exact H6 ho
set_option maxRecDepth 20000 in
set_option maxHeartbeats 2000000 in
theorem rX12_mirrors_6   : ∀ {fuel : Nat} {a0 : Nat} {x1 : Int32} {x2 : Int32} {x3 : Int32} {d4 : Option qm_V} {h : qm_H} {r : Int32 × qm_H}, qX12_mirrors_6  fuel a0 x1 x2 x3 h = some r → qm_Ret mX12_mirrors (6, [some (qm_r 0 12 a0), some (qm_i x1), some (qm_i x2), some (qm_i x3), d4], [], h) (qm_Gi r) := by
  intro fuel
  induction fuel with
  | zero => intros; rename_i ho; cases ho
  | succ n ih =>
    intro a0 x1 x2 x3 d4 h r ho
    unfold qX12_mirrors_6 at ho
    refine qm_Ret.sts 3 (f' := (11, [some (qm_r 0 12 a0), some (qm_i x1), some (qm_i x2), some (qm_i x3), d4], [qm_i (h.1 a0 27), qm_i x3], h)) rfl ?_
    refine qm_Ret.ge (t := 112) (e := 14) rfl (fun hc => ?_) (fun hc => ?_)
    · rw [if_pos hc] at ho
      refine qm_Ret.sts 3 (f' := (19, [some (qm_r 0 12 a0), some (qm_i x1), some (qm_i x2), some (qm_i x3), d4], [qm_i (h.1 a0 25), qm_i x3], h)) rfl ?_
      obtain ⟨hg, ho⟩ := qm_ifn ho
      refine qm_Ret.gn (f1 := (20, [some (qm_r 0 12 a0), some (qm_i x1), some (qm_i x2), some (qm_i x3), d4], [qm_i (x3 / (h.1 a0 25))], h)) hg rfl ?_
      refine qm_Ret.sts 3 (f' := (25, [some (qm_r 0 12 a0), some (qm_i x1), some (qm_i x2), some (qm_i x3), d4], [qm_i ((x3 / (h.1 a0 25)) * (h.1 a0 25))], h)) rfl ?_
      refine qm_Ret.lets (F := fun v1 => (25, [some (qm_r 0 12 a0), some (qm_i x1), some (qm_i x2), some (qm_i x3), d4], [qm_i v1], h)) (G := qm_Gi) ho (fun v1 ho => ?_)
      refine qm_Ret.sts 2 (f' := (28, [some (qm_r 0 12 a0), some (qm_i x1), some (qm_i x2), some (qm_i x3), some (qm_i v1)], [qm_i x1], h)) rfl ?_
      refine qm_Ret.eq (t := 63) (e := 31) rfl (fun hc => ?_) (fun hc => ?_)
      · rw [if_pos hc] at ho
        refine qm_Ret.sts 1 (f' := (64, [some (qm_r 0 12 a0), some (qm_i x1), some (qm_i x2), some (qm_i x3), some (qm_i v1)], [qm_i (0 : Int32)], h)) rfl ?_
        exact rX12_mirrors_64 (ih) ho
      · rw [if_neg hc] at ho
        refine qm_Ret.sts 2 (f' := (33, [some (qm_r 0 12 a0), some (qm_i x1), some (qm_i x2), some (qm_i x3), some (qm_i v1)], [qm_i x3, qm_r 0 12 a0], h)) rfl ?_
        obtain ⟨r3, h2, hr, ho⟩ := qm_b2e ho
        refine qm_Ret.call (X := wX12_isOpen [qm_r 0 12 a0, qm_i x3] h) (o1 := (some (qm_i r3), h2)) (qm_mp (G := qm_Gi) hr) rfl ?_
        show qm_Ret _ (36, [some (qm_r 0 12 a0), some (qm_i x1), some (qm_i x2), some (qm_i x3), some (qm_i v1)], [qm_i r3], h2) _
        refine qm_Ret.sts 10 (f' := (51, [some (qm_r 0 12 a0), some (qm_i x1), some (qm_i x2), some (qm_i x3), some (qm_i v1)], [qm_i (h2.1 a0 25), qm_i x3, qm_i ((v1 + (h2.1 a0 25)) - (1 : Int32)), qm_r 0 12 a0, qm_i r3], h2)) rfl ?_
        obtain ⟨hg, ho⟩ := qm_ifn ho
        refine qm_Ret.gn (f1 := (52, [some (qm_r 0 12 a0), some (qm_i x1), some (qm_i x2), some (qm_i x3), some (qm_i v1)], [qm_i (qm_irem x3 (h2.1 a0 25)), qm_i ((v1 + (h2.1 a0 25)) - (1 : Int32)), qm_r 0 12 a0, qm_i r3], h2)) hg rfl ?_
        refine qm_Ret.sts 1 (f' := (53, [some (qm_r 0 12 a0), some (qm_i x1), some (qm_i x2), some (qm_i x3), some (qm_i v1)], [qm_i (((v1 + (h2.1 a0 25)) - (1 : Int32)) - (qm_irem x3 (h2.1 a0 25))), qm_r 0 12 a0, qm_i r3], h2)) rfl ?_
        obtain ⟨r5, h4, hr, ho⟩ := qm_b2e ho
        refine qm_Ret.call (X := wX12_isOpen [qm_r 0 12 a0, qm_i (((v1 + (h2.1 a0 25)) - (1 : Int32)) - (qm_irem x3 (h2.1 a0 25)))] h2) (o1 := (some (qm_i r5), h4)) (qm_mp (G := qm_Gi) hr) rfl ?_
        show qm_Ret _ (56, [some (qm_r 0 12 a0), some (qm_i x1), some (qm_i x2), some (qm_i x3), some (qm_i v1)], [qm_i r5, qm_i r3], h4) _
        refine qm_Ret.ne (t := 63) (e := 59) rfl (fun hc => ?_) (fun hc => ?_)
        · rw [if_pos hc] at ho
          refine qm_Ret.sts 2 (f' := (64, [some (qm_r 0 12 a0), some (qm_i x1), some (qm_i x2), some (qm_i x3), some (qm_i v1)], [qm_i (1 : Int32)], h4)) rfl ?_
          exact rX12_mirrors_64 (ih) ho
        · rw [if_neg hc] at ho
          refine qm_Ret.sts 1 (f' := (64, [some (qm_r 0 12 a0), some (qm_i x1), some (qm_i x2), some (qm_i x3), some (qm_i v1)], [qm_i (0 : Int32)], h4)) rfl ?_
          exact rX12_mirrors_64 (ih) ho
    · rw [if_neg hc] at ho
      refine qm_Ret.sts 1 (f' := (113, [some (qm_r 0 12 a0), some (qm_i x1), some (qm_i x2), some (qm_i x3), d4], [qm_i x1], h)) rfl ?_
      refine qm_Ret.eq (t := 120) (e := 116) rfl (fun hc => ?_) (fun hc => ?_)
      · rw [if_pos hc] at ho
        refine qm_Ret.sts 2 (f' := (122, [some (qm_r 0 12 a0), some (qm_i x1), some (qm_i x2), some (qm_i x3), d4], [qm_i x2, qm_i (0 : Int32)], h)) rfl ?_
        refine qm_Ret.eq (t := 129) (e := 125) rfl (fun hc => ?_) (fun hc => ?_)
        · rw [if_pos hc] at ho
          cases ho
          exact qm_Ret.ret 3 rfl
        · rw [if_neg hc] at ho
          cases ho
          exact qm_Ret.ret 4 rfl
      · rw [if_neg hc] at ho
        refine qm_Ret.sts 3 (f' := (122, [some (qm_r 0 12 a0), some (qm_i x1), some (qm_i x2), some (qm_i x3), d4], [qm_i x2, qm_i (1 : Int32)], h)) rfl ?_
        refine qm_Ret.eq (t := 129) (e := 125) rfl (fun hc => ?_) (fun hc => ?_)
        · rw [if_pos hc] at ho
          cases ho
          exact qm_Ret.ret 3 rfl
        · rw [if_neg hc] at ho
          cases ho
          exact qm_Ret.ret 4 rfl
set_option maxRecDepth 20000 in
set_option maxHeartbeats 2000000 in
theorem rX12_mirrors_0   {a0 : Nat} {h : qm_H} {r : Int32 × qm_H} (ho : qX12_mirrors  a0 h = some r) : qm_Ret mX12_mirrors (0, [some (qm_r 0 12 a0), none, none, none, none], [], h) (qm_Gi r) := by
  unfold qX12_mirrors at ho
  refine qm_Ret.sts 6 (f' := (6, [some (qm_r 0 12 a0), some (qm_i (1 : Int32)), some (qm_i (1 : Int32)), some (qm_i (0 : Int32)), none], [], h)) rfl ?_
  exact rX12_mirrors_6 ho
theorem cX12_mirrors_ok : ∀ q ∈ ([(288, 0, 2, wX12_isOpen)] : List (Nat × Nat × Nat × qm_C)), qm_CallOK RX12 2 42 q.2.1 q.1 q.2.2.1 q.2.2.2 := List.forall_mem_cons.mpr ⟨Or.inl ⟨yX12_isOpen, cX12_isOpen, 2, (some .boolean), 1, 21, _, sX12_isOpen, ⟨by decide, by decide⟩, ⟨jX12_isOpen, kRX12_288, uRX12⟩, ⟨by decide, by decide, rfl⟩, Or.inl ⟨rfl, rfl, iX12_isOpen, recvX12_isOpen⟩⟩, fun _ h => absurd h List.not_mem_nil⟩
theorem sX12_mirrors : qm_Snd yX12_mirrors cX12_mirrors 5 (some .int) 2 42 wX12_mirrors := qm_met (fld := fun k => qm_lk k pfRX12) (con := fun k => qm_lk k pcRX12) (call := fun k => qm_lk k [(288, 0, 2, wX12_isOpen)]) (tab := qm_tab aX12_mirrors) (plainFor_of_name (by decide)) (qm_fld_ok pfRX12_ok) (qm_con_ok pcRX12_ok) (fun idx kd n f hc => cX12_mirrors_ok (idx, kd, n, f) (qm_lk_mem hc)) (qm_tab_ok aX12_mirrors_ok) (fun vs h o hw => by
  unfold wX12_mirrors at hw
  split at hw
  · obtain ⟨r, hr, rfl⟩ := Option.map_eq_some_iff.mp hw
    exact ⟨Nat.le_of_ble_eq_true rfl, rX12_mirrors_0 (hr)⟩
  · cases hw)
theorem recvX12_mirrors : ∀ vs h o, wX12_mirrors vs h = some o → ∃ ci a rest, vs = qm_r 0 ci a :: rest ∧ qm_R ci = yX12_mirrors.cls := by
  intro vs h o hw
  unfold wX12_mirrors at hw
  split at hw
  · exact ⟨_, _, _, rfl, rfl⟩
  · cases hw
-- RX12 mirrored(II)I
theorem jX12_mirrored : Jvm.Cond.code yX12_mirrored cX12_mirrored 6 (some .int) ∈ qm_all := List.mem_filter.mpr ⟨by decide +kernel, rfl⟩
theorem iX12_mirrored : Jvm.Cond.instanceMethod yX12_mirrored ∈ qm_all ∧ Jvm.Cond.selects yX12_mirrored.cls yX12_mirrored yX12_mirrored ∈ qm_all := ⟨List.mem_filter.mpr ⟨by decide +kernel, rfl⟩, List.mem_filter.mpr ⟨by decide +kernel, rfl⟩⟩
def wX12_mirrored : qm_C := fun vs h => match vs with
  | [.inr (.inr (some (0, 12, p0))), .inl p1, .inl p2] => (qX12_mirrored p0 p1 p2 h).map qm_Gi
  | _ => none
def aX12_mirrored : List (Option (Instr × Nat)) := [some (.aload_n 0, 1), some (.iconst 0, 1), some (.putfield 88, 3), none, none, some (.aload_n 0, 1), some (.iload_n 1, 1), some (.invokevirtual 301, 3), none, none, some (.ifCond .eq 12, 3), none, none, some (.iload_n 2, 1), some (.iconst 0, 1), some (.iconst 2, 1), some (.invokestatic 100, 3), none, none, some (.ifCond .ne 5, 3), none, none, some (.iconst (-1), 1), some (.ireturn, 1), some (.iconst 0, 1), some (.istore_n 3, 1), some (.iconst 0, 1), some (.istore 4, 2), none, some (.iconst 1, 1), some (.istore 5, 2), none, some (.iload 5, 2), none, some (.bipush 8, 2), none, some (.if_icmp .ge 80, 3), none, none, some (.iload 5, 2), none, some (.aload_n 0, 1), some (.getfield 276, 3), none, none, some (.if_icmp .ge 30, 3), none, none, some (.aload_n 0, 1), some (.getfield 50, 3), none, none, some (.iload 5, 2), none, some (.iaload, 1), some (.invokestatic 285, 3), none, none, some (.aload_n 0, 1), some (.getfield 50, 3), none, none, some (.iload_n 3, 1), some (.iaload, 1), some (.invokestatic 285, 3), none, none, some (.if_icmp .le 8, 3), none, none, some (.iload 5, 2), none, some (.goto 4, 3), none, none, some (.iload_n 3, 1), some (.istore_n 3, 1), some (.iload 5, 2), none, some (.aload_n 0, 1), some (.getfield 273, 3), none, none, some (.if_icmp .ge 23, 3), none, none, some (.aload_n 0, 1), some (.iload 5, 2), none, some (.invokevirtual 511, 3), none, none, some (.aload_n 0, 1), some (.iload 4, 2), none, some (.invokevirtual 511, 3), none, none, some (.if_icmp .le 8, 3), none, none, some (.iload 5, 2), none, some (.goto 5, 3), none, none, some (.iload 4, 2), none, some (.istore 4, 2), none, some (.iinc 5 1, 3), none, none, some (.goto (-81), 3), none, none, some (.iload_n 2, 1), some (.ifCond .ne 10, 3), none, none, some (.aload_n 0, 1), some (.invokevirtual 514, 3), none, none, some (.goto 14, 3), none, none, some (.iload_n 2, 1), some (.iconst 1, 1), some (.if_icmp .ne 7, 3), none, none, some (.iload_n 3, 1), some (.goto 5, 3), none, none, some (.iload 4, 2), none, some (.ireturn, 1)]
theorem aX12_mirrored_ok : qm_tabok cX12_mirrored aX12_mirrored = true := by decide +kernel
def mX12_mirrored : qm_M := ((some .int), (fun k => qm_lk k pfRX12), (fun k => qm_lk k pcRX12), (fun k => qm_lk k [(511, 0, 2, wX12_columnMany), (514, 0, 1, wX12_mirrors), (285, 2, 1, wX12_ones), (301, 0, 2, wX12_hand), (100, 2, 3, wX12_in)]), qm_tab aX12_mirrored)
set_option maxRecDepth 20000 in
set_option maxHeartbeats 2000000 in
theorem rX12_mirrored_76 {K32 : Nat → Int32 → Int32 → Int32 → Int32 → qm_H → Option (Int32 × qm_H)} (H32 : ∀ {a0 : Nat} {x2 : Int32} {x3 : Int32} {x4 : Int32} {x5 : Int32} {xd1 : Int32} {h : qm_H} {r : Int32 × qm_H}, K32 a0 x2 x3 x4 x5 h = some r → qm_Ret mX12_mirrored (32, [some (qm_r 0 12 a0), some (qm_i xd1), some (qm_i x2), some (qm_i x3), some (qm_i x4), some (qm_i x5)], [], h) (qm_Gi r)) {a0 : Nat} {x2 : Int32} {x4 : Int32} {x5 : Int32} {xs0 : Int32} {xd1 : Int32} {xd3 : Int32} {h : qm_H} {r : Int32 × qm_H} (ho : qX12_mirrored_76 K32 a0 x2 x4 x5 xs0 h = some r) : qm_Ret mX12_mirrored (76, [some (qm_r 0 12 a0), some (qm_i xd1), some (qm_i x2), some (qm_i xd3), some (qm_i x4), some (qm_i x5)], [qm_i xs0], h) (qm_Gi r) := by
  unfold qX12_mirrored_76 at ho
  refine qm_Ret.sts 4 (f' := (83, [some (qm_r 0 12 a0), some (qm_i xd1), some (qm_i x2), some (qm_i xs0), some (qm_i x4), some (qm_i x5)], [qm_i (h.1 a0 25), qm_i x5], h)) rfl ?_
  refine qm_Ret.ge (t := 106) (e := 86) rfl (fun hc => ?_) (fun hc => ?_)
  · rw [if_pos hc] at ho
    refine qm_Ret.sts 2 (f' := (89, [some (qm_r 0 12 a0), some (qm_i xd1), some (qm_i x2), some (qm_i xs0), some (qm_i x4), some (qm_i x5)], [qm_i x5, qm_r 0 12 a0], h)) rfl ?_
    obtain ⟨r2, h1, hr, ho⟩ := qm_b2e ho
    refine qm_Ret.call (X := wX12_columnMany [qm_r 0 12 a0, qm_i x5] h) (o1 := (some (qm_i r2), h1)) (qm_mp (G := qm_Gi) hr) rfl ?_
    show qm_Ret _ (92, [some (qm_r 0 12 a0), some (qm_i xd1), some (qm_i x2), some (qm_i xs0), some (qm_i x4), some (qm_i x5)], [qm_i r2], h1) _
    refine qm_Ret.sts 2 (f' := (95, [some (qm_r 0 12 a0), some (qm_i xd1), some (qm_i x2), some (qm_i xs0), some (qm_i x4), some (qm_i x5)], [qm_i x4, qm_r 0 12 a0, qm_i r2], h1)) rfl ?_
    obtain ⟨r4, h3, hr, ho⟩ := qm_b2e ho
    refine qm_Ret.call (X := wX12_columnMany [qm_r 0 12 a0, qm_i x4] h1) (o1 := (some (qm_i r4), h3)) (qm_mp (G := qm_Gi) hr) rfl ?_
    show qm_Ret _ (98, [some (qm_r 0 12 a0), some (qm_i xd1), some (qm_i x2), some (qm_i xs0), some (qm_i x4), some (qm_i x5)], [qm_i r4, qm_i r2], h3) _
    refine qm_Ret.le (t := 106) (e := 101) rfl (fun hc => ?_) (fun hc => ?_)
    · rw [if_pos hc] at ho
      refine qm_Ret.sts 5 (f' := (32, [some (qm_r 0 12 a0), some (qm_i xd1), some (qm_i x2), some (qm_i xs0), some (qm_i x5), some (qm_i (x5 + (1 : Int32)))], [], h3)) rfl ?_
      exact H32 ho
    · rw [if_neg hc] at ho
      refine qm_Ret.sts 4 (f' := (32, [some (qm_r 0 12 a0), some (qm_i xd1), some (qm_i x2), some (qm_i xs0), some (qm_i x4), some (qm_i (x5 + (1 : Int32)))], [], h3)) rfl ?_
      exact H32 ho
  · rw [if_neg hc] at ho
    refine qm_Ret.sts 4 (f' := (32, [some (qm_r 0 12 a0), some (qm_i xd1), some (qm_i x2), some (qm_i xs0), some (qm_i x4), some (qm_i (x5 + (1 : Int32)))], [], h)) rfl ?_
    exact H32 ho
set_option maxRecDepth 20000 in
set_option maxHeartbeats 2000000 in
theorem rX12_mirrored_32   : ∀ {fuel : Nat} {a0 : Nat} {x2 : Int32} {x3 : Int32} {x4 : Int32} {x5 : Int32} {xd1 : Int32} {h : qm_H} {r : Int32 × qm_H}, qX12_mirrored_32  fuel a0 x2 x3 x4 x5 h = some r → qm_Ret mX12_mirrored (32, [some (qm_r 0 12 a0), some (qm_i xd1), some (qm_i x2), some (qm_i x3), some (qm_i x4), some (qm_i x5)], [], h) (qm_Gi r) := by
  intro fuel
  induction fuel with
  | zero => intros; rename_i ho; cases ho
  | succ n ih =>
    intro a0 x2 x3 x4 x5 xd1 h r ho
    unfold qX12_mirrored_32 at ho
    refine qm_Ret.sts 2 (f' := (36, [some (qm_r 0 12 a0), some (qm_i xd1), some (qm_i x2), some (qm_i x3), some (qm_i x4), some (qm_i x5)], [qm_i (8 : Int32), qm_i x5], h)) rfl ?_
    refine qm_Ret.ge (t := 116) (e := 39) rfl (fun hc => ?_) (fun hc => ?_)
    · rw [if_pos hc] at ho
      refine qm_Ret.sts 3 (f' := (45, [some (qm_r 0 12 a0), some (qm_i xd1), some (qm_i x2), some (qm_i x3), some (qm_i x4), some (qm_i x5)], [qm_i (h.1 a0 26), qm_i x5], h)) rfl ?_
      refine qm_Ret.ge (t := 75) (e := 48) rfl (fun hc => ?_) (fun hc => ?_)
      · rw [if_pos hc] at ho
        refine qm_Ret.sts 3 (f' := (54, [some (qm_r 0 12 a0), some (qm_i xd1), some (qm_i x2), some (qm_i x3), some (qm_i x4), some (qm_i x5)], [qm_i x5, qm_r 1 8 (a0 + 14)], h)) rfl ?_
        obtain ⟨hg, ho⟩ := qm_ifn ho
        refine qm_Ret.gn (f1 := (55, [some (qm_r 0 12 a0), some (qm_i xd1), some (qm_i x2), some (qm_i x3), some (qm_i x4), some (qm_i x5)], [qm_i (h.1 (a0 + 14) (x5).toNatClampNeg)], h)) hg rfl ?_
        obtain ⟨r4, h3, hr, ho⟩ := qm_b2e ho
        refine qm_Ret.call (X := wX12_ones [qm_i (h.1 (a0 + 14) (x5).toNatClampNeg)] h) (o1 := (some (qm_i r4), h3)) (qm_mp (G := qm_Gi) hr) rfl ?_
        show qm_Ret _ (58, [some (qm_r 0 12 a0), some (qm_i xd1), some (qm_i x2), some (qm_i x3), some (qm_i x4), some (qm_i x5)], [qm_i r4], h3) _
        refine qm_Ret.sts 3 (f' := (63, [some (qm_r 0 12 a0), some (qm_i xd1), some (qm_i x2), some (qm_i x3), some (qm_i x4), some (qm_i x5)], [qm_i x3, qm_r 1 8 (a0 + 14), qm_i r4], h3)) rfl ?_
        obtain ⟨hg, ho⟩ := qm_ifn ho
        refine qm_Ret.gn (f1 := (64, [some (qm_r 0 12 a0), some (qm_i xd1), some (qm_i x2), some (qm_i x3), some (qm_i x4), some (qm_i x5)], [qm_i (h3.1 (a0 + 14) (x3).toNatClampNeg), qm_i r4], h3)) hg rfl ?_
        obtain ⟨r6, h5, hr, ho⟩ := qm_b2e ho
        refine qm_Ret.call (X := wX12_ones [qm_i (h3.1 (a0 + 14) (x3).toNatClampNeg)] h3) (o1 := (some (qm_i r6), h5)) (qm_mp (G := qm_Gi) hr) rfl ?_
        show qm_Ret _ (67, [some (qm_r 0 12 a0), some (qm_i xd1), some (qm_i x2), some (qm_i x3), some (qm_i x4), some (qm_i x5)], [qm_i r6, qm_i r4], h5) _
        refine qm_Ret.le (t := 75) (e := 70) rfl (fun hc => ?_) (fun hc => ?_)
        · rw [if_pos hc] at ho
          refine qm_Ret.sts 2 (f' := (76, [some (qm_r 0 12 a0), some (qm_i xd1), some (qm_i x2), some (qm_i x3), some (qm_i x4), some (qm_i x5)], [qm_i x5], h5)) rfl ?_
          exact rX12_mirrored_76 (ih) ho
        · rw [if_neg hc] at ho
          refine qm_Ret.sts 1 (f' := (76, [some (qm_r 0 12 a0), some (qm_i xd1), some (qm_i x2), some (qm_i x3), some (qm_i x4), some (qm_i x5)], [qm_i x3], h5)) rfl ?_
          exact rX12_mirrored_76 (ih) ho
      · rw [if_neg hc] at ho
        refine qm_Ret.sts 1 (f' := (76, [some (qm_r 0 12 a0), some (qm_i xd1), some (qm_i x2), some (qm_i x3), some (qm_i x4), some (qm_i x5)], [qm_i x3], h)) rfl ?_
        exact rX12_mirrored_76 (ih) ho
    · rw [if_neg hc] at ho
      refine qm_Ret.sts 1 (f' := (117, [some (qm_r 0 12 a0), some (qm_i xd1), some (qm_i x2), some (qm_i x3), some (qm_i x4), some (qm_i x5)], [qm_i x2], h)) rfl ?_
      refine qm_Ret.ne (t := 127) (e := 120) rfl (fun hc => ?_) (fun hc => ?_)
      · rw [if_pos hc] at ho
        refine qm_Ret.sts 1 (f' := (121, [some (qm_r 0 12 a0), some (qm_i xd1), some (qm_i x2), some (qm_i x3), some (qm_i x4), some (qm_i x5)], [qm_r 0 12 a0], h)) rfl ?_
        obtain ⟨r2, h1, hr, ho⟩ := qm_b2e ho
        refine qm_Ret.call (X := wX12_mirrors [qm_r 0 12 a0] h) (o1 := (some (qm_i r2), h1)) (qm_mp (G := qm_Gi) hr) rfl ?_
        show qm_Ret _ (124, [some (qm_r 0 12 a0), some (qm_i xd1), some (qm_i x2), some (qm_i x3), some (qm_i x4), some (qm_i x5)], [qm_i r2], h1) _
        cases ho
        exact qm_Ret.ret 2 rfl
      · rw [if_neg hc] at ho
        refine qm_Ret.sts 2 (f' := (129, [some (qm_r 0 12 a0), some (qm_i xd1), some (qm_i x2), some (qm_i x3), some (qm_i x4), some (qm_i x5)], [qm_i (1 : Int32), qm_i x2], h)) rfl ?_
        refine qm_Ret.ne (t := 136) (e := 132) rfl (fun hc => ?_) (fun hc => ?_)
        · rw [if_pos hc] at ho
          cases ho
          exact qm_Ret.ret 3 rfl
        · rw [if_neg hc] at ho
          cases ho
          exact qm_Ret.ret 2 rfl
set_option maxRecDepth 20000 in
set_option maxHeartbeats 2000000 in
theorem rX12_mirrored_0   {a0 : Nat} {x1 : Int32} {x2 : Int32} {h : qm_H} {r : Int32 × qm_H} (ho : qX12_mirrored  a0 x1 x2 h = some r) : qm_Ret mX12_mirrored (0, [some (qm_r 0 12 a0), some (qm_i x1), some (qm_i x2), none, none, none], [], h) (qm_Gi r) := by
  unfold qX12_mirrored at ho
  refine qm_Ret.sts 3 (f' := (5, [some (qm_r 0 12 a0), some (qm_i x1), some (qm_i x2), none, none, none], [], (qm_seti h a0 0 (0 : Int32)))) rfl ?_
  refine qm_Ret.lets (F := fun h1 => (5, [some (qm_r 0 12 a0), some (qm_i x1), some (qm_i x2), none, none, none], [], h1)) (G := qm_Gi) ho (fun h1 ho => ?_)
  refine qm_Ret.sts 2 (f' := (7, [some (qm_r 0 12 a0), some (qm_i x1), some (qm_i x2), none, none, none], [qm_i x1, qm_r 0 12 a0], h1)) rfl ?_
  obtain ⟨r3, h2, hr, ho⟩ := qm_b2e ho
  refine qm_Ret.call (X := wX12_hand [qm_r 0 12 a0, qm_i x1] h1) (o1 := (some (qm_i r3), h2)) (qm_mp (G := qm_Gi) hr) rfl ?_
  show qm_Ret _ (10, [some (qm_r 0 12 a0), some (qm_i x1), some (qm_i x2), none, none, none], [qm_i r3], h2) _
  refine qm_Ret.eq (t := 22) (e := 13) rfl (fun hc => ?_) (fun hc => ?_)
  · rw [if_pos hc] at ho
    cases ho
    exact qm_Ret.ret 2 rfl
  · rw [if_neg hc] at ho
    refine qm_Ret.sts 3 (f' := (16, [some (qm_r 0 12 a0), some (qm_i x1), some (qm_i x2), none, none, none], [qm_i (2 : Int32), qm_i (0 : Int32), qm_i x2], h2)) rfl ?_
    obtain ⟨r5, h4, hr, ho⟩ := qm_b2e ho
    refine qm_Ret.call (X := wX12_in [qm_i x2, qm_i (0 : Int32), qm_i (2 : Int32)] h2) (o1 := (some (qm_i r5), h4)) (qm_mp (G := qm_Gi) hr) rfl ?_
    show qm_Ret _ (19, [some (qm_r 0 12 a0), some (qm_i x1), some (qm_i x2), none, none, none], [qm_i r5], h4) _
    refine qm_Ret.ne (t := 24) (e := 22) rfl (fun hc => ?_) (fun hc => ?_)
    · rw [if_pos hc] at ho
      cases ho
      exact qm_Ret.ret 2 rfl
    · rw [if_neg hc] at ho
      refine qm_Ret.sts 6 (f' := (32, [some (qm_r 0 12 a0), some (qm_i x1), some (qm_i x2), some (qm_i (0 : Int32)), some (qm_i (0 : Int32)), some (qm_i (1 : Int32))], [], h4)) rfl ?_
      exact rX12_mirrored_32 ho
theorem cX12_mirrored_ok : ∀ q ∈ ([(511, 0, 2, wX12_columnMany), (514, 0, 1, wX12_mirrors), (285, 2, 1, wX12_ones), (301, 0, 2, wX12_hand), (100, 2, 3, wX12_in)] : List (Nat × Nat × Nat × qm_C)), qm_CallOK RX12 3 66 q.2.1 q.1 q.2.2.1 q.2.2.2 := List.forall_mem_cons.mpr ⟨Or.inl ⟨yX12_columnMany, cX12_columnMany, 4, (some .int), 1, 21, _, sX12_columnMany, ⟨by decide, by decide⟩, ⟨jX12_columnMany, kRX12_511, uRX12⟩, ⟨by decide, by decide, rfl⟩, Or.inl ⟨rfl, rfl, iX12_columnMany, recvX12_columnMany⟩⟩, List.forall_mem_cons.mpr ⟨Or.inl ⟨yX12_mirrors, cX12_mirrors, 5, (some .int), 2, 42, _, sX12_mirrors, ⟨by decide, by decide⟩, ⟨jX12_mirrors, kRX12_514, uRX12⟩, ⟨by decide, by decide, rfl⟩, Or.inl ⟨rfl, rfl, iX12_mirrors, recvX12_mirrors⟩⟩, List.forall_mem_cons.mpr ⟨Or.inl ⟨yX12_ones, cX12_ones, 3, (some .int), 1, 21, _, sX12_ones, ⟨by decide, by decide⟩, ⟨jX12_ones, kRX12_285, uRX12⟩, ⟨by decide, by decide, rfl⟩, Or.inr (Or.inl ⟨rfl, rfl, iX12_ones⟩)⟩, List.forall_mem_cons.mpr ⟨Or.inl ⟨yX12_hand, cX12_hand, 3, (some .boolean), 2, 44, _, sX12_hand, ⟨by decide, by decide⟩, ⟨jX12_hand, kRX12_301, uRX12⟩, ⟨by decide, by decide, rfl⟩, Or.inl ⟨rfl, rfl, iX12_hand, recvX12_hand⟩⟩, List.forall_mem_cons.mpr ⟨Or.inl ⟨yX12_in, cX12_in, 3, (some .boolean), 0, 0, _, sX12_in, ⟨by decide, by decide⟩, ⟨jX12_in, kRX12_100, uRX12⟩, ⟨by decide, by decide, rfl⟩, Or.inr (Or.inl ⟨rfl, rfl, iX12_in⟩)⟩, fun _ h => absurd h List.not_mem_nil⟩⟩⟩⟩⟩
theorem sX12_mirrored : qm_Snd yX12_mirrored cX12_mirrored 6 (some .int) 3 66 wX12_mirrored := qm_met (fld := fun k => qm_lk k pfRX12) (con := fun k => qm_lk k pcRX12) (call := fun k => qm_lk k [(511, 0, 2, wX12_columnMany), (514, 0, 1, wX12_mirrors), (285, 2, 1, wX12_ones), (301, 0, 2, wX12_hand), (100, 2, 3, wX12_in)]) (tab := qm_tab aX12_mirrored) (plainFor_of_name (by decide)) (qm_fld_ok pfRX12_ok) (qm_con_ok pcRX12_ok) (fun idx kd n f hc => cX12_mirrored_ok (idx, kd, n, f) (qm_lk_mem hc)) (qm_tab_ok aX12_mirrored_ok) (fun vs h o hw => by
  unfold wX12_mirrored at hw
  split at hw
  · obtain ⟨r, hr, rfl⟩ := Option.map_eq_some_iff.mp hw
    exact ⟨Nat.le_of_ble_eq_true rfl, rX12_mirrored_0 (hr)⟩
  · cases hw)
theorem recvX12_mirrored : ∀ vs h o, wX12_mirrored vs h = some o → ∃ ci a rest, vs = qm_r 0 ci a :: rest ∧ qm_R ci = yX12_mirrored.cls := by
  intro vs h o hw
  unfold wX12_mirrored at hw
  split at hw
  · exact ⟨_, _, _, rfl, rfl⟩
  · cases hw
-- RX12 ownerOf(III)I
theorem jX12_ownerOf : Jvm.Cond.code yX12_ownerOf cX12_ownerOf 5 (some .int) ∈ qm_all := List.mem_filter.mpr ⟨by decide +kernel, rfl⟩
theorem iX12_ownerOf : Jvm.Cond.static yX12_ownerOf ∈ qm_all := List.mem_filter.mpr ⟨by decide +kernel, rfl⟩
def wX12_ownerOf : qm_C := fun vs h => match vs with
  | [.inl p0, .inl p1, .inl p2] => (qX12_ownerOf p0 p1 p2 h).map qm_Gi
  | _ => none
def aX12_ownerOf : List (Option (Instr × Nat)) := [some (.iload_n 0, 1), some (.istore_n 3, 1), some (.iconst 0, 1), some (.istore 4, 2), none, some (.iload 4, 2), none, some (.iload_n 2, 1), some (.if_icmp .ge 13, 3), none, none, some (.iload_n 3, 1), some (.iload_n 1, 1), some (.idiv, 1), some (.istore_n 3, 1), some (.iinc 4 1, 3), none, none, some (.goto (-13), 3), none, none, some (.iload_n 3, 1), some (.iload_n 1, 1), some (.irem, 1), some (.ireturn, 1)]
theorem aX12_ownerOf_ok : qm_tabok cX12_ownerOf aX12_ownerOf = true := by decide +kernel
def mX12_ownerOf : qm_M := ((some .int), (fun k => qm_lk k pfRX12), (fun k => qm_lk k pcRX12), (fun k => qm_lk k []), qm_tab aX12_ownerOf)
set_option maxRecDepth 20000 in
set_option maxHeartbeats 2000000 in
theorem rX12_ownerOf_5   : ∀ {fuel : Nat} {x1 : Int32} {x2 : Int32} {x3 : Int32} {x4 : Int32} {xd0 : Int32} {h : qm_H} {r : Int32 × qm_H}, qX12_ownerOf_5  fuel x1 x2 x3 x4 h = some r → qm_Ret mX12_ownerOf (5, [some (qm_i xd0), some (qm_i x1), some (qm_i x2), some (qm_i x3), some (qm_i x4)], [], h) (qm_Gi r) := by
  intro fuel
  induction fuel with
  | zero => intros; rename_i ho; cases ho
  | succ n ih =>
    intro x1 x2 x3 x4 xd0 h r ho
    unfold qX12_ownerOf_5 at ho
    refine qm_Ret.sts 2 (f' := (8, [some (qm_i xd0), some (qm_i x1), some (qm_i x2), some (qm_i x3), some (qm_i x4)], [qm_i x2, qm_i x4], h)) rfl ?_
    refine qm_Ret.ge (t := 21) (e := 11) rfl (fun hc => ?_) (fun hc => ?_)
    · rw [if_pos hc] at ho
      refine qm_Ret.sts 2 (f' := (13, [some (qm_i xd0), some (qm_i x1), some (qm_i x2), some (qm_i x3), some (qm_i x4)], [qm_i x1, qm_i x3], h)) rfl ?_
      obtain ⟨hg, ho⟩ := qm_ifn ho
      refine qm_Ret.gn (f1 := (14, [some (qm_i xd0), some (qm_i x1), some (qm_i x2), some (qm_i x3), some (qm_i x4)], [qm_i (x3 / x1)], h)) hg rfl ?_
      refine qm_Ret.sts 3 (f' := (5, [some (qm_i xd0), some (qm_i x1), some (qm_i x2), some (qm_i (x3 / x1)), some (qm_i (x4 + (1 : Int32)))], [], h)) rfl ?_
      exact ih ho
    · rw [if_neg hc] at ho
      refine qm_Ret.sts 2 (f' := (23, [some (qm_i xd0), some (qm_i x1), some (qm_i x2), some (qm_i x3), some (qm_i x4)], [qm_i x1, qm_i x3], h)) rfl ?_
      obtain ⟨hg, ho⟩ := qm_ifn ho
      refine qm_Ret.gn (f1 := (24, [some (qm_i xd0), some (qm_i x1), some (qm_i x2), some (qm_i x3), some (qm_i x4)], [qm_i (qm_irem x3 x1)], h)) hg rfl ?_
      cases ho
      exact qm_Ret.ret 1 rfl
set_option maxRecDepth 20000 in
set_option maxHeartbeats 2000000 in
theorem rX12_ownerOf_0   {x0 : Int32} {x1 : Int32} {x2 : Int32} {h : qm_H} {r : Int32 × qm_H} (ho : qX12_ownerOf  x0 x1 x2 h = some r) : qm_Ret mX12_ownerOf (0, [some (qm_i x0), some (qm_i x1), some (qm_i x2), none, none], [], h) (qm_Gi r) := by
  unfold qX12_ownerOf at ho
  refine qm_Ret.sts 4 (f' := (5, [some (qm_i x0), some (qm_i x1), some (qm_i x2), some (qm_i x0), some (qm_i (0 : Int32))], [], h)) rfl ?_
  exact rX12_ownerOf_5 ho
theorem cX12_ownerOf_ok : ∀ q ∈ ([] : List (Nat × Nat × Nat × qm_C)), qm_CallOK RX12 0 0 q.2.1 q.1 q.2.2.1 q.2.2.2 := fun _ h => absurd h List.not_mem_nil
theorem sX12_ownerOf : qm_Snd yX12_ownerOf cX12_ownerOf 5 (some .int) 0 0 wX12_ownerOf := qm_met (fld := fun k => qm_lk k pfRX12) (con := fun k => qm_lk k pcRX12) (call := fun k => qm_lk k []) (tab := qm_tab aX12_ownerOf) (plainFor_of_name (by decide)) (qm_fld_ok pfRX12_ok) (qm_con_ok pcRX12_ok) (fun idx kd n f hc => cX12_ownerOf_ok (idx, kd, n, f) (qm_lk_mem hc)) (qm_tab_ok aX12_ownerOf_ok) (fun vs h o hw => by
  unfold wX12_ownerOf at hw
  split at hw
  · obtain ⟨r, hr, rfl⟩ := Option.map_eq_some_iff.mp hw
    exact ⟨Nat.le_of_ble_eq_true rfl, rX12_ownerOf_0 (hr)⟩
  · cases hw)
-- RX12 mostHad(II)I
theorem jX12_mostHad : Jvm.Cond.code yX12_mostHad cX12_mostHad 7 (some .int) ∈ qm_all := List.mem_filter.mpr ⟨by decide +kernel, rfl⟩
theorem iX12_mostHad : Jvm.Cond.instanceMethod yX12_mostHad ∈ qm_all ∧ Jvm.Cond.selects yX12_mostHad.cls yX12_mostHad yX12_mostHad ∈ qm_all := ⟨List.mem_filter.mpr ⟨by decide +kernel, rfl⟩, List.mem_filter.mpr ⟨by decide +kernel, rfl⟩⟩
def wX12_mostHad : qm_C := fun vs h => match vs with
  | [.inr (.inr (some (0, 12, p0))), .inl p1, .inl p2] => (qX12_mostHad p0 p1 p2 h).map qm_Gi
  | _ => none
def aX12_mostHad : List (Option (Instr × Nat)) := [some (.iconst 0, 1), some (.istore_n 3, 1), some (.iconst 0, 1), some (.istore 4, 2), none, some (.iload 4, 2), none, some (.iload_n 2, 1), some (.if_icmp .ge 71, 3), none, none, some (.iconst 0, 1), some (.istore 5, 2), none, some (.iconst 0, 1), some (.istore 6, 2), none, some (.iload 6, 2), none, some (.aload_n 0, 1), some (.getfield 433, 3), none, none, some (.if_icmp .ge 43, 3), none, none, some (.iload 5, 2), none, some (.iload_n 1, 1), some (.iload_n 2, 1), some (.aload_n 0, 1), some (.getfield 433, 3), none, none, some (.iconst 1, 1), some (.isub, 1), some (.iload 6, 2), none, some (.isub, 1), some (.invokestatic 517, 3), none, none, some (.iload 4, 2), none, some (.if_icmp .ne 12, 3), none, none, some (.aload_n 0, 1), some (.iload 6, 2), none, some (.invokevirtual 442, 3), none, none, some (.goto 4, 3), none, none, some (.iconst 0, 1), some (.iadd, 1), some (.istore 5, 2), none, some (.iinc 6 1, 3), none, none, some (.goto (-46), 3), none, none, some (.iload_n 3, 1), some (.iload 5, 2), none, some (.invokestatic 161, 3), none, none, some (.istore_n 3, 1), some (.iinc 4 1, 3), none, none, some (.goto (-71), 3), none, none, some (.iload_n 3, 1), some (.ireturn, 1)]
theorem aX12_mostHad_ok : qm_tabok cX12_mostHad aX12_mostHad = true := by decide +kernel
def mX12_mostHad : qm_M := ((some .int), (fun k => qm_lk k pfRX12), (fun k => qm_lk k pcRX12), (fun k => qm_lk k [(161, 2, 2, wX12_greater), (517, 2, 3, wX12_ownerOf), (442, 0, 2, wX12_rod)]), qm_tab aX12_mostHad)
set_option maxRecDepth 20000 in
set_option maxHeartbeats 2000000 in
theorem rX12_mostHad_17 {K5 : Nat → Int32 → Int32 → Int32 → Int32 → qm_H → Option (Int32 × qm_H)} (H5 : ∀ {a0 : Nat} {x1 : Int32} {x2 : Int32} {x3 : Int32} {x4 : Int32} {d5 : Option qm_V} {d6 : Option qm_V} {h : qm_H} {r : Int32 × qm_H}, K5 a0 x1 x2 x3 x4 h = some r → qm_Ret mX12_mostHad (5, [some (qm_r 0 12 a0), some (qm_i x1), some (qm_i x2), some (qm_i x3), some (qm_i x4), d5, d6], [], h) (qm_Gi r)) : ∀ {fuel : Nat} {a0 : Nat} {x1 : Int32} {x2 : Int32} {x3 : Int32} {x4 : Int32} {x5 : Int32} {x6 : Int32} {h : qm_H} {r : Int32 × qm_H}, qX12_mostHad_17 K5 fuel a0 x1 x2 x3 x4 x5 x6 h = some r → qm_Ret mX12_mostHad (17, [some (qm_r 0 12 a0), some (qm_i x1), some (qm_i x2), some (qm_i x3), some (qm_i x4), some (qm_i x5), some (qm_i x6)], [], h) (qm_Gi r) := by
  intro fuel
  induction fuel with
  | zero => intros; rename_i ho; cases ho
  | succ n ih =>
    intro a0 x1 x2 x3 x4 x5 x6 h r ho
    unfold qX12_mostHad_17 at ho
    refine qm_Ret.sts 3 (f' := (23, [some (qm_r 0 12 a0), some (qm_i x1), some (qm_i x2), some (qm_i x3), some (qm_i x4), some (qm_i x5), some (qm_i x6)], [qm_i (h.1 a0 41), qm_i x6], h)) rfl ?_
    refine qm_Ret.ge (t := 66) (e := 26) rfl (fun hc => ?_) (fun hc => ?_)
    · rw [if_pos hc] at ho
      refine qm_Ret.sts 9 (f' := (39, [some (qm_r 0 12 a0), some (qm_i x1), some (qm_i x2), some (qm_i x3), some (qm_i x4), some (qm_i x5), some (qm_i x6)], [qm_i (((h.1 a0 41) - (1 : Int32)) - x6), qm_i x2, qm_i x1, qm_i x5], h)) rfl ?_
      obtain ⟨r4, h3, hr, ho⟩ := qm_b2e ho
      refine qm_Ret.call (X := wX12_ownerOf [qm_i x1, qm_i x2, qm_i (((h.1 a0 41) - (1 : Int32)) - x6)] h) (o1 := (some (qm_i r4), h3)) (qm_mp (G := qm_Gi) hr) rfl ?_
      show qm_Ret _ (42, [some (qm_r 0 12 a0), some (qm_i x1), some (qm_i x2), some (qm_i x3), some (qm_i x4), some (qm_i x5), some (qm_i x6)], [qm_i r4, qm_i x5], h3) _
      refine qm_Ret.sts 1 (f' := (44, [some (qm_r 0 12 a0), some (qm_i x1), some (qm_i x2), some (qm_i x3), some (qm_i x4), some (qm_i x5), some (qm_i x6)], [qm_i x4, qm_i r4, qm_i x5], h3)) rfl ?_
      refine qm_Ret.ne (t := 56) (e := 47) rfl (fun hc => ?_) (fun hc => ?_)
      · rw [if_pos hc] at ho
        refine qm_Ret.sts 2 (f' := (50, [some (qm_r 0 12 a0), some (qm_i x1), some (qm_i x2), some (qm_i x3), some (qm_i x4), some (qm_i x5), some (qm_i x6)], [qm_i x6, qm_r 0 12 a0, qm_i x5], h3)) rfl ?_
        obtain ⟨r7, h6, hr, ho⟩ := qm_b2e ho
        refine qm_Ret.call (X := wX12_rod [qm_r 0 12 a0, qm_i x6] h3) (o1 := (some (qm_i r7), h6)) (qm_mp (G := qm_Gi) hr) rfl ?_
        show qm_Ret _ (53, [some (qm_r 0 12 a0), some (qm_i x1), some (qm_i x2), some (qm_i x3), some (qm_i x4), some (qm_i x5), some (qm_i x6)], [qm_i r7, qm_i x5], h6) _
        refine qm_Ret.sts 5 (f' := (17, [some (qm_r 0 12 a0), some (qm_i x1), some (qm_i x2), some (qm_i x3), some (qm_i x4), some (qm_i (x5 + r7)), some (qm_i (x6 + (1 : Int32)))], [], h6)) rfl ?_
        exact ih ho
      · rw [if_neg hc] at ho
        refine qm_Ret.sts 2 (f' := (58, [some (qm_r 0 12 a0), some (qm_i x1), some (qm_i x2), some (qm_i x3), some (qm_i x4), some (qm_i x5), some (qm_i x6)], [qm_i (x5 + (0 : Int32))], h3)) rfl ?_
        refine qm_Ret.lets (F := fun v5 => (58, [some (qm_r 0 12 a0), some (qm_i x1), some (qm_i x2), some (qm_i x3), some (qm_i x4), some (qm_i x5), some (qm_i x6)], [qm_i v5], h3)) (G := qm_Gi) ho (fun v5 ho => ?_)
        refine qm_Ret.sts 3 (f' := (17, [some (qm_r 0 12 a0), some (qm_i x1), some (qm_i x2), some (qm_i x3), some (qm_i x4), some (qm_i v5), some (qm_i (x6 + (1 : Int32)))], [], h3)) rfl ?_
        exact ih ho
    · rw [if_neg hc] at ho
      refine qm_Ret.sts 2 (f' := (69, [some (qm_r 0 12 a0), some (qm_i x1), some (qm_i x2), some (qm_i x3), some (qm_i x4), some (qm_i x5), some (qm_i x6)], [qm_i x5, qm_i x3], h)) rfl ?_
      obtain ⟨r2, h1, hr, ho⟩ := qm_b2e ho
      refine qm_Ret.call (X := wX12_greater [qm_i x3, qm_i x5] h) (o1 := (some (qm_i r2), h1)) (qm_mp (G := qm_Gi) hr) rfl ?_
      show qm_Ret _ (72, [some (qm_r 0 12 a0), some (qm_i x1), some (qm_i x2), some (qm_i x3), some (qm_i x4), some (qm_i x5), some (qm_i x6)], [qm_i r2], h1) _
      refine qm_Ret.sts 3 (f' := (5, [some (qm_r 0 12 a0), some (qm_i x1), some (qm_i x2), some (qm_i r2), some (qm_i (x4 + (1 : Int32))), some (qm_i x5), some (qm_i x6)], [], h1)) rfl ?_
      exact H5 ho
set_option maxRecDepth 20000 in
set_option maxHeartbeats 2000000 in
theorem rX12_mostHad_5   : ∀ {fuel : Nat} {a0 : Nat} {x1 : Int32} {x2 : Int32} {x3 : Int32} {x4 : Int32} {d5 : Option qm_V} {d6 : Option qm_V} {h : qm_H} {r : Int32 × qm_H}, qX12_mostHad_5  fuel a0 x1 x2 x3 x4 h = some r → qm_Ret mX12_mostHad (5, [some (qm_r 0 12 a0), some (qm_i x1), some (qm_i x2), some (qm_i x3), some (qm_i x4), d5, d6], [], h) (qm_Gi r) := by
  intro fuel
  induction fuel with
  | zero => intros; rename_i ho; cases ho
  | succ n ih =>
    intro a0 x1 x2 x3 x4 d5 d6 h r ho
    unfold qX12_mostHad_5 at ho
    refine qm_Ret.sts 2 (f' := (8, [some (qm_r 0 12 a0), some (qm_i x1), some (qm_i x2), some (qm_i x3), some (qm_i x4), d5, d6], [qm_i x2, qm_i x4], h)) rfl ?_
    refine qm_Ret.ge (t := 79) (e := 11) rfl (fun hc => ?_) (fun hc => ?_)
    · rw [if_pos hc] at ho
      refine qm_Ret.sts 4 (f' := (17, [some (qm_r 0 12 a0), some (qm_i x1), some (qm_i x2), some (qm_i x3), some (qm_i x4), some (qm_i (0 : Int32)), some (qm_i (0 : Int32))], [], h)) rfl ?_
      exact rX12_mostHad_17 (ih) ho
    · rw [if_neg hc] at ho
      cases ho
      exact qm_Ret.ret 2 rfl
set_option maxRecDepth 20000 in
set_option maxHeartbeats 2000000 in
theorem rX12_mostHad_0   {a0 : Nat} {x1 : Int32} {x2 : Int32} {h : qm_H} {r : Int32 × qm_H} (ho : qX12_mostHad  a0 x1 x2 h = some r) : qm_Ret mX12_mostHad (0, [some (qm_r 0 12 a0), some (qm_i x1), some (qm_i x2), none, none, none, none], [], h) (qm_Gi r) := by
  unfold qX12_mostHad at ho
  refine qm_Ret.sts 4 (f' := (5, [some (qm_r 0 12 a0), some (qm_i x1), some (qm_i x2), some (qm_i (0 : Int32)), some (qm_i (0 : Int32)), none, none], [], h)) rfl ?_
  exact rX12_mostHad_5 ho
theorem cX12_mostHad_ok : ∀ q ∈ ([(161, 2, 2, wX12_greater), (517, 2, 3, wX12_ownerOf), (442, 0, 2, wX12_rod)] : List (Nat × Nat × Nat × qm_C)), qm_CallOK RX12 2 42 q.2.1 q.1 q.2.2.1 q.2.2.2 := List.forall_mem_cons.mpr ⟨Or.inl ⟨yX12_greater, cX12_greater, 2, (some .int), 0, 0, _, sX12_greater, ⟨by decide, by decide⟩, ⟨jX12_greater, kRX12_161, uRX12⟩, ⟨by decide, by decide, rfl⟩, Or.inr (Or.inl ⟨rfl, rfl, iX12_greater⟩)⟩, List.forall_mem_cons.mpr ⟨Or.inl ⟨yX12_ownerOf, cX12_ownerOf, 5, (some .int), 0, 0, _, sX12_ownerOf, ⟨by decide, by decide⟩, ⟨jX12_ownerOf, kRX12_517, uRX12⟩, ⟨by decide, by decide, rfl⟩, Or.inr (Or.inl ⟨rfl, rfl, iX12_ownerOf⟩)⟩, List.forall_mem_cons.mpr ⟨Or.inl ⟨yX12_rod, cX12_rod, 2, (some .int), 1, 21, _, sX12_rod, ⟨by decide, by decide⟩, ⟨jX12_rod, kRX12_442, uRX12⟩, ⟨by decide, by decide, rfl⟩, Or.inl ⟨rfl, rfl, iX12_rod, recvX12_rod⟩⟩, fun _ h => absurd h List.not_mem_nil⟩⟩⟩
theorem sX12_mostHad : qm_Snd yX12_mostHad cX12_mostHad 7 (some .int) 2 42 wX12_mostHad := qm_met (fld := fun k => qm_lk k pfRX12) (con := fun k => qm_lk k pcRX12) (call := fun k => qm_lk k [(161, 2, 2, wX12_greater), (517, 2, 3, wX12_ownerOf), (442, 0, 2, wX12_rod)]) (tab := qm_tab aX12_mostHad) (plainFor_of_name (by decide)) (qm_fld_ok pfRX12_ok) (qm_con_ok pcRX12_ok) (fun idx kd n f hc => cX12_mostHad_ok (idx, kd, n, f) (qm_lk_mem hc)) (qm_tab_ok aX12_mostHad_ok) (fun vs h o hw => by
  unfold wX12_mostHad at hw
  split at hw
  · obtain ⟨r, hr, rfl⟩ := Option.map_eq_some_iff.mp hw
    exact ⟨Nat.le_of_ble_eq_true rfl, rX12_mostHad_0 (hr)⟩
  · cases hw)
theorem recvX12_mostHad : ∀ vs h o, wX12_mostHad vs h = some o → ∃ ci a rest, vs = qm_r 0 ci a :: rest ∧ qm_R ci = yX12_mostHad.cls := by
  intro vs h o hw
  unfold wX12_mostHad at hw
  split at hw
  · exact ⟨_, _, _, rfl, rfl⟩
  · cases hw
-- RX12 divided(III)I
theorem jX12_divided : Jvm.Cond.code yX12_divided cX12_divided 9 (some .int) ∈ qm_all := List.mem_filter.mpr ⟨by decide +kernel, rfl⟩
theorem iX12_divided : Jvm.Cond.instanceMethod yX12_divided ∈ qm_all ∧ Jvm.Cond.selects yX12_divided.cls yX12_divided yX12_divided ∈ qm_all := ⟨List.mem_filter.mpr ⟨by decide +kernel, rfl⟩, List.mem_filter.mpr ⟨by decide +kernel, rfl⟩⟩
def wX12_divided : qm_C := fun vs h => match vs with
  | [.inr (.inr (some (0, 12, p0))), .inl p1, .inl p2, .inl p3] => (qX12_divided p0 p1 p2 p3 h).map qm_Gi
  | _ => none
def aX12_divided : List (Option (Instr × Nat)) := [some (.aload_n 0, 1), some (.iconst 0, 1), some (.putfield 88, 3), none, none, some (.iload_n 2, 1), some (.iconst 1, 1), some (.iconst 4, 1), some (.invokestatic 100, 3), none, none, some (.ifCond .eq 25, 3), none, none, some (.aload_n 0, 1), some (.iload_n 1, 1), some (.invokevirtual 439, 3), none, none, some (.ifCond .eq 17, 3), none, none, some (.iload_n 3, 1), some (.iconst (-1), 1), some (.aload_n 0, 1), some (.getfield 433, 3), none, none, some (.iconst 1, 1), some (.isub, 1), some (.invokestatic 100, 3), none, none, some (.ifCond .ne 5, 3), none, none, some (.iconst (-1), 1), some (.ireturn, 1), some (.iconst 1, 1), some (.istore 4, 2), none, some (.iconst 0, 1), some (.istore 5, 2), none, some (.iload 5, 2), none, some (.aload_n 0, 1), some (.getfield 433, 3), none, none, some (.if_icmp .ge 15, 3), none, none, some (.iload 4, 2), none, some (.iload_n 2, 1), some (.imul, 1), some (.istore 4, 2), none, some (.iinc 5 1, 3), none, none, some (.goto (-18), 3), none, none, some (.iconst 0, 1), some (.istore 5, 2), none, some (.ldc_w 390, 3), none, none, some (.istore 6, 2), none, some (.iconst 0, 1), some (.istore 7, 2), none, some (.iload 7, 2), none, some (.iload 4, 2), none, some (.if_icmp .ge 43, 3), none, none, some (.aload_n 0, 1), some (.iload 7, 2), none, some (.iload_n 2, 1), some (.invokevirtual 521, 3), none, none, some (.istore 8, 2), none, some (.iload 8, 2), none, some (.iload 6, 2), none, some (.if_icmp .ge 8, 3), none, none, some (.iload 7, 2), none, some (.goto 5, 3), none, none, some (.iload 5, 2), none, some (.istore 5, 2), none, some (.iload 6, 2), none, some (.iload 8, 2), none, some (.invokestatic 335, 3), none, none, some (.istore 6, 2), none, some (.iinc 7 1, 3), none, none, some (.goto (-44), 3), none, none, some (.iload_n 3, 1), some (.iconst (-1), 1), some (.if_icmp .ne 8, 3), none, none, some (.iload 6, 2), none, some (.goto 17, 3), none, none, some (.iload 5, 2), none, some (.iload_n 2, 1), some (.aload_n 0, 1), some (.getfield 433, 3), none, none, some (.iconst 1, 1), some (.isub, 1), some (.iload_n 3, 1), some (.isub, 1), some (.invokestatic 517, 3), none, none, some (.ireturn, 1)]
theorem aX12_divided_ok : qm_tabok cX12_divided aX12_divided = true := by decide +kernel
def mX12_divided : qm_M := ((some .int), (fun k => qm_lk k pfRX12), (fun k => qm_lk k pcRX12), (fun k => qm_lk k [(335, 2, 2, wX12_lesser), (517, 2, 3, wX12_ownerOf), (521, 0, 3, wX12_mostHad), (100, 2, 3, wX12_in), (439, 0, 2, wX12_hasParish)]), qm_tab aX12_divided)
set_option maxRecDepth 20000 in
set_option maxHeartbeats 2000000 in
theorem rX12_divided_106 {K76 : Nat → Int32 → Int32 → Int32 → Int32 → Int32 → Int32 → qm_H → Option (Int32 × qm_H)} (H76 : ∀ {a0 : Nat} {x2 : Int32} {x3 : Int32} {x4 : Int32} {x5 : Int32} {x6 : Int32} {x7 : Int32} {xd1 : Int32} {d8 : Option qm_V} {h : qm_H} {r : Int32 × qm_H}, K76 a0 x2 x3 x4 x5 x6 x7 h = some r → qm_Ret mX12_divided (76, [some (qm_r 0 12 a0), some (qm_i xd1), some (qm_i x2), some (qm_i x3), some (qm_i x4), some (qm_i x5), some (qm_i x6), some (qm_i x7), d8], [], h) (qm_Gi r)) {a0 : Nat} {x2 : Int32} {x3 : Int32} {x4 : Int32} {x6 : Int32} {x7 : Int32} {x8 : Int32} {xs0 : Int32} {xd1 : Int32} {xd5 : Int32} {h : qm_H} {r : Int32 × qm_H} (ho : qX12_divided_106 K76 a0 x2 x3 x4 x6 x7 x8 xs0 h = some r) : qm_Ret mX12_divided (106, [some (qm_r 0 12 a0), some (qm_i xd1), some (qm_i x2), some (qm_i x3), some (qm_i x4), some (qm_i xd5), some (qm_i x6), some (qm_i x7), some (qm_i x8)], [qm_i xs0], h) (qm_Gi r) := by
  unfold qX12_divided_106 at ho
  refine qm_Ret.sts 3 (f' := (112, [some (qm_r 0 12 a0), some (qm_i xd1), some (qm_i x2), some (qm_i x3), some (qm_i x4), some (qm_i xs0), some (qm_i x6), some (qm_i x7), some (qm_i x8)], [qm_i x8, qm_i x6], h)) rfl ?_
  obtain ⟨r2, h1, hr, ho⟩ := qm_b2e ho
  refine qm_Ret.call (X := wX12_lesser [qm_i x6, qm_i x8] h) (o1 := (some (qm_i r2), h1)) (qm_mp (G := qm_Gi) hr) rfl ?_
  show qm_Ret _ (115, [some (qm_r 0 12 a0), some (qm_i xd1), some (qm_i x2), some (qm_i x3), some (qm_i x4), some (qm_i xs0), some (qm_i x6), some (qm_i x7), some (qm_i x8)], [qm_i r2], h1) _
  refine qm_Ret.sts 3 (f' := (76, [some (qm_r 0 12 a0), some (qm_i xd1), some (qm_i x2), some (qm_i x3), some (qm_i x4), some (qm_i xs0), some (qm_i r2), some (qm_i (x7 + (1 : Int32))), some (qm_i x8)], [], h1)) rfl ?_
  exact H76 ho
set_option maxRecDepth 20000 in
set_option maxHeartbeats 2000000 in
theorem rX12_divided_76   : ∀ {fuel : Nat} {a0 : Nat} {x2 : Int32} {x3 : Int32} {x4 : Int32} {x5 : Int32} {x6 : Int32} {x7 : Int32} {xd1 : Int32} {d8 : Option qm_V} {h : qm_H} {r : Int32 × qm_H}, qX12_divided_76  fuel a0 x2 x3 x4 x5 x6 x7 h = some r → qm_Ret mX12_divided (76, [some (qm_r 0 12 a0), some (qm_i xd1), some (qm_i x2), some (qm_i x3), some (qm_i x4), some (qm_i x5), some (qm_i x6), some (qm_i x7), d8], [], h) (qm_Gi r) := by
  intro fuel
  induction fuel with
  | zero => intros; rename_i ho; cases ho
  | succ n ih =>
    intro a0 x2 x3 x4 x5 x6 x7 xd1 d8 h r ho
    unfold qX12_divided_76 at ho
    refine qm_Ret.sts 2 (f' := (80, [some (qm_r 0 12 a0), some (qm_i xd1), some (qm_i x2), some (qm_i x3), some (qm_i x4), some (qm_i x5), some (qm_i x6), some (qm_i x7), d8], [qm_i x4, qm_i x7], h)) rfl ?_
    refine qm_Ret.ge (t := 123) (e := 83) rfl (fun hc => ?_) (fun hc => ?_)
    · rw [if_pos hc] at ho
      refine qm_Ret.sts 3 (f' := (87, [some (qm_r 0 12 a0), some (qm_i xd1), some (qm_i x2), some (qm_i x3), some (qm_i x4), some (qm_i x5), some (qm_i x6), some (qm_i x7), d8], [qm_i x2, qm_i x7, qm_r 0 12 a0], h)) rfl ?_
      obtain ⟨r4, h3, hr, ho⟩ := qm_b2e ho
      refine qm_Ret.call (X := wX12_mostHad [qm_r 0 12 a0, qm_i x7, qm_i x2] h) (o1 := (some (qm_i r4), h3)) (qm_mp (G := qm_Gi) hr) rfl ?_
      show qm_Ret _ (90, [some (qm_r 0 12 a0), some (qm_i xd1), some (qm_i x2), some (qm_i x3), some (qm_i x4), some (qm_i x5), some (qm_i x6), some (qm_i x7), d8], [qm_i r4], h3) _
      refine qm_Ret.sts 3 (f' := (96, [some (qm_r 0 12 a0), some (qm_i xd1), some (qm_i x2), some (qm_i x3), some (qm_i x4), some (qm_i x5), some (qm_i x6), some (qm_i x7), some (qm_i r4)], [qm_i x6, qm_i r4], h3)) rfl ?_
      refine qm_Ret.ge (t := 104) (e := 99) rfl (fun hc => ?_) (fun hc => ?_)
      · rw [if_pos hc] at ho
        refine qm_Ret.sts 2 (f' := (106, [some (qm_r 0 12 a0), some (qm_i xd1), some (qm_i x2), some (qm_i x3), some (qm_i x4), some (qm_i x5), some (qm_i x6), some (qm_i x7), some (qm_i r4)], [qm_i x7], h3)) rfl ?_
        exact rX12_divided_106 (ih) ho
      · rw [if_neg hc] at ho
        refine qm_Ret.sts 1 (f' := (106, [some (qm_r 0 12 a0), some (qm_i xd1), some (qm_i x2), some (qm_i x3), some (qm_i x4), some (qm_i x5), some (qm_i x6), some (qm_i x7), some (qm_i r4)], [qm_i x5], h3)) rfl ?_
        exact rX12_divided_106 (ih) ho
    · rw [if_neg hc] at ho
      refine qm_Ret.sts 2 (f' := (125, [some (qm_r 0 12 a0), some (qm_i xd1), some (qm_i x2), some (qm_i x3), some (qm_i x4), some (qm_i x5), some (qm_i x6), some (qm_i x7), d8], [qm_i (-1 : Int32), qm_i x3], h)) rfl ?_
      refine qm_Ret.ne (t := 133) (e := 128) rfl (fun hc => ?_) (fun hc => ?_)
      · rw [if_pos hc] at ho
        cases ho
        exact qm_Ret.ret 3 rfl
      · rw [if_neg hc] at ho
        refine qm_Ret.sts 8 (f' := (144, [some (qm_r 0 12 a0), some (qm_i xd1), some (qm_i x2), some (qm_i x3), some (qm_i x4), some (qm_i x5), some (qm_i x6), some (qm_i x7), d8], [qm_i (((h.1 a0 41) - (1 : Int32)) - x3), qm_i x2, qm_i x5], h)) rfl ?_
        obtain ⟨r2, h1, hr, ho⟩ := qm_b2e ho
        refine qm_Ret.call (X := wX12_ownerOf [qm_i x5, qm_i x2, qm_i (((h.1 a0 41) - (1 : Int32)) - x3)] h) (o1 := (some (qm_i r2), h1)) (qm_mp (G := qm_Gi) hr) rfl ?_
        show qm_Ret _ (147, [some (qm_r 0 12 a0), some (qm_i xd1), some (qm_i x2), some (qm_i x3), some (qm_i x4), some (qm_i x5), some (qm_i x6), some (qm_i x7), d8], [qm_i r2], h1) _
        cases ho
        exact qm_Ret.ret 1 rfl
set_option maxRecDepth 20000 in
set_option maxHeartbeats 2000000 in
theorem rX12_divided_44   : ∀ {fuel : Nat} {a0 : Nat} {x2 : Int32} {x3 : Int32} {x4 : Int32} {x5 : Int32} {xd1 : Int32} {h : qm_H} {r : Int32 × qm_H}, qX12_divided_44  fuel a0 x2 x3 x4 x5 h = some r → qm_Ret mX12_divided (44, [some (qm_r 0 12 a0), some (qm_i xd1), some (qm_i x2), some (qm_i x3), some (qm_i x4), some (qm_i x5), none, none, none], [], h) (qm_Gi r) := by
  intro fuel
  induction fuel with
  | zero => intros; rename_i ho; cases ho
  | succ n ih =>
    intro a0 x2 x3 x4 x5 xd1 h r ho
    unfold qX12_divided_44 at ho
    refine qm_Ret.sts 3 (f' := (50, [some (qm_r 0 12 a0), some (qm_i xd1), some (qm_i x2), some (qm_i x3), some (qm_i x4), some (qm_i x5), none, none, none], [qm_i (h.1 a0 41), qm_i x5], h)) rfl ?_
    refine qm_Ret.ge (t := 65) (e := 53) rfl (fun hc => ?_) (fun hc => ?_)
    · rw [if_pos hc] at ho
      refine qm_Ret.sts 6 (f' := (44, [some (qm_r 0 12 a0), some (qm_i xd1), some (qm_i x2), some (qm_i x3), some (qm_i (x4 * x2)), some (qm_i (x5 + (1 : Int32))), none, none, none], [], h)) rfl ?_
      exact ih ho
    · rw [if_neg hc] at ho
      refine qm_Ret.sts 6 (f' := (76, [some (qm_r 0 12 a0), some (qm_i xd1), some (qm_i x2), some (qm_i x3), some (qm_i x4), some (qm_i (0 : Int32)), some (qm_i (1000000 : Int32)), some (qm_i (0 : Int32)), none], [], h)) rfl ?_
      exact rX12_divided_76 ho
set_option maxRecDepth 20000 in
set_option maxHeartbeats 2000000 in
theorem rX12_divided_0   {a0 : Nat} {x1 : Int32} {x2 : Int32} {x3 : Int32} {h : qm_H} {r : Int32 × qm_H} (ho : qX12_divided  a0 x1 x2 x3 h = some r) : qm_Ret mX12_divided (0, [some (qm_r 0 12 a0), some (qm_i x1), some (qm_i x2), some (qm_i x3), none, none, none, none, none], [], h) (qm_Gi r) := by
  unfold qX12_divided at ho
  refine qm_Ret.sts 3 (f' := (5, [some (qm_r 0 12 a0), some (qm_i x1), some (qm_i x2), some (qm_i x3), none, none, none, none, none], [], (qm_seti h a0 0 (0 : Int32)))) rfl ?_
  refine qm_Ret.lets (F := fun h1 => (5, [some (qm_r 0 12 a0), some (qm_i x1), some (qm_i x2), some (qm_i x3), none, none, none, none, none], [], h1)) (G := qm_Gi) ho (fun h1 ho => ?_)
  refine qm_Ret.sts 3 (f' := (8, [some (qm_r 0 12 a0), some (qm_i x1), some (qm_i x2), some (qm_i x3), none, none, none, none, none], [qm_i (4 : Int32), qm_i (1 : Int32), qm_i x2], h1)) rfl ?_
  obtain ⟨r3, h2, hr, ho⟩ := qm_b2e ho
  refine qm_Ret.call (X := wX12_in [qm_i x2, qm_i (1 : Int32), qm_i (4 : Int32)] h1) (o1 := (some (qm_i r3), h2)) (qm_mp (G := qm_Gi) hr) rfl ?_
  show qm_Ret _ (11, [some (qm_r 0 12 a0), some (qm_i x1), some (qm_i x2), some (qm_i x3), none, none, none, none, none], [qm_i r3], h2) _
  refine qm_Ret.eq (t := 36) (e := 14) rfl (fun hc => ?_) (fun hc => ?_)
  · rw [if_pos hc] at ho
    cases ho
    exact qm_Ret.ret 2 rfl
  · rw [if_neg hc] at ho
    refine qm_Ret.sts 2 (f' := (16, [some (qm_r 0 12 a0), some (qm_i x1), some (qm_i x2), some (qm_i x3), none, none, none, none, none], [qm_i x1, qm_r 0 12 a0], h2)) rfl ?_
    obtain ⟨r5, h4, hr, ho⟩ := qm_b2e ho
    refine qm_Ret.call (X := wX12_hasParish [qm_r 0 12 a0, qm_i x1] h2) (o1 := (some (qm_i r5), h4)) (qm_mp (G := qm_Gi) hr) rfl ?_
    show qm_Ret _ (19, [some (qm_r 0 12 a0), some (qm_i x1), some (qm_i x2), some (qm_i x3), none, none, none, none, none], [qm_i r5], h4) _
    refine qm_Ret.eq (t := 36) (e := 22) rfl (fun hc => ?_) (fun hc => ?_)
    · rw [if_pos hc] at ho
      cases ho
      exact qm_Ret.ret 2 rfl
    · rw [if_neg hc] at ho
      refine qm_Ret.sts 6 (f' := (30, [some (qm_r 0 12 a0), some (qm_i x1), some (qm_i x2), some (qm_i x3), none, none, none, none, none], [qm_i ((h4.1 a0 41) - (1 : Int32)), qm_i (-1 : Int32), qm_i x3], h4)) rfl ?_
      obtain ⟨r7, h6, hr, ho⟩ := qm_b2e ho
      refine qm_Ret.call (X := wX12_in [qm_i x3, qm_i (-1 : Int32), qm_i ((h4.1 a0 41) - (1 : Int32))] h4) (o1 := (some (qm_i r7), h6)) (qm_mp (G := qm_Gi) hr) rfl ?_
      show qm_Ret _ (33, [some (qm_r 0 12 a0), some (qm_i x1), some (qm_i x2), some (qm_i x3), none, none, none, none, none], [qm_i r7], h6) _
      refine qm_Ret.ne (t := 38) (e := 36) rfl (fun hc => ?_) (fun hc => ?_)
      · rw [if_pos hc] at ho
        cases ho
        exact qm_Ret.ret 2 rfl
      · rw [if_neg hc] at ho
        refine qm_Ret.sts 4 (f' := (44, [some (qm_r 0 12 a0), some (qm_i x1), some (qm_i x2), some (qm_i x3), some (qm_i (1 : Int32)), some (qm_i (0 : Int32)), none, none, none], [], h6)) rfl ?_
        exact rX12_divided_44 ho
theorem cX12_divided_ok : ∀ q ∈ ([(335, 2, 2, wX12_lesser), (517, 2, 3, wX12_ownerOf), (521, 0, 3, wX12_mostHad), (100, 2, 3, wX12_in), (439, 0, 2, wX12_hasParish)] : List (Nat × Nat × Nat × qm_C)), qm_CallOK RX12 3 68 q.2.1 q.1 q.2.2.1 q.2.2.2 := List.forall_mem_cons.mpr ⟨Or.inl ⟨yX12_lesser, cX12_lesser, 2, (some .int), 0, 0, _, sX12_lesser, ⟨by decide, by decide⟩, ⟨jX12_lesser, kRX12_335, uRX12⟩, ⟨by decide, by decide, rfl⟩, Or.inr (Or.inl ⟨rfl, rfl, iX12_lesser⟩)⟩, List.forall_mem_cons.mpr ⟨Or.inl ⟨yX12_ownerOf, cX12_ownerOf, 5, (some .int), 0, 0, _, sX12_ownerOf, ⟨by decide, by decide⟩, ⟨jX12_ownerOf, kRX12_517, uRX12⟩, ⟨by decide, by decide, rfl⟩, Or.inr (Or.inl ⟨rfl, rfl, iX12_ownerOf⟩)⟩, List.forall_mem_cons.mpr ⟨Or.inl ⟨yX12_mostHad, cX12_mostHad, 7, (some .int), 2, 42, _, sX12_mostHad, ⟨by decide, by decide⟩, ⟨jX12_mostHad, kRX12_521, uRX12⟩, ⟨by decide, by decide, rfl⟩, Or.inl ⟨rfl, rfl, iX12_mostHad, recvX12_mostHad⟩⟩, List.forall_mem_cons.mpr ⟨Or.inl ⟨yX12_in, cX12_in, 3, (some .boolean), 0, 0, _, sX12_in, ⟨by decide, by decide⟩, ⟨jX12_in, kRX12_100, uRX12⟩, ⟨by decide, by decide, rfl⟩, Or.inr (Or.inl ⟨rfl, rfl, iX12_in⟩)⟩, List.forall_mem_cons.mpr ⟨Or.inl ⟨yX12_hasParish, cX12_hasParish, 2, (some .boolean), 2, 44, _, sX12_hasParish, ⟨by decide, by decide⟩, ⟨jX12_hasParish, kRX12_439, uRX12⟩, ⟨by decide, by decide, rfl⟩, Or.inl ⟨rfl, rfl, iX12_hasParish, recvX12_hasParish⟩⟩, fun _ h => absurd h List.not_mem_nil⟩⟩⟩⟩⟩
theorem sX12_divided : qm_Snd yX12_divided cX12_divided 9 (some .int) 3 68 wX12_divided := qm_met (fld := fun k => qm_lk k pfRX12) (con := fun k => qm_lk k pcRX12) (call := fun k => qm_lk k [(335, 2, 2, wX12_lesser), (517, 2, 3, wX12_ownerOf), (521, 0, 3, wX12_mostHad), (100, 2, 3, wX12_in), (439, 0, 2, wX12_hasParish)]) (tab := qm_tab aX12_divided) (plainFor_of_name (by decide)) (qm_fld_ok pfRX12_ok) (qm_con_ok pcRX12_ok) (fun idx kd n f hc => cX12_divided_ok (idx, kd, n, f) (qm_lk_mem hc)) (qm_tab_ok aX12_divided_ok) (fun vs h o hw => by
  unfold wX12_divided at hw
  split at hw
  · obtain ⟨r, hr, rfl⟩ := Option.map_eq_some_iff.mp hw
    exact ⟨Nat.le_of_ble_eq_true rfl, rX12_divided_0 (hr)⟩
  · cases hw)
theorem recvX12_divided : ∀ vs h o, wX12_divided vs h = some o → ∃ ci a rest, vs = qm_r 0 ci a :: rest ∧ qm_R ci = yX12_divided.cls := by
  intro vs h o hw
  unfold wX12_divided at hw
  split at hw
  · exact ⟨_, _, _, rfl, rfl⟩
  · cases hw
