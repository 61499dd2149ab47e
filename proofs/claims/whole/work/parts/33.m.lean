-- RX12 findCosts(Z)V
theorem jX12_findCosts : Jvm.Cond.code yX12_findCosts cX12_findCosts 8 none ∈ qm_all := List.mem_filter.mpr ⟨by decide +kernel, rfl⟩
theorem iX12_findCosts : Jvm.Cond.instanceMethod yX12_findCosts ∈ qm_all ∧ Jvm.Cond.selects yX12_findCosts.cls yX12_findCosts yX12_findCosts ∈ qm_all := ⟨List.mem_filter.mpr ⟨by decide +kernel, rfl⟩, List.mem_filter.mpr ⟨by decide +kernel, rfl⟩⟩
def wX12_findCosts : qm_C := fun vs h => match vs with
  | [.inr (.inr (some (0, 12, p0))), .inl p1] => (qX12_findCosts p0 p1 h).map qm_Gv
  | _ => none
def aX12_findCosts : List (Option (Instr × Nat)) := [some (.aload_n 0, 1), some (.getfield 433, 3), none, none, some (.istore_n 2, 1), some (.iload_n 2, 1), some (.ifCond .lt 193, 3), none, none, some (.iconst 0, 1), some (.istore_n 3, 1), some (.iload_n 3, 1), some (.iconst 1, 1), some (.aload_n 0, 1), some (.getfield 436, 3), none, none, some (.ishl, 1), some (.if_icmp .ge 175, 3), none, none, some (.iload_n 2, 1), some (.aload_n 0, 1), some (.getfield 433, 3), none, none, some (.if_icmp .ne 13, 3), none, none, some (.iload_n 3, 1), some (.ifCond .le 9, 3), none, none, some (.ldc_w 390, 3), none, none, some (.goto 4, 3), none, none, some (.iconst 0, 1), some (.istore 4, 2), none, some (.iload_n 2, 1), some (.aload_n 0, 1), some (.getfield 433, 3), none, none, some (.if_icmp .ge 120, 3), none, none, some (.ldc_w 390, 3), none, none, some (.istore 4, 2), none, some (.iload_n 3, 1), some (.istore 5, 2), none, some (.iload 5, 2), none, some (.ifCond .lt 107, 3), none, none, some (.iload 5, 2), none, some (.aload_n 0, 1), some (.getfield 72, 3), none, none, some (.iload_n 2, 1), some (.iaload, 1), some (.ior, 1), some (.istore 6, 2), none, some (.aload_n 0, 1), some (.iload 6, 2), none, some (.invokevirtual 445, 3), none, none, some (.aload_n 0, 1), some (.iload_n 2, 1), some (.invokevirtual 442, 3), none, none, some (.if_icmp .le 9, 3), none, none, some (.ldc_w 390, 3), none, none, some (.goto 25, 3), none, none, some (.iload 6, 2), none, some (.ifCond .ne 7, 3), none, none, some (.iconst 0, 1), some (.goto 16, 3), none, none, some (.iload_n 1, 1), some (.ifCond .eq 11, 3), none, none, some (.aload_n 0, 1), some (.iload_n 2, 1), some (.invokevirtual 442, 3), none, none, some (.goto 4, 3), none, none, some (.iconst 1, 1), some (.istore 7, 2), none, some (.iload 4, 2), none, some (.iload 7, 2), none, some (.aload_n 0, 1), some (.getfield 75, 3), none, none, some (.sipush 256, 3), none, none, some (.iload_n 2, 1), some (.iconst 1, 1), some (.iadd, 1), some (.imul, 1), some (.iload_n 3, 1), some (.iload 5, 2), none, some (.iconst (-1), 1), some (.ixor, 1), some (.iand, 1), some (.iadd, 1), some (.iaload, 1), some (.iadd, 1), some (.invokestatic 335, 3), none, none, some (.istore 4, 2), none, some (.iload 5, 2), none, some (.ifCond .ne 7, 3), none, none, some (.iconst (-1), 1), some (.goto 9, 3), none, none, some (.iload 5, 2), none, some (.iconst 1, 1), some (.isub, 1), some (.iload_n 3, 1), some (.iand, 1), some (.istore 5, 2), none, some (.goto (-106), 3), none, none, some (.aload_n 0, 1), some (.getfield 75, 3), none, none, some (.sipush 256, 3), none, none, some (.iload_n 2, 1), some (.imul, 1), some (.iload_n 3, 1), some (.iadd, 1), some (.iload 4, 2), none, some (.ldc_w 390, 3), none, none, some (.invokestatic 335, 3), none, none, some (.iastore, 1), some (.iinc 3 1, 3), none, none, some (.goto (-179), 3), none, none, some (.iinc 2 (-1), 3), none, none, some (.goto (-191), 3), none, none, some (.return_, 1)]
theorem aX12_findCosts_ok : qm_tabok cX12_findCosts aX12_findCosts = true := by decide +kernel
def mX12_findCosts : qm_M := (none, (fun k => qm_lk k pfRX12), (fun k => qm_lk k pcRX12), (fun k => qm_lk k [(335, 2, 2, wX12_lesser), (445, 0, 2, wX12_sumOf), (442, 0, 2, wX12_rod)]), qm_tab aX12_findCosts)
set_option maxRecDepth 20000 in
set_option maxHeartbeats 2000000 in
theorem rX12_findCosts_167 {K5 : Nat → Int32 → Int32 → qm_H → Option (qm_H)} {K11 : Nat → Int32 → Int32 → Int32 → qm_H → Option (qm_H)} (H5 : ∀ {a0 : Nat} {x1 : Int32} {x2 : Int32} {d3 : Option qm_V} {d4 : Option qm_V} {d5 : Option qm_V} {d6 : Option qm_V} {d7 : Option qm_V} {h : qm_H} {r : qm_H}, K5 a0 x1 x2 h = some r → qm_Ret mX12_findCosts (5, [some (qm_r 0 12 a0), some (qm_i x1), some (qm_i x2), d3, d4, d5, d6, d7], [], h) (qm_Gv r)) (H11 : ∀ {a0 : Nat} {x1 : Int32} {x2 : Int32} {x3 : Int32} {d4 : Option qm_V} {d5 : Option qm_V} {d6 : Option qm_V} {d7 : Option qm_V} {h : qm_H} {r : qm_H}, K11 a0 x1 x2 x3 h = some r → qm_Ret mX12_findCosts (11, [some (qm_r 0 12 a0), some (qm_i x1), some (qm_i x2), some (qm_i x3), d4, d5, d6, d7], [], h) (qm_Gv r)) {a0 : Nat} {x1 : Int32} {x2 : Int32} {x3 : Int32} {x4 : Int32} {d5 : Option qm_V} {d6 : Option qm_V} {d7 : Option qm_V} {h : qm_H} {r : qm_H} (ho : qX12_findCosts_167 K5 K11 a0 x1 x2 x3 x4 h = some r) : qm_Ret mX12_findCosts (167, [some (qm_r 0 12 a0), some (qm_i x1), some (qm_i x2), some (qm_i x3), some (qm_i x4), d5, d6, d7], [], h) (qm_Gv r) := by
  unfold qX12_findCosts_167 at ho
  refine qm_Ret.sts 9 (f' := (183, [some (qm_r 0 12 a0), some (qm_i x1), some (qm_i x2), some (qm_i x3), some (qm_i x4), d5, d6, d7], [qm_i (1000000 : Int32), qm_i x4, qm_i (((256 : Int32) * x2) + x3), qm_r 1 1792 (a0 + 22)], h)) rfl ?_
  obtain ⟨r2, h1, hr, ho⟩ := qm_b2e ho
  refine qm_Ret.call (X := wX12_lesser [qm_i x4, qm_i (1000000 : Int32)] h) (o1 := (some (qm_i r2), h1)) (qm_mp (G := qm_Gi) hr) rfl ?_
  show qm_Ret _ (186, [some (qm_r 0 12 a0), some (qm_i x1), some (qm_i x2), some (qm_i x3), some (qm_i x4), d5, d6, d7], [qm_i r2, qm_i (((256 : Int32) * x2) + x3), qm_r 1 1792 (a0 + 22)], h1) _
  obtain ⟨hg, ho⟩ := qm_ifn ho
  refine qm_Ret.gn (f1 := (187, [some (qm_r 0 12 a0), some (qm_i x1), some (qm_i x2), some (qm_i x3), some (qm_i x4), d5, d6, d7], [], (qm_seti h1 (a0 + 22) (((256 : Int32) * x2) + x3).toNatClampNeg r2))) hg rfl ?_
  refine qm_Ret.lets (F := fun h3 => (187, [some (qm_r 0 12 a0), some (qm_i x1), some (qm_i x2), some (qm_i x3), some (qm_i x4), d5, d6, d7], [], h3)) (G := qm_Gv) ho (fun h3 ho => ?_)
  refine qm_Ret.sts 2 (f' := (11, [some (qm_r 0 12 a0), some (qm_i x1), some (qm_i x2), some (qm_i (x3 + (1 : Int32))), some (qm_i x4), d5, d6, d7], [], h3)) rfl ?_
  exact H11 ho
set_option maxRecDepth 20000 in
set_option maxHeartbeats 2000000 in
theorem rX12_findCosts_116 {K5 : Nat → Int32 → Int32 → qm_H → Option (qm_H)} {K11 : Nat → Int32 → Int32 → Int32 → qm_H → Option (qm_H)} {K58 : Nat → Int32 → Int32 → Int32 → Int32 → Int32 → qm_H → Option (qm_H)} (H5 : ∀ {a0 : Nat} {x1 : Int32} {x2 : Int32} {d3 : Option qm_V} {d4 : Option qm_V} {d5 : Option qm_V} {d6 : Option qm_V} {d7 : Option qm_V} {h : qm_H} {r : qm_H}, K5 a0 x1 x2 h = some r → qm_Ret mX12_findCosts (5, [some (qm_r 0 12 a0), some (qm_i x1), some (qm_i x2), d3, d4, d5, d6, d7], [], h) (qm_Gv r)) (H11 : ∀ {a0 : Nat} {x1 : Int32} {x2 : Int32} {x3 : Int32} {d4 : Option qm_V} {d5 : Option qm_V} {d6 : Option qm_V} {d7 : Option qm_V} {h : qm_H} {r : qm_H}, K11 a0 x1 x2 x3 h = some r → qm_Ret mX12_findCosts (11, [some (qm_r 0 12 a0), some (qm_i x1), some (qm_i x2), some (qm_i x3), d4, d5, d6, d7], [], h) (qm_Gv r)) (H58 : ∀ {a0 : Nat} {x1 : Int32} {x2 : Int32} {x3 : Int32} {x4 : Int32} {x5 : Int32} {d6 : Option qm_V} {d7 : Option qm_V} {h : qm_H} {r : qm_H}, K58 a0 x1 x2 x3 x4 x5 h = some r → qm_Ret mX12_findCosts (58, [some (qm_r 0 12 a0), some (qm_i x1), some (qm_i x2), some (qm_i x3), some (qm_i x4), some (qm_i x5), d6, d7], [], h) (qm_Gv r)) {a0 : Nat} {x1 : Int32} {x2 : Int32} {x3 : Int32} {x4 : Int32} {x5 : Int32} {xs0 : Int32} {xd6 : Int32} {d7 : Option qm_V} {h : qm_H} {r : qm_H} (ho : qX12_findCosts_116 K5 K11 K58 a0 x1 x2 x3 x4 x5 xs0 h = some r) : qm_Ret mX12_findCosts (116, [some (qm_r 0 12 a0), some (qm_i x1), some (qm_i x2), some (qm_i x3), some (qm_i x4), some (qm_i x5), some (qm_i xd6), d7], [qm_i xs0], h) (qm_Gv r) := by
  unfold qX12_findCosts_116 at ho
  refine qm_Ret.sts 16 (f' := (140, [some (qm_r 0 12 a0), some (qm_i x1), some (qm_i x2), some (qm_i x3), some (qm_i x4), some (qm_i x5), some (qm_i xd6), some (qm_i xs0)], [qm_i (((256 : Int32) * (x2 + (1 : Int32))) + (x3 &&& (x5 ^^^ (-1 : Int32)))), qm_r 1 1792 (a0 + 22), qm_i xs0, qm_i x4], h)) rfl ?_
  obtain ⟨hg, ho⟩ := qm_ifn ho
  refine qm_Ret.gn (f1 := (141, [some (qm_r 0 12 a0), some (qm_i x1), some (qm_i x2), some (qm_i x3), some (qm_i x4), some (qm_i x5), some (qm_i xd6), some (qm_i xs0)], [qm_i (h.1 (a0 + 22) (((256 : Int32) * (x2 + (1 : Int32))) + (x3 &&& (x5 ^^^ (-1 : Int32)))).toNatClampNeg), qm_i xs0, qm_i x4], h)) hg rfl ?_
  refine qm_Ret.sts 1 (f' := (142, [some (qm_r 0 12 a0), some (qm_i x1), some (qm_i x2), some (qm_i x3), some (qm_i x4), some (qm_i x5), some (qm_i xd6), some (qm_i xs0)], [qm_i (xs0 + (h.1 (a0 + 22) (((256 : Int32) * (x2 + (1 : Int32))) + (x3 &&& (x5 ^^^ (-1 : Int32)))).toNatClampNeg)), qm_i x4], h)) rfl ?_
  obtain ⟨r2, h1, hr, ho⟩ := qm_b2e ho
  refine qm_Ret.call (X := wX12_lesser [qm_i x4, qm_i (xs0 + (h.1 (a0 + 22) (((256 : Int32) * (x2 + (1 : Int32))) + (x3 &&& (x5 ^^^ (-1 : Int32)))).toNatClampNeg))] h) (o1 := (some (qm_i r2), h1)) (qm_mp (G := qm_Gi) hr) rfl ?_
  show qm_Ret _ (145, [some (qm_r 0 12 a0), some (qm_i x1), some (qm_i x2), some (qm_i x3), some (qm_i x4), some (qm_i x5), some (qm_i xd6), some (qm_i xs0)], [qm_i r2], h1) _
  refine qm_Ret.sts 2 (f' := (149, [some (qm_r 0 12 a0), some (qm_i x1), some (qm_i x2), some (qm_i x3), some (qm_i r2), some (qm_i x5), some (qm_i xd6), some (qm_i xs0)], [qm_i x5], h1)) rfl ?_
  refine qm_Ret.ne (t := 156) (e := 152) rfl (fun hc => ?_) (fun hc => ?_)
  · rw [if_pos hc] at ho
    refine qm_Ret.sts 4 (f' := (58, [some (qm_r 0 12 a0), some (qm_i x1), some (qm_i x2), some (qm_i x3), some (qm_i r2), some (qm_i (-1 : Int32)), some (qm_i xd6), some (qm_i xs0)], [], h1)) rfl ?_
    exact H58 ho
  · rw [if_neg hc] at ho
    refine qm_Ret.sts 5 (f' := (162, [some (qm_r 0 12 a0), some (qm_i x1), some (qm_i x2), some (qm_i x3), some (qm_i r2), some (qm_i x5), some (qm_i xd6), some (qm_i xs0)], [qm_i ((x5 - (1 : Int32)) &&& x3)], h1)) rfl ?_
    refine qm_Ret.lets (F := fun v3 => (162, [some (qm_r 0 12 a0), some (qm_i x1), some (qm_i x2), some (qm_i x3), some (qm_i r2), some (qm_i x5), some (qm_i xd6), some (qm_i xs0)], [qm_i v3], h1)) (G := qm_Gv) ho (fun v3 ho => ?_)
    refine qm_Ret.sts 2 (f' := (58, [some (qm_r 0 12 a0), some (qm_i x1), some (qm_i x2), some (qm_i x3), some (qm_i r2), some (qm_i v3), some (qm_i xd6), some (qm_i xs0)], [], h1)) rfl ?_
    exact H58 ho
set_option maxRecDepth 20000 in
set_option maxHeartbeats 2000000 in
theorem rX12_findCosts_58 {K5 : Nat → Int32 → Int32 → qm_H → Option (qm_H)} {K11 : Nat → Int32 → Int32 → Int32 → qm_H → Option (qm_H)} (H5 : ∀ {a0 : Nat} {x1 : Int32} {x2 : Int32} {d3 : Option qm_V} {d4 : Option qm_V} {d5 : Option qm_V} {d6 : Option qm_V} {d7 : Option qm_V} {h : qm_H} {r : qm_H}, K5 a0 x1 x2 h = some r → qm_Ret mX12_findCosts (5, [some (qm_r 0 12 a0), some (qm_i x1), some (qm_i x2), d3, d4, d5, d6, d7], [], h) (qm_Gv r)) (H11 : ∀ {a0 : Nat} {x1 : Int32} {x2 : Int32} {x3 : Int32} {d4 : Option qm_V} {d5 : Option qm_V} {d6 : Option qm_V} {d7 : Option qm_V} {h : qm_H} {r : qm_H}, K11 a0 x1 x2 x3 h = some r → qm_Ret mX12_findCosts (11, [some (qm_r 0 12 a0), some (qm_i x1), some (qm_i x2), some (qm_i x3), d4, d5, d6, d7], [], h) (qm_Gv r)) : ∀ {fuel : Nat} {a0 : Nat} {x1 : Int32} {x2 : Int32} {x3 : Int32} {x4 : Int32} {x5 : Int32} {d6 : Option qm_V} {d7 : Option qm_V} {h : qm_H} {r : qm_H}, qX12_findCosts_58 K5 K11 fuel a0 x1 x2 x3 x4 x5 h = some r → qm_Ret mX12_findCosts (58, [some (qm_r 0 12 a0), some (qm_i x1), some (qm_i x2), some (qm_i x3), some (qm_i x4), some (qm_i x5), d6, d7], [], h) (qm_Gv r) := by
  intro fuel
  induction fuel with
  | zero => intros; rename_i ho; cases ho
  | succ n ih =>
    intro a0 x1 x2 x3 x4 x5 d6 d7 h r ho
    unfold qX12_findCosts_58 at ho
    refine qm_Ret.sts 1 (f' := (60, [some (qm_r 0 12 a0), some (qm_i x1), some (qm_i x2), some (qm_i x3), some (qm_i x4), some (qm_i x5), d6, d7], [qm_i x5], h)) rfl ?_
    refine qm_Ret.lt (t := 167) (e := 63) rfl (fun hc => ?_) (fun hc => ?_)
    · rw [if_pos hc] at ho
      exact rX12_findCosts_167 H5 H11 ho
    · rw [if_neg hc] at ho
      refine qm_Ret.sts 4 (f' := (70, [some (qm_r 0 12 a0), some (qm_i x1), some (qm_i x2), some (qm_i x3), some (qm_i x4), some (qm_i x5), d6, d7], [qm_i x2, qm_r 1 6 (a0 + 21), qm_i x5], h)) rfl ?_
      obtain ⟨hg, ho⟩ := qm_ifn ho
      refine qm_Ret.gn (f1 := (71, [some (qm_r 0 12 a0), some (qm_i x1), some (qm_i x2), some (qm_i x3), some (qm_i x4), some (qm_i x5), d6, d7], [qm_i (h.1 (a0 + 21) (x2).toNatClampNeg), qm_i x5], h)) hg rfl ?_
      refine qm_Ret.sts 1 (f' := (72, [some (qm_r 0 12 a0), some (qm_i x1), some (qm_i x2), some (qm_i x3), some (qm_i x4), some (qm_i x5), d6, d7], [qm_i (x5 ||| (h.1 (a0 + 21) (x2).toNatClampNeg))], h)) rfl ?_
      refine qm_Ret.lets (F := fun v1 => (72, [some (qm_r 0 12 a0), some (qm_i x1), some (qm_i x2), some (qm_i x3), some (qm_i x4), some (qm_i x5), d6, d7], [qm_i v1], h)) (G := qm_Gv) ho (fun v1 ho => ?_)
      refine qm_Ret.sts 3 (f' := (77, [some (qm_r 0 12 a0), some (qm_i x1), some (qm_i x2), some (qm_i x3), some (qm_i x4), some (qm_i x5), some (qm_i v1), d7], [qm_i v1, qm_r 0 12 a0], h)) rfl ?_
      obtain ⟨r3, h2, hr, ho⟩ := qm_b2e ho
      refine qm_Ret.call (X := wX12_sumOf [qm_r 0 12 a0, qm_i v1] h) (o1 := (some (qm_i r3), h2)) (qm_mp (G := qm_Gi) hr) rfl ?_
      show qm_Ret _ (80, [some (qm_r 0 12 a0), some (qm_i x1), some (qm_i x2), some (qm_i x3), some (qm_i x4), some (qm_i x5), some (qm_i v1), d7], [qm_i r3], h2) _
      refine qm_Ret.sts 2 (f' := (82, [some (qm_r 0 12 a0), some (qm_i x1), some (qm_i x2), some (qm_i x3), some (qm_i x4), some (qm_i x5), some (qm_i v1), d7], [qm_i x2, qm_r 0 12 a0, qm_i r3], h2)) rfl ?_
      obtain ⟨r5, h4, hr, ho⟩ := qm_b2e ho
      refine qm_Ret.call (X := wX12_rod [qm_r 0 12 a0, qm_i x2] h2) (o1 := (some (qm_i r5), h4)) (qm_mp (G := qm_Gi) hr) rfl ?_
      show qm_Ret _ (85, [some (qm_r 0 12 a0), some (qm_i x1), some (qm_i x2), some (qm_i x3), some (qm_i x4), some (qm_i x5), some (qm_i v1), d7], [qm_i r5, qm_i r3], h4) _
      refine qm_Ret.le (t := 94) (e := 88) rfl (fun hc => ?_) (fun hc => ?_)
      · rw [if_pos hc] at ho
        refine qm_Ret.sts 2 (f' := (116, [some (qm_r 0 12 a0), some (qm_i x1), some (qm_i x2), some (qm_i x3), some (qm_i x4), some (qm_i x5), some (qm_i v1), d7], [qm_i (1000000 : Int32)], h4)) rfl ?_
        exact rX12_findCosts_116 H5 H11 (ih) ho
      · rw [if_neg hc] at ho
        refine qm_Ret.sts 1 (f' := (96, [some (qm_r 0 12 a0), some (qm_i x1), some (qm_i x2), some (qm_i x3), some (qm_i x4), some (qm_i x5), some (qm_i v1), d7], [qm_i v1], h4)) rfl ?_
        refine qm_Ret.ne (t := 103) (e := 99) rfl (fun hc => ?_) (fun hc => ?_)
        · rw [if_pos hc] at ho
          refine qm_Ret.sts 2 (f' := (116, [some (qm_r 0 12 a0), some (qm_i x1), some (qm_i x2), some (qm_i x3), some (qm_i x4), some (qm_i x5), some (qm_i v1), d7], [qm_i (0 : Int32)], h4)) rfl ?_
          exact rX12_findCosts_116 H5 H11 (ih) ho
        · rw [if_neg hc] at ho
          refine qm_Ret.sts 1 (f' := (104, [some (qm_r 0 12 a0), some (qm_i x1), some (qm_i x2), some (qm_i x3), some (qm_i x4), some (qm_i x5), some (qm_i v1), d7], [qm_i x1], h4)) rfl ?_
          refine qm_Ret.eq (t := 115) (e := 107) rfl (fun hc => ?_) (fun hc => ?_)
          · rw [if_pos hc] at ho
            refine qm_Ret.sts 1 (f' := (116, [some (qm_r 0 12 a0), some (qm_i x1), some (qm_i x2), some (qm_i x3), some (qm_i x4), some (qm_i x5), some (qm_i v1), d7], [qm_i (1 : Int32)], h4)) rfl ?_
            exact rX12_findCosts_116 H5 H11 (ih) ho
          · rw [if_neg hc] at ho
            refine qm_Ret.sts 2 (f' := (109, [some (qm_r 0 12 a0), some (qm_i x1), some (qm_i x2), some (qm_i x3), some (qm_i x4), some (qm_i x5), some (qm_i v1), d7], [qm_i x2, qm_r 0 12 a0], h4)) rfl ?_
            obtain ⟨r7, h6, hr, ho⟩ := qm_b2e ho
            refine qm_Ret.call (X := wX12_rod [qm_r 0 12 a0, qm_i x2] h4) (o1 := (some (qm_i r7), h6)) (qm_mp (G := qm_Gi) hr) rfl ?_
            show qm_Ret _ (112, [some (qm_r 0 12 a0), some (qm_i x1), some (qm_i x2), some (qm_i x3), some (qm_i x4), some (qm_i x5), some (qm_i v1), d7], [qm_i r7], h6) _
            refine qm_Ret.sts 1 (f' := (116, [some (qm_r 0 12 a0), some (qm_i x1), some (qm_i x2), some (qm_i x3), some (qm_i x4), some (qm_i x5), some (qm_i v1), d7], [qm_i r7], h6)) rfl ?_
            exact rX12_findCosts_116 H5 H11 (ih) ho
set_option maxRecDepth 20000 in
set_option maxHeartbeats 2000000 in
theorem rX12_findCosts_11 {K5 : Nat → Int32 → Int32 → qm_H → Option (qm_H)} (H5 : ∀ {a0 : Nat} {x1 : Int32} {x2 : Int32} {d3 : Option qm_V} {d4 : Option qm_V} {d5 : Option qm_V} {d6 : Option qm_V} {d7 : Option qm_V} {h : qm_H} {r : qm_H}, K5 a0 x1 x2 h = some r → qm_Ret mX12_findCosts (5, [some (qm_r 0 12 a0), some (qm_i x1), some (qm_i x2), d3, d4, d5, d6, d7], [], h) (qm_Gv r)) : ∀ {fuel : Nat} {a0 : Nat} {x1 : Int32} {x2 : Int32} {x3 : Int32} {d4 : Option qm_V} {d5 : Option qm_V} {d6 : Option qm_V} {d7 : Option qm_V} {h : qm_H} {r : qm_H}, qX12_findCosts_11 K5 fuel a0 x1 x2 x3 h = some r → qm_Ret mX12_findCosts (11, [some (qm_r 0 12 a0), some (qm_i x1), some (qm_i x2), some (qm_i x3), d4, d5, d6, d7], [], h) (qm_Gv r) := by
  intro fuel
  induction fuel with
  | zero => intros; rename_i ho; cases ho
  | succ n ih =>
    intro a0 x1 x2 x3 d4 d5 d6 d7 h r ho
    unfold qX12_findCosts_11 at ho
    refine qm_Ret.sts 5 (f' := (18, [some (qm_r 0 12 a0), some (qm_i x1), some (qm_i x2), some (qm_i x3), d4, d5, d6, d7], [qm_i (qm_ishl (1 : Int32) (h.1 a0 42)), qm_i x3], h)) rfl ?_
    refine qm_Ret.ge (t := 193) (e := 21) rfl (fun hc => ?_) (fun hc => ?_)
    · rw [if_pos hc] at ho
      refine qm_Ret.sts 3 (f' := (26, [some (qm_r 0 12 a0), some (qm_i x1), some (qm_i x2), some (qm_i x3), d4, d5, d6, d7], [qm_i (h.1 a0 41), qm_i x2], h)) rfl ?_
      refine qm_Ret.ne (t := 39) (e := 29) rfl (fun hc => ?_) (fun hc => ?_)
      · rw [if_pos hc] at ho
        refine qm_Ret.sts 1 (f' := (30, [some (qm_r 0 12 a0), some (qm_i x1), some (qm_i x2), some (qm_i x3), d4, d5, d6, d7], [qm_i x3], h)) rfl ?_
        refine qm_Ret.le (t := 39) (e := 33) rfl (fun hc => ?_) (fun hc => ?_)
        · rw [if_pos hc] at ho
          refine qm_Ret.sts 6 (f' := (47, [some (qm_r 0 12 a0), some (qm_i x1), some (qm_i x2), some (qm_i x3), some (qm_i (1000000 : Int32)), d5, d6, d7], [qm_i (h.1 a0 41), qm_i x2], h)) rfl ?_
          refine qm_Ret.ge (t := 167) (e := 50) rfl (fun hc => ?_) (fun hc => ?_)
          · rw [if_pos hc] at ho
            refine qm_Ret.sts 4 (f' := (58, [some (qm_r 0 12 a0), some (qm_i x1), some (qm_i x2), some (qm_i x3), some (qm_i (1000000 : Int32)), some (qm_i x3), d6, d7], [], h)) rfl ?_
            exact rX12_findCosts_58 H5 (ih) ho
          · rw [if_neg hc] at ho
            exact rX12_findCosts_167 H5 (ih) ho
        · rw [if_neg hc] at ho
          refine qm_Ret.sts 5 (f' := (47, [some (qm_r 0 12 a0), some (qm_i x1), some (qm_i x2), some (qm_i x3), some (qm_i (0 : Int32)), d5, d6, d7], [qm_i (h.1 a0 41), qm_i x2], h)) rfl ?_
          refine qm_Ret.ge (t := 167) (e := 50) rfl (fun hc => ?_) (fun hc => ?_)
          · rw [if_pos hc] at ho
            refine qm_Ret.sts 4 (f' := (58, [some (qm_r 0 12 a0), some (qm_i x1), some (qm_i x2), some (qm_i x3), some (qm_i (1000000 : Int32)), some (qm_i x3), d6, d7], [], h)) rfl ?_
            exact rX12_findCosts_58 H5 (ih) ho
          · rw [if_neg hc] at ho
            exact rX12_findCosts_167 H5 (ih) ho
      · rw [if_neg hc] at ho
        refine qm_Ret.sts 5 (f' := (47, [some (qm_r 0 12 a0), some (qm_i x1), some (qm_i x2), some (qm_i x3), some (qm_i (0 : Int32)), d5, d6, d7], [qm_i (h.1 a0 41), qm_i x2], h)) rfl ?_
        refine qm_Ret.ge (t := 167) (e := 50) rfl (fun hc => ?_) (fun hc => ?_)
        · rw [if_pos hc] at ho
          refine qm_Ret.sts 4 (f' := (58, [some (qm_r 0 12 a0), some (qm_i x1), some (qm_i x2), some (qm_i x3), some (qm_i (1000000 : Int32)), some (qm_i x3), d6, d7], [], h)) rfl ?_
          exact rX12_findCosts_58 H5 (ih) ho
        · rw [if_neg hc] at ho
          exact rX12_findCosts_167 H5 (ih) ho
    · rw [if_neg hc] at ho
      refine qm_Ret.sts 2 (f' := (5, [some (qm_r 0 12 a0), some (qm_i x1), some (qm_i (x2 + (-1 : Int32))), some (qm_i x3), d4, d5, d6, d7], [], h)) rfl ?_
      exact H5 ho
set_option maxRecDepth 20000 in
set_option maxHeartbeats 2000000 in
theorem rX12_findCosts_5   : ∀ {fuel : Nat} {a0 : Nat} {x1 : Int32} {x2 : Int32} {d3 : Option qm_V} {d4 : Option qm_V} {d5 : Option qm_V} {d6 : Option qm_V} {d7 : Option qm_V} {h : qm_H} {r : qm_H}, qX12_findCosts_5  fuel a0 x1 x2 h = some r → qm_Ret mX12_findCosts (5, [some (qm_r 0 12 a0), some (qm_i x1), some (qm_i x2), d3, d4, d5, d6, d7], [], h) (qm_Gv r) := by
  intro fuel
  induction fuel with
  | zero => intros; rename_i ho; cases ho
  | succ n ih =>
    intro a0 x1 x2 d3 d4 d5 d6 d7 h r ho
    unfold qX12_findCosts_5 at ho
    refine qm_Ret.sts 1 (f' := (6, [some (qm_r 0 12 a0), some (qm_i x1), some (qm_i x2), d3, d4, d5, d6, d7], [qm_i x2], h)) rfl ?_
    refine qm_Ret.lt (t := 199) (e := 9) rfl (fun hc => ?_) (fun hc => ?_)
    · rw [if_pos hc] at ho
      cases ho
      exact qm_Ret.ret 1 rfl
    · rw [if_neg hc] at ho
      refine qm_Ret.sts 2 (f' := (11, [some (qm_r 0 12 a0), some (qm_i x1), some (qm_i x2), some (qm_i (0 : Int32)), d4, d5, d6, d7], [], h)) rfl ?_
      exact rX12_findCosts_11 (ih) ho
set_option maxRecDepth 20000 in
set_option maxHeartbeats 2000000 in
theorem rX12_findCosts_0   {a0 : Nat} {x1 : Int32} {h : qm_H} {r : qm_H} (ho : qX12_findCosts  a0 x1 h = some r) : qm_Ret mX12_findCosts (0, [some (qm_r 0 12 a0), some (qm_i x1), none, none, none, none, none, none], [], h) (qm_Gv r) := by
  unfold qX12_findCosts at ho
  refine qm_Ret.sts 3 (f' := (5, [some (qm_r 0 12 a0), some (qm_i x1), some (qm_i (h.1 a0 41)), none, none, none, none, none], [], h)) rfl ?_
  exact rX12_findCosts_5 ho
theorem cX12_findCosts_ok : ∀ q ∈ ([(335, 2, 2, wX12_lesser), (445, 0, 2, wX12_sumOf), (442, 0, 2, wX12_rod)] : List (Nat × Nat × Nat × qm_C)), qm_CallOK RX12 2 44 q.2.1 q.1 q.2.2.1 q.2.2.2 := List.forall_mem_cons.mpr ⟨Or.inl ⟨yX12_lesser, cX12_lesser, 2, (some .int), 0, 0, _, sX12_lesser, ⟨by decide, by decide⟩, ⟨jX12_lesser, kRX12_335, uRX12⟩, ⟨by decide, by decide, rfl⟩, Or.inr (Or.inl ⟨rfl, rfl, iX12_lesser⟩)⟩, List.forall_mem_cons.mpr ⟨Or.inl ⟨yX12_sumOf, cX12_sumOf, 4, (some .int), 1, 21, _, sX12_sumOf, ⟨by decide, by decide⟩, ⟨jX12_sumOf, kRX12_445, uRX12⟩, ⟨by decide, by decide, rfl⟩, Or.inl ⟨rfl, rfl, iX12_sumOf, recvX12_sumOf⟩⟩, List.forall_mem_cons.mpr ⟨Or.inl ⟨yX12_rod, cX12_rod, 2, (some .int), 1, 21, _, sX12_rod, ⟨by decide, by decide⟩, ⟨jX12_rod, kRX12_442, uRX12⟩, ⟨by decide, by decide, rfl⟩, Or.inl ⟨rfl, rfl, iX12_rod, recvX12_rod⟩⟩, fun _ h => absurd h List.not_mem_nil⟩⟩⟩
theorem sX12_findCosts : qm_Snd yX12_findCosts cX12_findCosts 8 none 2 44 wX12_findCosts := qm_met (fld := fun k => qm_lk k pfRX12) (con := fun k => qm_lk k pcRX12) (call := fun k => qm_lk k [(335, 2, 2, wX12_lesser), (445, 0, 2, wX12_sumOf), (442, 0, 2, wX12_rod)]) (tab := qm_tab aX12_findCosts) (plainFor_of_name (by decide)) (qm_fld_ok pfRX12_ok) (qm_con_ok pcRX12_ok) (fun idx kd n f hc => cX12_findCosts_ok (idx, kd, n, f) (qm_lk_mem hc)) (qm_tab_ok aX12_findCosts_ok) (fun vs h o hw => by
  unfold wX12_findCosts at hw
  split at hw
  · obtain ⟨r, hr, rfl⟩ := Option.map_eq_some_iff.mp hw
    exact ⟨Nat.le_of_ble_eq_true rfl, rX12_findCosts_0 (hr)⟩
  · cases hw)
theorem recvX12_findCosts : ∀ vs h o, wX12_findCosts vs h = some o → ∃ ci a rest, vs = qm_r 0 ci a :: rest ∧ qm_R ci = yX12_findCosts.cls := by
  intro vs h o hw
  unfold wX12_findCosts at hw
  split at hw
  · exact ⟨_, _, _, rfl, rfl⟩
  · cases hw
-- RX12 costAll(Z)I
theorem jX12_costAll : Jvm.Cond.code yX12_costAll cX12_costAll 3 (some .int) ∈ qm_all := List.mem_filter.mpr ⟨by decide +kernel, rfl⟩
theorem iX12_costAll : Jvm.Cond.instanceMethod yX12_costAll ∈ qm_all ∧ Jvm.Cond.selects yX12_costAll.cls yX12_costAll yX12_costAll ∈ qm_all := ⟨List.mem_filter.mpr ⟨by decide +kernel, rfl⟩, List.mem_filter.mpr ⟨by decide +kernel, rfl⟩⟩
def wX12_costAll : qm_C := fun vs h => match vs with
  | [.inr (.inr (some (0, 12, p0))), .inl p1] => (qX12_costAll p0 p1 h).map qm_Gi
  | _ => none
def aX12_costAll : List (Option (Instr × Nat)) := [some (.iconst 0, 1), some (.istore_n 2, 1), some (.iload_n 2, 1), some (.bipush 6, 2), none, some (.if_icmp .ge 16, 3), none, none, some (.aload_n 0, 1), some (.getfield 72, 3), none, none, some (.iload_n 2, 1), some (.iconst 0, 1), some (.iastore, 1), some (.iinc 2 1, 3), none, none, some (.goto (-16), 3), none, none, some (.aload_n 0, 1), some (.iload_n 1, 1), some (.invokevirtual 448, 3), none, none, some (.aload_n 0, 1), some (.getfield 75, 3), none, none, some (.iconst 1, 1), some (.aload_n 0, 1), some (.getfield 436, 3), none, none, some (.ishl, 1), some (.iconst 1, 1), some (.isub, 1), some (.iaload, 1), some (.ireturn, 1)]
theorem aX12_costAll_ok : qm_tabok cX12_costAll aX12_costAll = true := by decide +kernel
def mX12_costAll : qm_M := ((some .int), (fun k => qm_lk k pfRX12), (fun k => qm_lk k pcRX12), (fun k => qm_lk k [(448, 0, 2, wX12_findCosts)]), qm_tab aX12_costAll)
set_option maxRecDepth 20000 in
set_option maxHeartbeats 2000000 in
theorem rX12_costAll_2   : ∀ {fuel : Nat} {a0 : Nat} {x1 : Int32} {x2 : Int32} {h : qm_H} {r : Int32 × qm_H}, qX12_costAll_2  fuel a0 x1 x2 h = some r → qm_Ret mX12_costAll (2, [some (qm_r 0 12 a0), some (qm_i x1), some (qm_i x2)], [], h) (qm_Gi r) := by
  intro fuel
  induction fuel with
  | zero => intros; rename_i ho; cases ho
  | succ n ih =>
    intro a0 x1 x2 h r ho
    unfold qX12_costAll_2 at ho
    refine qm_Ret.sts 2 (f' := (5, [some (qm_r 0 12 a0), some (qm_i x1), some (qm_i x2)], [qm_i (6 : Int32), qm_i x2], h)) rfl ?_
    refine qm_Ret.ge (t := 21) (e := 8) rfl (fun hc => ?_) (fun hc => ?_)
    · rw [if_pos hc] at ho
      refine qm_Ret.sts 4 (f' := (14, [some (qm_r 0 12 a0), some (qm_i x1), some (qm_i x2)], [qm_i (0 : Int32), qm_i x2, qm_r 1 6 (a0 + 21)], h)) rfl ?_
      obtain ⟨hg, ho⟩ := qm_ifn ho
      refine qm_Ret.gn (f1 := (15, [some (qm_r 0 12 a0), some (qm_i x1), some (qm_i x2)], [], (qm_seti h (a0 + 21) (x2).toNatClampNeg (0 : Int32)))) hg rfl ?_
      refine qm_Ret.lets (F := fun h2 => (15, [some (qm_r 0 12 a0), some (qm_i x1), some (qm_i x2)], [], h2)) (G := qm_Gi) ho (fun h2 ho => ?_)
      refine qm_Ret.sts 2 (f' := (2, [some (qm_r 0 12 a0), some (qm_i x1), some (qm_i (x2 + (1 : Int32)))], [], h2)) rfl ?_
      exact ih ho
    · rw [if_neg hc] at ho
      refine qm_Ret.sts 2 (f' := (23, [some (qm_r 0 12 a0), some (qm_i x1), some (qm_i x2)], [qm_i x1, qm_r 0 12 a0], h)) rfl ?_
      obtain ⟨h1, hr, ho⟩ := qm_bd ho
      refine qm_Ret.call (X := wX12_findCosts [qm_r 0 12 a0, qm_i x1] h) (o1 := (none, h1)) (qm_mp (G := qm_Gv) hr) rfl ?_
      show qm_Ret _ (26, [some (qm_r 0 12 a0), some (qm_i x1), some (qm_i x2)], [], h1) _
      refine qm_Ret.sts 8 (f' := (38, [some (qm_r 0 12 a0), some (qm_i x1), some (qm_i x2)], [qm_i ((qm_ishl (1 : Int32) (h1.1 a0 42)) - (1 : Int32)), qm_r 1 1792 (a0 + 22)], h1)) rfl ?_
      obtain ⟨hg, ho⟩ := qm_ifn ho
      refine qm_Ret.gn (f1 := (39, [some (qm_r 0 12 a0), some (qm_i x1), some (qm_i x2)], [qm_i (h1.1 (a0 + 22) ((qm_ishl (1 : Int32) (h1.1 a0 42)) - (1 : Int32)).toNatClampNeg)], h1)) hg rfl ?_
      cases ho
      exact qm_Ret.ret 1 rfl
set_option maxRecDepth 20000 in
set_option maxHeartbeats 2000000 in
theorem rX12_costAll_0   {a0 : Nat} {x1 : Int32} {h : qm_H} {r : Int32 × qm_H} (ho : qX12_costAll  a0 x1 h = some r) : qm_Ret mX12_costAll (0, [some (qm_r 0 12 a0), some (qm_i x1), none], [], h) (qm_Gi r) := by
  unfold qX12_costAll at ho
  refine qm_Ret.sts 2 (f' := (2, [some (qm_r 0 12 a0), some (qm_i x1), some (qm_i (0 : Int32))], [], h)) rfl ?_
  exact rX12_costAll_2 ho
theorem cX12_costAll_ok : ∀ q ∈ ([(448, 0, 2, wX12_findCosts)] : List (Nat × Nat × Nat × qm_C)), qm_CallOK RX12 3 71 q.2.1 q.1 q.2.2.1 q.2.2.2 := List.forall_mem_cons.mpr ⟨Or.inl ⟨yX12_findCosts, cX12_findCosts, 8, none, 2, 44, _, sX12_findCosts, ⟨by decide, by decide⟩, ⟨jX12_findCosts, kRX12_448, uRX12⟩, ⟨by decide, by decide, rfl⟩, Or.inl ⟨rfl, rfl, iX12_findCosts, recvX12_findCosts⟩⟩, fun _ h => absurd h List.not_mem_nil⟩
theorem sX12_costAll : qm_Snd yX12_costAll cX12_costAll 3 (some .int) 3 71 wX12_costAll := qm_met (fld := fun k => qm_lk k pfRX12) (con := fun k => qm_lk k pcRX12) (call := fun k => qm_lk k [(448, 0, 2, wX12_findCosts)]) (tab := qm_tab aX12_costAll) (plainFor_of_name (by decide)) (qm_fld_ok pfRX12_ok) (qm_con_ok pcRX12_ok) (fun idx kd n f hc => cX12_costAll_ok (idx, kd, n, f) (qm_lk_mem hc)) (qm_tab_ok aX12_costAll_ok) (fun vs h o hw => by
  unfold wX12_costAll at hw
  split at hw
  · obtain ⟨r, hr, rfl⟩ := Option.map_eq_some_iff.mp hw
    exact ⟨Nat.le_of_ble_eq_true rfl, rX12_costAll_0 (hr)⟩
  · cases hw)
theorem recvX12_costAll : ∀ vs h o, wX12_costAll vs h = some o → ∃ ci a rest, vs = qm_r 0 ci a :: rest ∧ qm_R ci = yX12_costAll.cls := by
  intro vs h o hw
  unfold wX12_costAll at hw
  split at hw
  · exact ⟨_, _, _, rfl, rfl⟩
  · cases hw
-- RX12 cutFrom(I)I
theorem jX12_cutFrom : Jvm.Cond.code yX12_cutFrom cX12_cutFrom 6 (some .int) ∈ qm_all := List.mem_filter.mpr ⟨by decide +kernel, rfl⟩
theorem iX12_cutFrom : Jvm.Cond.instanceMethod yX12_cutFrom ∈ qm_all ∧ Jvm.Cond.selects yX12_cutFrom.cls yX12_cutFrom yX12_cutFrom ∈ qm_all := ⟨List.mem_filter.mpr ⟨by decide +kernel, rfl⟩, List.mem_filter.mpr ⟨by decide +kernel, rfl⟩⟩
def wX12_cutFrom : qm_C := fun vs h => match vs with
  | [.inr (.inr (some (0, 12, p0))), .inl p1] => (qX12_cutFrom p0 p1 h).map qm_Gi
  | _ => none
def aX12_cutFrom : List (Option (Instr × Nat)) := [some (.aload_n 0, 1), some (.iconst 0, 1), some (.invokevirtual 452, 3), none, none, some (.istore_n 2, 1), some (.iconst 1, 1), some (.aload_n 0, 1), some (.getfield 436, 3), none, none, some (.ishl, 1), some (.iconst 1, 1), some (.isub, 1), some (.istore_n 3, 1), some (.iconst (-1), 1), some (.istore 4, 2), none, some (.iconst 0, 1), some (.istore 5, 2), none, some (.iload 5, 2), none, some (.iload_n 1, 1), some (.if_icmp .gt 90, 3), none, none, some (.iload_n 3, 1), some (.iconst 1, 1), some (.iload 5, 2), none, some (.ishl, 1), some (.iconst (-1), 1), some (.ixor, 1), some (.iand, 1), some (.istore_n 3, 1), some (.iconst 0, 1), some (.istore 4, 2), none, some (.aload_n 0, 1), some (.getfield 72, 3), none, none, some (.iconst 0, 1), some (.dup2, 1), some (.iaload, 1), some (.iconst 1, 1), some (.iload 5, 2), none, some (.ishl, 1), some (.ior, 1), some (.iastore, 1), some (.aload_n 0, 1), some (.iconst 0, 1), some (.invokevirtual 448, 3), none, none, some (.aload_n 0, 1), some (.getfield 75, 3), none, none, some (.iload_n 3, 1), some (.iaload, 1), some (.iload_n 2, 1), some (.if_icmp .eq 44, 3), none, none, some (.aload_n 0, 1), some (.getfield 72, 3), none, none, some (.iload 4, 2), none, some (.dup2, 1), some (.iaload, 1), some (.iconst 1, 1), some (.iload 5, 2), none, some (.ishl, 1), some (.iconst (-1), 1), some (.ixor, 1), some (.iand, 1), some (.iastore, 1), some (.iinc 4 1, 3), none, none, some (.aload_n 0, 1), some (.getfield 72, 3), none, none, some (.iload 4, 2), none, some (.dup2, 1), some (.iaload, 1), some (.iconst 1, 1), some (.iload 5, 2), none, some (.ishl, 1), some (.ior, 1), some (.iastore, 1), some (.aload_n 0, 1), some (.iconst 0, 1), some (.invokevirtual 448, 3), none, none, some (.goto (-48), 3), none, none, some (.iinc 5 1, 3), none, none, some (.goto (-90), 3), none, none, some (.iload 4, 2), none, some (.ireturn, 1)]
theorem aX12_cutFrom_ok : qm_tabok cX12_cutFrom aX12_cutFrom = true := by decide +kernel
def mX12_cutFrom : qm_M := ((some .int), (fun k => qm_lk k pfRX12), (fun k => qm_lk k pcRX12), (fun k => qm_lk k [(448, 0, 2, wX12_findCosts), (452, 0, 2, wX12_costAll)]), qm_tab aX12_cutFrom)
set_option maxRecDepth 20000 in
set_option maxHeartbeats 2000000 in
theorem rX12_cutFrom_57 {K21 : Nat → Int32 → Int32 → Int32 → Int32 → Int32 → qm_H → Option (Int32 × qm_H)} (H21 : ∀ {a0 : Nat} {x1 : Int32} {x2 : Int32} {x3 : Int32} {x4 : Int32} {x5 : Int32} {h : qm_H} {r : Int32 × qm_H}, K21 a0 x1 x2 x3 x4 x5 h = some r → qm_Ret mX12_cutFrom (21, [some (qm_r 0 12 a0), some (qm_i x1), some (qm_i x2), some (qm_i x3), some (qm_i x4), some (qm_i x5)], [], h) (qm_Gi r)) : ∀ {fuel : Nat} {a0 : Nat} {x1 : Int32} {x2 : Int32} {x3 : Int32} {x4 : Int32} {x5 : Int32} {h : qm_H} {r : Int32 × qm_H}, qX12_cutFrom_57 K21 fuel a0 x1 x2 x3 x4 x5 h = some r → qm_Ret mX12_cutFrom (57, [some (qm_r 0 12 a0), some (qm_i x1), some (qm_i x2), some (qm_i x3), some (qm_i x4), some (qm_i x5)], [], h) (qm_Gi r) := by
  intro fuel
  induction fuel with
  | zero => intros; rename_i ho; cases ho
  | succ n ih =>
    intro a0 x1 x2 x3 x4 x5 h r ho
    unfold qX12_cutFrom_57 at ho
    refine qm_Ret.sts 3 (f' := (62, [some (qm_r 0 12 a0), some (qm_i x1), some (qm_i x2), some (qm_i x3), some (qm_i x4), some (qm_i x5)], [qm_i x3, qm_r 1 1792 (a0 + 22)], h)) rfl ?_
    obtain ⟨hg, ho⟩ := qm_ifn ho
    refine qm_Ret.gn (f1 := (63, [some (qm_r 0 12 a0), some (qm_i x1), some (qm_i x2), some (qm_i x3), some (qm_i x4), some (qm_i x5)], [qm_i (h.1 (a0 + 22) (x3).toNatClampNeg)], h)) hg rfl ?_
    refine qm_Ret.sts 1 (f' := (64, [some (qm_r 0 12 a0), some (qm_i x1), some (qm_i x2), some (qm_i x3), some (qm_i x4), some (qm_i x5)], [qm_i x2, qm_i (h.1 (a0 + 22) (x3).toNatClampNeg)], h)) rfl ?_
    refine qm_Ret.eq (t := 108) (e := 67) rfl (fun hc => ?_) (fun hc => ?_)
    · rw [if_pos hc] at ho
      refine qm_Ret.sts 2 (f' := (21, [some (qm_r 0 12 a0), some (qm_i x1), some (qm_i x2), some (qm_i x3), some (qm_i x4), some (qm_i (x5 + (1 : Int32)))], [], h)) rfl ?_
      exact H21 ho
    · rw [if_neg hc] at ho
      refine qm_Ret.sts 4 (f' := (74, [some (qm_r 0 12 a0), some (qm_i x1), some (qm_i x2), some (qm_i x3), some (qm_i x4), some (qm_i x5)], [qm_i x4, qm_r 1 6 (a0 + 21), qm_i x4, qm_r 1 6 (a0 + 21)], h)) rfl ?_
      obtain ⟨hg, ho⟩ := qm_ifn ho
      refine qm_Ret.gn (f1 := (75, [some (qm_r 0 12 a0), some (qm_i x1), some (qm_i x2), some (qm_i x3), some (qm_i x4), some (qm_i x5)], [qm_i (h.1 (a0 + 21) (x4).toNatClampNeg), qm_i x4, qm_r 1 6 (a0 + 21)], h)) hg rfl ?_
      refine qm_Ret.sts 6 (f' := (82, [some (qm_r 0 12 a0), some (qm_i x1), some (qm_i x2), some (qm_i x3), some (qm_i x4), some (qm_i x5)], [qm_i ((h.1 (a0 + 21) (x4).toNatClampNeg) &&& ((qm_ishl (1 : Int32) x5) ^^^ (-1 : Int32))), qm_i x4, qm_r 1 6 (a0 + 21)], h)) rfl ?_
      obtain ⟨hg, ho⟩ := qm_ifn ho
      refine qm_Ret.gn (f1 := (83, [some (qm_r 0 12 a0), some (qm_i x1), some (qm_i x2), some (qm_i x3), some (qm_i x4), some (qm_i x5)], [], (qm_seti h (a0 + 21) (x4).toNatClampNeg ((h.1 (a0 + 21) (x4).toNatClampNeg) &&& ((qm_ishl (1 : Int32) x5) ^^^ (-1 : Int32)))))) hg rfl ?_
      refine qm_Ret.lets (F := fun h1 => (83, [some (qm_r 0 12 a0), some (qm_i x1), some (qm_i x2), some (qm_i x3), some (qm_i x4), some (qm_i x5)], [], h1)) (G := qm_Gi) ho (fun h1 ho => ?_)
      refine qm_Ret.sts 5 (f' := (93, [some (qm_r 0 12 a0), some (qm_i x1), some (qm_i x2), some (qm_i x3), some (qm_i (x4 + (1 : Int32))), some (qm_i x5)], [qm_i (x4 + (1 : Int32)), qm_r 1 6 (a0 + 21), qm_i (x4 + (1 : Int32)), qm_r 1 6 (a0 + 21)], h1)) rfl ?_
      obtain ⟨hg, ho⟩ := qm_ifn ho
      refine qm_Ret.gn (f1 := (94, [some (qm_r 0 12 a0), some (qm_i x1), some (qm_i x2), some (qm_i x3), some (qm_i (x4 + (1 : Int32))), some (qm_i x5)], [qm_i (h1.1 (a0 + 21) (x4 + (1 : Int32)).toNatClampNeg), qm_i (x4 + (1 : Int32)), qm_r 1 6 (a0 + 21)], h1)) hg rfl ?_
      refine qm_Ret.sts 4 (f' := (99, [some (qm_r 0 12 a0), some (qm_i x1), some (qm_i x2), some (qm_i x3), some (qm_i (x4 + (1 : Int32))), some (qm_i x5)], [qm_i ((h1.1 (a0 + 21) (x4 + (1 : Int32)).toNatClampNeg) ||| (qm_ishl (1 : Int32) x5)), qm_i (x4 + (1 : Int32)), qm_r 1 6 (a0 + 21)], h1)) rfl ?_
      obtain ⟨hg, ho⟩ := qm_ifn ho
      refine qm_Ret.gn (f1 := (100, [some (qm_r 0 12 a0), some (qm_i x1), some (qm_i x2), some (qm_i x3), some (qm_i (x4 + (1 : Int32))), some (qm_i x5)], [], (qm_seti h1 (a0 + 21) (x4 + (1 : Int32)).toNatClampNeg ((h1.1 (a0 + 21) (x4 + (1 : Int32)).toNatClampNeg) ||| (qm_ishl (1 : Int32) x5))))) hg rfl ?_
      refine qm_Ret.lets (F := fun h2 => (100, [some (qm_r 0 12 a0), some (qm_i x1), some (qm_i x2), some (qm_i x3), some (qm_i (x4 + (1 : Int32))), some (qm_i x5)], [], h2)) (G := qm_Gi) ho (fun h2 ho => ?_)
      refine qm_Ret.sts 2 (f' := (102, [some (qm_r 0 12 a0), some (qm_i x1), some (qm_i x2), some (qm_i x3), some (qm_i (x4 + (1 : Int32))), some (qm_i x5)], [qm_i (0 : Int32), qm_r 0 12 a0], h2)) rfl ?_
      obtain ⟨h3, hr, ho⟩ := qm_bd ho
      refine qm_Ret.call (X := wX12_findCosts [qm_r 0 12 a0, qm_i (0 : Int32)] h2) (o1 := (none, h3)) (qm_mp (G := qm_Gv) hr) rfl ?_
      show qm_Ret _ (105, [some (qm_r 0 12 a0), some (qm_i x1), some (qm_i x2), some (qm_i x3), some (qm_i (x4 + (1 : Int32))), some (qm_i x5)], [], h3) _
      refine qm_Ret.sts 1 (f' := (57, [some (qm_r 0 12 a0), some (qm_i x1), some (qm_i x2), some (qm_i x3), some (qm_i (x4 + (1 : Int32))), some (qm_i x5)], [], h3)) rfl ?_
      exact ih ho
set_option maxRecDepth 20000 in
set_option maxHeartbeats 2000000 in
theorem rX12_cutFrom_21   : ∀ {fuel : Nat} {a0 : Nat} {x1 : Int32} {x2 : Int32} {x3 : Int32} {x4 : Int32} {x5 : Int32} {h : qm_H} {r : Int32 × qm_H}, qX12_cutFrom_21  fuel a0 x1 x2 x3 x4 x5 h = some r → qm_Ret mX12_cutFrom (21, [some (qm_r 0 12 a0), some (qm_i x1), some (qm_i x2), some (qm_i x3), some (qm_i x4), some (qm_i x5)], [], h) (qm_Gi r) := by
  intro fuel
  induction fuel with
  | zero => intros; rename_i ho; cases ho
  | succ n ih =>
    intro a0 x1 x2 x3 x4 x5 h r ho
    unfold qX12_cutFrom_21 at ho
    refine qm_Ret.sts 2 (f' := (24, [some (qm_r 0 12 a0), some (qm_i x1), some (qm_i x2), some (qm_i x3), some (qm_i x4), some (qm_i x5)], [qm_i x1, qm_i x5], h)) rfl ?_
    refine qm_Ret.gt (t := 114) (e := 27) rfl (fun hc => ?_) (fun hc => ?_)
    · rw [if_pos hc] at ho
      cases ho
      exact qm_Ret.ret 2 rfl
    · rw [if_neg hc] at ho
      refine qm_Ret.sts 7 (f' := (35, [some (qm_r 0 12 a0), some (qm_i x1), some (qm_i x2), some (qm_i x3), some (qm_i x4), some (qm_i x5)], [qm_i (x3 &&& ((qm_ishl (1 : Int32) x5) ^^^ (-1 : Int32)))], h)) rfl ?_
      refine qm_Ret.lets (F := fun v1 => (35, [some (qm_r 0 12 a0), some (qm_i x1), some (qm_i x2), some (qm_i x3), some (qm_i x4), some (qm_i x5)], [qm_i v1], h)) (G := qm_Gi) ho (fun v1 ho => ?_)
      refine qm_Ret.sts 13 (f' := (52, [some (qm_r 0 12 a0), some (qm_i x1), some (qm_i x2), some (qm_i v1), some (qm_i (0 : Int32)), some (qm_i x5)], [], (qm_seti h (a0 + 21) (0 : Int32).toNatClampNeg ((h.1 (a0 + 21) (0 : Int32).toNatClampNeg) ||| (qm_ishl (1 : Int32) x5))))) rfl ?_
      refine qm_Ret.lets (F := fun h2 => (52, [some (qm_r 0 12 a0), some (qm_i x1), some (qm_i x2), some (qm_i v1), some (qm_i (0 : Int32)), some (qm_i x5)], [], h2)) (G := qm_Gi) ho (fun h2 ho => ?_)
      refine qm_Ret.sts 2 (f' := (54, [some (qm_r 0 12 a0), some (qm_i x1), some (qm_i x2), some (qm_i v1), some (qm_i (0 : Int32)), some (qm_i x5)], [qm_i (0 : Int32), qm_r 0 12 a0], h2)) rfl ?_
      obtain ⟨h3, hr, ho⟩ := qm_bd ho
      refine qm_Ret.call (X := wX12_findCosts [qm_r 0 12 a0, qm_i (0 : Int32)] h2) (o1 := (none, h3)) (qm_mp (G := qm_Gv) hr) rfl ?_
      show qm_Ret _ (57, [some (qm_r 0 12 a0), some (qm_i x1), some (qm_i x2), some (qm_i v1), some (qm_i (0 : Int32)), some (qm_i x5)], [], h3) _
      exact rX12_cutFrom_57 (ih) ho
set_option maxRecDepth 20000 in
set_option maxHeartbeats 2000000 in
theorem rX12_cutFrom_0   {a0 : Nat} {x1 : Int32} {h : qm_H} {r : Int32 × qm_H} (ho : qX12_cutFrom  a0 x1 h = some r) : qm_Ret mX12_cutFrom (0, [some (qm_r 0 12 a0), some (qm_i x1), none, none, none, none], [], h) (qm_Gi r) := by
  unfold qX12_cutFrom at ho
  refine qm_Ret.sts 2 (f' := (2, [some (qm_r 0 12 a0), some (qm_i x1), none, none, none, none], [qm_i (0 : Int32), qm_r 0 12 a0], h)) rfl ?_
  obtain ⟨r2, h1, hr, ho⟩ := qm_b2e ho
  refine qm_Ret.call (X := wX12_costAll [qm_r 0 12 a0, qm_i (0 : Int32)] h) (o1 := (some (qm_i r2), h1)) (qm_mp (G := qm_Gi) hr) rfl ?_
  show qm_Ret _ (5, [some (qm_r 0 12 a0), some (qm_i x1), none, none, none, none], [qm_i r2], h1) _
  refine qm_Ret.sts 7 (f' := (14, [some (qm_r 0 12 a0), some (qm_i x1), some (qm_i r2), none, none, none], [qm_i ((qm_ishl (1 : Int32) (h1.1 a0 42)) - (1 : Int32))], h1)) rfl ?_
  refine qm_Ret.lets (F := fun v3 => (14, [some (qm_r 0 12 a0), some (qm_i x1), some (qm_i r2), none, none, none], [qm_i v3], h1)) (G := qm_Gi) ho (fun v3 ho => ?_)
  refine qm_Ret.sts 5 (f' := (21, [some (qm_r 0 12 a0), some (qm_i x1), some (qm_i r2), some (qm_i v3), some (qm_i (-1 : Int32)), some (qm_i (0 : Int32))], [], h1)) rfl ?_
  exact rX12_cutFrom_21 ho
theorem cX12_cutFrom_ok : ∀ q ∈ ([(448, 0, 2, wX12_findCosts), (452, 0, 2, wX12_costAll)] : List (Nat × Nat × Nat × qm_C)), qm_CallOK RX12 4 93 q.2.1 q.1 q.2.2.1 q.2.2.2 := List.forall_mem_cons.mpr ⟨Or.inl ⟨yX12_findCosts, cX12_findCosts, 8, none, 2, 44, _, sX12_findCosts, ⟨by decide, by decide⟩, ⟨jX12_findCosts, kRX12_448, uRX12⟩, ⟨by decide, by decide, rfl⟩, Or.inl ⟨rfl, rfl, iX12_findCosts, recvX12_findCosts⟩⟩, List.forall_mem_cons.mpr ⟨Or.inl ⟨yX12_costAll, cX12_costAll, 3, (some .int), 3, 71, _, sX12_costAll, ⟨by decide, by decide⟩, ⟨jX12_costAll, kRX12_452, uRX12⟩, ⟨by decide, by decide, rfl⟩, Or.inl ⟨rfl, rfl, iX12_costAll, recvX12_costAll⟩⟩, fun _ h => absurd h List.not_mem_nil⟩⟩
theorem sX12_cutFrom : qm_Snd yX12_cutFrom cX12_cutFrom 6 (some .int) 4 93 wX12_cutFrom := qm_met (fld := fun k => qm_lk k pfRX12) (con := fun k => qm_lk k pcRX12) (call := fun k => qm_lk k [(448, 0, 2, wX12_findCosts), (452, 0, 2, wX12_costAll)]) (tab := qm_tab aX12_cutFrom) (plainFor_of_name (by decide)) (qm_fld_ok pfRX12_ok) (qm_con_ok pcRX12_ok) (fun idx kd n f hc => cX12_cutFrom_ok (idx, kd, n, f) (qm_lk_mem hc)) (qm_tab_ok aX12_cutFrom_ok) (fun vs h o hw => by
  unfold wX12_cutFrom at hw
  split at hw
  · obtain ⟨r, hr, rfl⟩ := Option.map_eq_some_iff.mp hw
    exact ⟨Nat.le_of_ble_eq_true rfl, rX12_cutFrom_0 (hr)⟩
  · cases hw)
theorem recvX12_cutFrom : ∀ vs h o, wX12_cutFrom vs h = some o → ∃ ci a rest, vs = qm_r 0 ci a :: rest ∧ qm_R ci = yX12_cutFrom.cls := by
  intro vs h o hw
  unfold wX12_cutFrom at hw
  split at hw
  · exact ⟨_, _, _, rfl, rfl⟩
  · cases hw
-- RX12 longest()I
theorem jX12_longest : Jvm.Cond.code yX12_longest cX12_longest 3 (some .int) ∈ qm_all := List.mem_filter.mpr ⟨by decide +kernel, rfl⟩
theorem iX12_longest : Jvm.Cond.instanceMethod yX12_longest ∈ qm_all ∧ Jvm.Cond.selects yX12_longest.cls yX12_longest yX12_longest ∈ qm_all := ⟨List.mem_filter.mpr ⟨by decide +kernel, rfl⟩, List.mem_filter.mpr ⟨by decide +kernel, rfl⟩⟩
def wX12_longest : qm_C := fun vs h => match vs with
  | [.inr (.inr (some (0, 12, p0)))] => (qX12_longest p0 h).map qm_Gi
  | _ => none
def aX12_longest : List (Option (Instr × Nat)) := [some (.iconst 0, 1), some (.istore_n 1, 1), some (.aload_n 0, 1), some (.iconst 0, 1), some (.invokevirtual 452, 3), none, none, some (.pop, 1), some (.iconst 0, 1), some (.istore_n 2, 1), some (.iload_n 2, 1), some (.iconst 1, 1), some (.aload_n 0, 1), some (.getfield 436, 3), none, none, some (.ishl, 1), some (.if_icmp .ge 34, 3), none, none, some (.aload_n 0, 1), some (.getfield 75, 3), none, none, some (.iload_n 2, 1), some (.iaload, 1), some (.ldc_w 390, 3), none, none, some (.if_icmp .ge 14, 3), none, none, some (.iload_n 1, 1), some (.iload_n 2, 1), some (.invokestatic 285, 3), none, none, some (.invokestatic 161, 3), none, none, some (.goto 4, 3), none, none, some (.iload_n 1, 1), some (.istore_n 1, 1), some (.iinc 2 1, 3), none, none, some (.goto (-38), 3), none, none, some (.iload_n 1, 1), some (.ireturn, 1)]
theorem aX12_longest_ok : qm_tabok cX12_longest aX12_longest = true := by decide +kernel
def mX12_longest : qm_M := ((some .int), (fun k => qm_lk k pfRX12), (fun k => qm_lk k pcRX12), (fun k => qm_lk k [(285, 2, 1, wX12_ones), (161, 2, 2, wX12_greater), (452, 0, 2, wX12_costAll)]), qm_tab aX12_longest)
set_option maxRecDepth 20000 in
set_option maxHeartbeats 2000000 in
theorem rX12_longest_10   : ∀ {fuel : Nat} {a0 : Nat} {x1 : Int32} {x2 : Int32} {h : qm_H} {r : Int32 × qm_H}, qX12_longest_10  fuel a0 x1 x2 h = some r → qm_Ret mX12_longest (10, [some (qm_r 0 12 a0), some (qm_i x1), some (qm_i x2)], [], h) (qm_Gi r) := by
  intro fuel
  induction fuel with
  | zero => intros; rename_i ho; cases ho
  | succ n ih =>
    intro a0 x1 x2 h r ho
    unfold qX12_longest_10 at ho
    refine qm_Ret.sts 5 (f' := (17, [some (qm_r 0 12 a0), some (qm_i x1), some (qm_i x2)], [qm_i (qm_ishl (1 : Int32) (h.1 a0 42)), qm_i x2], h)) rfl ?_
    refine qm_Ret.ge (t := 51) (e := 20) rfl (fun hc => ?_) (fun hc => ?_)
    · rw [if_pos hc] at ho
      refine qm_Ret.sts 3 (f' := (25, [some (qm_r 0 12 a0), some (qm_i x1), some (qm_i x2)], [qm_i x2, qm_r 1 1792 (a0 + 22)], h)) rfl ?_
      obtain ⟨hg, ho⟩ := qm_ifn ho
      refine qm_Ret.gn (f1 := (26, [some (qm_r 0 12 a0), some (qm_i x1), some (qm_i x2)], [qm_i (h.1 (a0 + 22) (x2).toNatClampNeg)], h)) hg rfl ?_
      refine qm_Ret.sts 1 (f' := (29, [some (qm_r 0 12 a0), some (qm_i x1), some (qm_i x2)], [qm_i (1000000 : Int32), qm_i (h.1 (a0 + 22) (x2).toNatClampNeg)], h)) rfl ?_
      refine qm_Ret.ge (t := 43) (e := 32) rfl (fun hc => ?_) (fun hc => ?_)
      · rw [if_pos hc] at ho
        refine qm_Ret.sts 2 (f' := (34, [some (qm_r 0 12 a0), some (qm_i x1), some (qm_i x2)], [qm_i x2, qm_i x1], h)) rfl ?_
        obtain ⟨r2, h1, hr, ho⟩ := qm_b2e ho
        refine qm_Ret.call (X := wX12_ones [qm_i x2] h) (o1 := (some (qm_i r2), h1)) (qm_mp (G := qm_Gi) hr) rfl ?_
        show qm_Ret _ (37, [some (qm_r 0 12 a0), some (qm_i x1), some (qm_i x2)], [qm_i r2, qm_i x1], h1) _
        obtain ⟨r4, h3, hr, ho⟩ := qm_b2e ho
        refine qm_Ret.call (X := wX12_greater [qm_i x1, qm_i r2] h1) (o1 := (some (qm_i r4), h3)) (qm_mp (G := qm_Gi) hr) rfl ?_
        show qm_Ret _ (40, [some (qm_r 0 12 a0), some (qm_i x1), some (qm_i x2)], [qm_i r4], h3) _
        refine qm_Ret.sts 4 (f' := (10, [some (qm_r 0 12 a0), some (qm_i r4), some (qm_i (x2 + (1 : Int32)))], [], h3)) rfl ?_
        exact ih ho
      · rw [if_neg hc] at ho
        refine qm_Ret.sts 4 (f' := (10, [some (qm_r 0 12 a0), some (qm_i x1), some (qm_i (x2 + (1 : Int32)))], [], h)) rfl ?_
        exact ih ho
    · rw [if_neg hc] at ho
      cases ho
      exact qm_Ret.ret 2 rfl
set_option maxRecDepth 20000 in
set_option maxHeartbeats 2000000 in
theorem rX12_longest_0   {a0 : Nat} {h : qm_H} {r : Int32 × qm_H} (ho : qX12_longest  a0 h = some r) : qm_Ret mX12_longest (0, [some (qm_r 0 12 a0), none, none], [], h) (qm_Gi r) := by
  unfold qX12_longest at ho
  refine qm_Ret.sts 4 (f' := (4, [some (qm_r 0 12 a0), some (qm_i (0 : Int32)), none], [qm_i (0 : Int32), qm_r 0 12 a0], h)) rfl ?_
  obtain ⟨r2, h1, hr, ho⟩ := qm_b2e ho
  refine qm_Ret.call (X := wX12_costAll [qm_r 0 12 a0, qm_i (0 : Int32)] h) (o1 := (some (qm_i r2), h1)) (qm_mp (G := qm_Gi) hr) rfl ?_
  show qm_Ret _ (7, [some (qm_r 0 12 a0), some (qm_i (0 : Int32)), none], [qm_i r2], h1) _
  refine qm_Ret.sts 3 (f' := (10, [some (qm_r 0 12 a0), some (qm_i (0 : Int32)), some (qm_i (0 : Int32))], [], h1)) rfl ?_
  exact rX12_longest_10 ho
theorem cX12_longest_ok : ∀ q ∈ ([(285, 2, 1, wX12_ones), (161, 2, 2, wX12_greater), (452, 0, 2, wX12_costAll)] : List (Nat × Nat × Nat × qm_C)), qm_CallOK RX12 4 93 q.2.1 q.1 q.2.2.1 q.2.2.2 := List.forall_mem_cons.mpr ⟨Or.inl ⟨yX12_ones, cX12_ones, 3, (some .int), 1, 21, _, sX12_ones, ⟨by decide, by decide⟩, ⟨jX12_ones, kRX12_285, uRX12⟩, ⟨by decide, by decide, rfl⟩, Or.inr (Or.inl ⟨rfl, rfl, iX12_ones⟩)⟩, List.forall_mem_cons.mpr ⟨Or.inl ⟨yX12_greater, cX12_greater, 2, (some .int), 0, 0, _, sX12_greater, ⟨by decide, by decide⟩, ⟨jX12_greater, kRX12_161, uRX12⟩, ⟨by decide, by decide, rfl⟩, Or.inr (Or.inl ⟨rfl, rfl, iX12_greater⟩)⟩, List.forall_mem_cons.mpr ⟨Or.inl ⟨yX12_costAll, cX12_costAll, 3, (some .int), 3, 71, _, sX12_costAll, ⟨by decide, by decide⟩, ⟨jX12_costAll, kRX12_452, uRX12⟩, ⟨by decide, by decide, rfl⟩, Or.inl ⟨rfl, rfl, iX12_costAll, recvX12_costAll⟩⟩, fun _ h => absurd h List.not_mem_nil⟩⟩⟩
theorem sX12_longest : qm_Snd yX12_longest cX12_longest 3 (some .int) 4 93 wX12_longest := qm_met (fld := fun k => qm_lk k pfRX12) (con := fun k => qm_lk k pcRX12) (call := fun k => qm_lk k [(285, 2, 1, wX12_ones), (161, 2, 2, wX12_greater), (452, 0, 2, wX12_costAll)]) (tab := qm_tab aX12_longest) (plainFor_of_name (by decide)) (qm_fld_ok pfRX12_ok) (qm_con_ok pcRX12_ok) (fun idx kd n f hc => cX12_longest_ok (idx, kd, n, f) (qm_lk_mem hc)) (qm_tab_ok aX12_longest_ok) (fun vs h o hw => by
  unfold wX12_longest at hw
  split at hw
  · obtain ⟨r, hr, rfl⟩ := Option.map_eq_some_iff.mp hw
    exact ⟨Nat.le_of_ble_eq_true rfl, rX12_longest_0 (hr)⟩
  · cases hw)
theorem recvX12_longest : ∀ vs h o, wX12_longest vs h = some o → ∃ ci a rest, vs = qm_r 0 ci a :: rest ∧ qm_R ci = yX12_longest.cls := by
  intro vs h o hw
  unfold wX12_longest at hw
  split at hw
  · exact ⟨_, _, _, rfl, rfl⟩
  · cases hw
-- RX12 cutting(II)I
theorem jX12_cutting : Jvm.Cond.code yX12_cutting cX12_cutting 4 (some .int) ∈ qm_all := List.mem_filter.mpr ⟨by decide +kernel, rfl⟩
theorem iX12_cutting : Jvm.Cond.instanceMethod yX12_cutting ∈ qm_all ∧ Jvm.Cond.selects yX12_cutting.cls yX12_cutting yX12_cutting ∈ qm_all := ⟨List.mem_filter.mpr ⟨by decide +kernel, rfl⟩, List.mem_filter.mpr ⟨by decide +kernel, rfl⟩⟩
def wX12_cutting : qm_C := fun vs h => match vs with
  | [.inr (.inr (some (0, 12, p0))), .inl p1, .inl p2] => (qX12_cutting p0 p1 p2 h).map qm_Gi
  | _ => none
def aX12_cutting : List (Option (Instr × Nat)) := [some (.aload_n 0, 1), some (.iconst 0, 1), some (.putfield 88, 3), none, none, some (.aload_n 0, 1), some (.iload_n 1, 1), some (.invokevirtual 439, 3), none, none, some (.ifCond .eq 18, 3), none, none, some (.iload_n 2, 1), some (.bipush (-3), 2), none, some (.aload_n 0, 1), some (.getfield 436, 3), none, none, some (.iconst 1, 1), some (.isub, 1), some (.invokestatic 100, 3), none, none, some (.ifCond .ne 5, 3), none, none, some (.iconst (-1), 1), some (.ireturn, 1), some (.iload_n 2, 1), some (.bipush (-3), 2), none, some (.if_icmp .ne 8, 3), none, none, some (.aload_n 0, 1), some (.invokevirtual 456, 3), none, none, some (.ireturn, 1), some (.aload_n 0, 1), some (.iload_n 2, 1), some (.bipush (-2), 2), none, some (.if_icmp .ne 7, 3), none, none, some (.iconst 1, 1), some (.goto 4, 3), none, none, some (.iconst 0, 1), some (.invokevirtual 452, 3), none, none, some (.istore_n 3, 1), some (.iload_n 3, 1), some (.ldc_w 390, 3), none, none, some (.if_icmp .lt 5, 3), none, none, some (.iconst (-1), 1), some (.ireturn, 1), some (.iload_n 2, 1), some (.iconst (-1), 1), some (.if_icmp .ne 7, 3), none, none, some (.iload_n 3, 1), some (.goto 31, 3), none, none, some (.iload_n 2, 1), some (.bipush (-2), 2), none, some (.if_icmp .ne 20, 3), none, none, some (.iload_n 3, 1), some (.aload_n 0, 1), some (.iconst 1, 1), some (.aload_n 0, 1), some (.getfield 436, 3), none, none, some (.ishl, 1), some (.iconst 1, 1), some (.isub, 1), some (.invokevirtual 445, 3), none, none, some (.isub, 1), some (.goto 8, 3), none, none, some (.aload_n 0, 1), some (.iload_n 2, 1), some (.invokevirtual 459, 3), none, none, some (.ireturn, 1)]
theorem aX12_cutting_ok : qm_tabok cX12_cutting aX12_cutting = true := by decide +kernel
def mX12_cutting : qm_M := ((some .int), (fun k => qm_lk k pfRX12), (fun k => qm_lk k pcRX12), (fun k => qm_lk k [(452, 0, 2, wX12_costAll), (459, 0, 2, wX12_cutFrom), (445, 0, 2, wX12_sumOf), (439, 0, 2, wX12_hasParish), (100, 2, 3, wX12_in), (456, 0, 1, wX12_longest)]), qm_tab aX12_cutting)
set_option maxRecDepth 20000 in
set_option maxHeartbeats 2000000 in
theorem rX12_cutting_53   {a0 : Nat} {x2 : Int32} {xs0 : Int32} {as1 : Nat} {xd1 : Int32} {h : qm_H} {r : Int32 × qm_H} (ho : qX12_cutting_53  a0 x2 xs0 as1 h = some r) : qm_Ret mX12_cutting (53, [some (qm_r 0 12 a0), some (qm_i xd1), some (qm_i x2), none], [qm_i xs0, qm_r 0 12 as1], h) (qm_Gi r) := by
  unfold qX12_cutting_53 at ho
  obtain ⟨r2, h1, hr, ho⟩ := qm_b2e ho
  refine qm_Ret.call (X := wX12_costAll [qm_r 0 12 as1, qm_i xs0] h) (o1 := (some (qm_i r2), h1)) (qm_mp (G := qm_Gi) hr) rfl ?_
  show qm_Ret _ (56, [some (qm_r 0 12 a0), some (qm_i xd1), some (qm_i x2), none], [qm_i r2], h1) _
  refine qm_Ret.sts 3 (f' := (61, [some (qm_r 0 12 a0), some (qm_i xd1), some (qm_i x2), some (qm_i r2)], [qm_i (1000000 : Int32), qm_i r2], h1)) rfl ?_
  refine qm_Ret.lt (t := 66) (e := 64) rfl (fun hc => ?_) (fun hc => ?_)
  · rw [if_pos hc] at ho
    refine qm_Ret.sts 2 (f' := (68, [some (qm_r 0 12 a0), some (qm_i xd1), some (qm_i x2), some (qm_i r2)], [qm_i (-1 : Int32), qm_i x2], h1)) rfl ?_
    refine qm_Ret.ne (t := 75) (e := 71) rfl (fun hc => ?_) (fun hc => ?_)
    · rw [if_pos hc] at ho
      cases ho
      exact qm_Ret.ret 3 rfl
    · rw [if_neg hc] at ho
      refine qm_Ret.sts 2 (f' := (78, [some (qm_r 0 12 a0), some (qm_i xd1), some (qm_i x2), some (qm_i r2)], [qm_i (-2 : Int32), qm_i x2], h1)) rfl ?_
      refine qm_Ret.ne (t := 98) (e := 81) rfl (fun hc => ?_) (fun hc => ?_)
      · rw [if_pos hc] at ho
        refine qm_Ret.sts 8 (f' := (91, [some (qm_r 0 12 a0), some (qm_i xd1), some (qm_i x2), some (qm_i r2)], [qm_i ((qm_ishl (1 : Int32) (h1.1 a0 42)) - (1 : Int32)), qm_r 0 12 a0, qm_i r2], h1)) rfl ?_
        obtain ⟨r6, h5, hr, ho⟩ := qm_b2e ho
        refine qm_Ret.call (X := wX12_sumOf [qm_r 0 12 a0, qm_i ((qm_ishl (1 : Int32) (h1.1 a0 42)) - (1 : Int32))] h1) (o1 := (some (qm_i r6), h5)) (qm_mp (G := qm_Gi) hr) rfl ?_
        show qm_Ret _ (94, [some (qm_r 0 12 a0), some (qm_i xd1), some (qm_i x2), some (qm_i r2)], [qm_i r6, qm_i r2], h5) _
        cases ho
        exact qm_Ret.ret 3 rfl
      · rw [if_neg hc] at ho
        refine qm_Ret.sts 2 (f' := (100, [some (qm_r 0 12 a0), some (qm_i xd1), some (qm_i x2), some (qm_i r2)], [qm_i x2, qm_r 0 12 a0], h1)) rfl ?_
        obtain ⟨r4, h3, hr, ho⟩ := qm_b2e ho
        refine qm_Ret.call (X := wX12_cutFrom [qm_r 0 12 a0, qm_i x2] h1) (o1 := (some (qm_i r4), h3)) (qm_mp (G := qm_Gi) hr) rfl ?_
        show qm_Ret _ (103, [some (qm_r 0 12 a0), some (qm_i xd1), some (qm_i x2), some (qm_i r2)], [qm_i r4], h3) _
        cases ho
        exact qm_Ret.ret 1 rfl
  · rw [if_neg hc] at ho
    cases ho
    exact qm_Ret.ret 2 rfl
set_option maxRecDepth 20000 in
set_option maxHeartbeats 2000000 in
theorem rX12_cutting_0   {a0 : Nat} {x1 : Int32} {x2 : Int32} {h : qm_H} {r : Int32 × qm_H} (ho : qX12_cutting  a0 x1 x2 h = some r) : qm_Ret mX12_cutting (0, [some (qm_r 0 12 a0), some (qm_i x1), some (qm_i x2), none], [], h) (qm_Gi r) := by
  unfold qX12_cutting at ho
  refine qm_Ret.sts 3 (f' := (5, [some (qm_r 0 12 a0), some (qm_i x1), some (qm_i x2), none], [], (qm_seti h a0 0 (0 : Int32)))) rfl ?_
  refine qm_Ret.lets (F := fun h1 => (5, [some (qm_r 0 12 a0), some (qm_i x1), some (qm_i x2), none], [], h1)) (G := qm_Gi) ho (fun h1 ho => ?_)
  refine qm_Ret.sts 2 (f' := (7, [some (qm_r 0 12 a0), some (qm_i x1), some (qm_i x2), none], [qm_i x1, qm_r 0 12 a0], h1)) rfl ?_
  obtain ⟨r3, h2, hr, ho⟩ := qm_b2e ho
  refine qm_Ret.call (X := wX12_hasParish [qm_r 0 12 a0, qm_i x1] h1) (o1 := (some (qm_i r3), h2)) (qm_mp (G := qm_Gi) hr) rfl ?_
  show qm_Ret _ (10, [some (qm_r 0 12 a0), some (qm_i x1), some (qm_i x2), none], [qm_i r3], h2) _
  refine qm_Ret.eq (t := 28) (e := 13) rfl (fun hc => ?_) (fun hc => ?_)
  · rw [if_pos hc] at ho
    cases ho
    exact qm_Ret.ret 2 rfl
  · rw [if_neg hc] at ho
    refine qm_Ret.sts 6 (f' := (22, [some (qm_r 0 12 a0), some (qm_i x1), some (qm_i x2), none], [qm_i ((h2.1 a0 42) - (1 : Int32)), qm_i (-3 : Int32), qm_i x2], h2)) rfl ?_
    obtain ⟨r5, h4, hr, ho⟩ := qm_b2e ho
    refine qm_Ret.call (X := wX12_in [qm_i x2, qm_i (-3 : Int32), qm_i ((h2.1 a0 42) - (1 : Int32))] h2) (o1 := (some (qm_i r5), h4)) (qm_mp (G := qm_Gi) hr) rfl ?_
    show qm_Ret _ (25, [some (qm_r 0 12 a0), some (qm_i x1), some (qm_i x2), none], [qm_i r5], h4) _
    refine qm_Ret.ne (t := 30) (e := 28) rfl (fun hc => ?_) (fun hc => ?_)
    · rw [if_pos hc] at ho
      cases ho
      exact qm_Ret.ret 2 rfl
    · rw [if_neg hc] at ho
      refine qm_Ret.sts 2 (f' := (33, [some (qm_r 0 12 a0), some (qm_i x1), some (qm_i x2), none], [qm_i (-3 : Int32), qm_i x2], h4)) rfl ?_
      refine qm_Ret.ne (t := 41) (e := 36) rfl (fun hc => ?_) (fun hc => ?_)
      · rw [if_pos hc] at ho
        refine qm_Ret.sts 1 (f' := (37, [some (qm_r 0 12 a0), some (qm_i x1), some (qm_i x2), none], [qm_r 0 12 a0], h4)) rfl ?_
        obtain ⟨r7, h6, hr, ho⟩ := qm_b2e ho
        refine qm_Ret.call (X := wX12_longest [qm_r 0 12 a0] h4) (o1 := (some (qm_i r7), h6)) (qm_mp (G := qm_Gi) hr) rfl ?_
        show qm_Ret _ (40, [some (qm_r 0 12 a0), some (qm_i x1), some (qm_i x2), none], [qm_i r7], h6) _
        cases ho
        exact qm_Ret.ret 1 rfl
      · rw [if_neg hc] at ho
        refine qm_Ret.sts 3 (f' := (45, [some (qm_r 0 12 a0), some (qm_i x1), some (qm_i x2), none], [qm_i (-2 : Int32), qm_i x2, qm_r 0 12 a0], h4)) rfl ?_
        refine qm_Ret.ne (t := 52) (e := 48) rfl (fun hc => ?_) (fun hc => ?_)
        · rw [if_pos hc] at ho
          refine qm_Ret.sts 2 (f' := (53, [some (qm_r 0 12 a0), some (qm_i x1), some (qm_i x2), none], [qm_i (1 : Int32), qm_r 0 12 a0], h4)) rfl ?_
          exact rX12_cutting_53 ho
        · rw [if_neg hc] at ho
          refine qm_Ret.sts 1 (f' := (53, [some (qm_r 0 12 a0), some (qm_i x1), some (qm_i x2), none], [qm_i (0 : Int32), qm_r 0 12 a0], h4)) rfl ?_
          exact rX12_cutting_53 ho
theorem cX12_cutting_ok : ∀ q ∈ ([(452, 0, 2, wX12_costAll), (459, 0, 2, wX12_cutFrom), (445, 0, 2, wX12_sumOf), (439, 0, 2, wX12_hasParish), (100, 2, 3, wX12_in), (456, 0, 1, wX12_longest)] : List (Nat × Nat × Nat × qm_C)), qm_CallOK RX12 5 118 q.2.1 q.1 q.2.2.1 q.2.2.2 := List.forall_mem_cons.mpr ⟨Or.inl ⟨yX12_costAll, cX12_costAll, 3, (some .int), 3, 71, _, sX12_costAll, ⟨by decide, by decide⟩, ⟨jX12_costAll, kRX12_452, uRX12⟩, ⟨by decide, by decide, rfl⟩, Or.inl ⟨rfl, rfl, iX12_costAll, recvX12_costAll⟩⟩, List.forall_mem_cons.mpr ⟨Or.inl ⟨yX12_cutFrom, cX12_cutFrom, 6, (some .int), 4, 93, _, sX12_cutFrom, ⟨by decide, by decide⟩, ⟨jX12_cutFrom, kRX12_459, uRX12⟩, ⟨by decide, by decide, rfl⟩, Or.inl ⟨rfl, rfl, iX12_cutFrom, recvX12_cutFrom⟩⟩, List.forall_mem_cons.mpr ⟨Or.inl ⟨yX12_sumOf, cX12_sumOf, 4, (some .int), 1, 21, _, sX12_sumOf, ⟨by decide, by decide⟩, ⟨jX12_sumOf, kRX12_445, uRX12⟩, ⟨by decide, by decide, rfl⟩, Or.inl ⟨rfl, rfl, iX12_sumOf, recvX12_sumOf⟩⟩, List.forall_mem_cons.mpr ⟨Or.inl ⟨yX12_hasParish, cX12_hasParish, 2, (some .boolean), 2, 44, _, sX12_hasParish, ⟨by decide, by decide⟩, ⟨jX12_hasParish, kRX12_439, uRX12⟩, ⟨by decide, by decide, rfl⟩, Or.inl ⟨rfl, rfl, iX12_hasParish, recvX12_hasParish⟩⟩, List.forall_mem_cons.mpr ⟨Or.inl ⟨yX12_in, cX12_in, 3, (some .boolean), 0, 0, _, sX12_in, ⟨by decide, by decide⟩, ⟨jX12_in, kRX12_100, uRX12⟩, ⟨by decide, by decide, rfl⟩, Or.inr (Or.inl ⟨rfl, rfl, iX12_in⟩)⟩, List.forall_mem_cons.mpr ⟨Or.inl ⟨yX12_longest, cX12_longest, 3, (some .int), 4, 93, _, sX12_longest, ⟨by decide, by decide⟩, ⟨jX12_longest, kRX12_456, uRX12⟩, ⟨by decide, by decide, rfl⟩, Or.inl ⟨rfl, rfl, iX12_longest, recvX12_longest⟩⟩, fun _ h => absurd h List.not_mem_nil⟩⟩⟩⟩⟩⟩
theorem sX12_cutting : qm_Snd yX12_cutting cX12_cutting 4 (some .int) 5 118 wX12_cutting := qm_met (fld := fun k => qm_lk k pfRX12) (con := fun k => qm_lk k pcRX12) (call := fun k => qm_lk k [(452, 0, 2, wX12_costAll), (459, 0, 2, wX12_cutFrom), (445, 0, 2, wX12_sumOf), (439, 0, 2, wX12_hasParish), (100, 2, 3, wX12_in), (456, 0, 1, wX12_longest)]) (tab := qm_tab aX12_cutting) (plainFor_of_name (by decide)) (qm_fld_ok pfRX12_ok) (qm_con_ok pcRX12_ok) (fun idx kd n f hc => cX12_cutting_ok (idx, kd, n, f) (qm_lk_mem hc)) (qm_tab_ok aX12_cutting_ok) (fun vs h o hw => by
  unfold wX12_cutting at hw
  split at hw
  · obtain ⟨r, hr, rfl⟩ := Option.map_eq_some_iff.mp hw
    exact ⟨Nat.le_of_ble_eq_true rfl, rX12_cutting_0 (hr)⟩
  · cases hw)
theorem recvX12_cutting : ∀ vs h o, wX12_cutting vs h = some o → ∃ ci a rest, vs = qm_r 0 ci a :: rest ∧ qm_R ci = yX12_cutting.cls := by
  intro vs h o hw
  unfold wX12_cutting at hw
  split at hw
  · exact ⟨_, _, _, rfl, rfl⟩
  · cases hw
-- RX12 isWon(Z)Z
theorem jX12_isWon : Jvm.Cond.code yX12_isWon cX12_isWon 6 (some .boolean) ∈ qm_all := List.mem_filter.mpr ⟨by decide +kernel, rfl⟩
theorem iX12_isWon : Jvm.Cond.instanceMethod yX12_isWon ∈ qm_all ∧ Jvm.Cond.selects yX12_isWon.cls yX12_isWon yX12_isWon ∈ qm_all := ⟨List.mem_filter.mpr ⟨by decide +kernel, rfl⟩, List.mem_filter.mpr ⟨by decide +kernel, rfl⟩⟩
def wX12_isWon : qm_C := fun vs h => match vs with
  | [.inr (.inr (some (0, 12, p0))), .inl p1] => (qX12_isWon p0 p1 h).map qm_Gi
  | _ => none
def aX12_isWon : List (Option (Instr × Nat)) := [some (.iconst 0, 1), some (.istore_n 2, 1), some (.iconst 0, 1), some (.istore_n 3, 1), some (.iconst 0, 1), some (.istore 4, 2), none, some (.iload 4, 2), none, some (.aload_n 0, 1), some (.getfield 433, 3), none, none, some (.if_icmp .ge 38, 3), none, none, some (.aload_n 0, 1), some (.getfield 78, 3), none, none, some (.iload 4, 2), none, some (.iaload, 1), some (.aload_n 0, 1), some (.iconst 2, 1), some (.invokevirtual 430, 3), none, none, some (.iconst 1, 1), some (.iadd, 1), some (.irem, 1), some (.istore 5, 2), none, some (.iload_n 2, 1), some (.iload 5, 2), none, some (.ixor, 1), some (.istore_n 2, 1), some (.iload_n 3, 1), some (.iload 5, 2), none, some (.invokestatic 161, 3), none, none, some (.istore_n 3, 1), some (.iinc 4 1, 3), none, none, some (.goto (-41), 3), none, none, some (.iload_n 1, 1), some (.ifCond .eq 20, 3), none, none, some (.iload_n 3, 1), some (.iconst 2, 1), some (.if_icmp .ge 15, 3), none, none, some (.iload_n 2, 1), some (.ifCond .ne 7, 3), none, none, some (.iconst 1, 1), some (.goto 16, 3), none, none, some (.iconst 0, 1), some (.goto 12, 3), none, none, some (.iload_n 2, 1), some (.ifCond .eq 7, 3), none, none, some (.iconst 1, 1), some (.goto 4, 3), none, none, some (.iconst 0, 1), some (.ireturn, 1)]
theorem aX12_isWon_ok : qm_tabok cX12_isWon aX12_isWon = true := by decide +kernel
def mX12_isWon : qm_M := ((some .boolean), (fun k => qm_lk k pfRX12), (fun k => qm_lk k pcRX12), (fun k => qm_lk k [(430, 0, 2, wX12_parishOf), (161, 2, 2, wX12_greater)]), qm_tab aX12_isWon)
set_option maxRecDepth 20000 in
set_option maxHeartbeats 2000000 in
theorem rX12_isWon_7   : ∀ {fuel : Nat} {a0 : Nat} {x1 : Int32} {x2 : Int32} {x3 : Int32} {x4 : Int32} {d5 : Option qm_V} {h : qm_H} {r : Int32 × qm_H}, qX12_isWon_7  fuel a0 x1 x2 x3 x4 h = some r → qm_Ret mX12_isWon (7, [some (qm_r 0 12 a0), some (qm_i x1), some (qm_i x2), some (qm_i x3), some (qm_i x4), d5], [], h) (qm_Gi r) := by
  intro fuel
  induction fuel with
  | zero => intros; rename_i ho; cases ho
  | succ n ih =>
    intro a0 x1 x2 x3 x4 d5 h r ho
    unfold qX12_isWon_7 at ho
    refine qm_Ret.sts 3 (f' := (13, [some (qm_r 0 12 a0), some (qm_i x1), some (qm_i x2), some (qm_i x3), some (qm_i x4), d5], [qm_i (h.1 a0 41), qm_i x4], h)) rfl ?_
    refine qm_Ret.ge (t := 51) (e := 16) rfl (fun hc => ?_) (fun hc => ?_)
    · rw [if_pos hc] at ho
      refine qm_Ret.sts 3 (f' := (22, [some (qm_r 0 12 a0), some (qm_i x1), some (qm_i x2), some (qm_i x3), some (qm_i x4), d5], [qm_i x4, qm_r 1 6 (a0 + 23)], h)) rfl ?_
      obtain ⟨hg, ho⟩ := qm_ifn ho
      refine qm_Ret.gn (f1 := (23, [some (qm_r 0 12 a0), some (qm_i x1), some (qm_i x2), some (qm_i x3), some (qm_i x4), d5], [qm_i (h.1 (a0 + 23) (x4).toNatClampNeg)], h)) hg rfl ?_
      refine qm_Ret.sts 2 (f' := (25, [some (qm_r 0 12 a0), some (qm_i x1), some (qm_i x2), some (qm_i x3), some (qm_i x4), d5], [qm_i (2 : Int32), qm_r 0 12 a0, qm_i (h.1 (a0 + 23) (x4).toNatClampNeg)], h)) rfl ?_
      obtain ⟨r2, h1, hr, ho⟩ := qm_b2e ho
      refine qm_Ret.call (X := wX12_parishOf [qm_r 0 12 a0, qm_i (2 : Int32)] h) (o1 := (some (qm_i r2), h1)) (qm_mp (G := qm_Gi) hr) rfl ?_
      show qm_Ret _ (28, [some (qm_r 0 12 a0), some (qm_i x1), some (qm_i x2), some (qm_i x3), some (qm_i x4), d5], [qm_i r2, qm_i (h.1 (a0 + 23) (x4).toNatClampNeg)], h1) _
      refine qm_Ret.sts 2 (f' := (30, [some (qm_r 0 12 a0), some (qm_i x1), some (qm_i x2), some (qm_i x3), some (qm_i x4), d5], [qm_i (r2 + (1 : Int32)), qm_i (h.1 (a0 + 23) (x4).toNatClampNeg)], h1)) rfl ?_
      obtain ⟨hg, ho⟩ := qm_ifn ho
      refine qm_Ret.gn (f1 := (31, [some (qm_r 0 12 a0), some (qm_i x1), some (qm_i x2), some (qm_i x3), some (qm_i x4), d5], [qm_i (qm_irem (h.1 (a0 + 23) (x4).toNatClampNeg) (r2 + (1 : Int32)))], h1)) hg rfl ?_
      refine qm_Ret.lets (F := fun v3 => (31, [some (qm_r 0 12 a0), some (qm_i x1), some (qm_i x2), some (qm_i x3), some (qm_i x4), d5], [qm_i v3], h1)) (G := qm_Gi) ho (fun v3 ho => ?_)
      refine qm_Ret.sts 7 (f' := (41, [some (qm_r 0 12 a0), some (qm_i x1), some (qm_i (x2 ^^^ v3)), some (qm_i x3), some (qm_i x4), some (qm_i v3)], [qm_i v3, qm_i x3], h1)) rfl ?_
      obtain ⟨r5, h4, hr, ho⟩ := qm_b2e ho
      refine qm_Ret.call (X := wX12_greater [qm_i x3, qm_i v3] h1) (o1 := (some (qm_i r5), h4)) (qm_mp (G := qm_Gi) hr) rfl ?_
      show qm_Ret _ (44, [some (qm_r 0 12 a0), some (qm_i x1), some (qm_i (x2 ^^^ v3)), some (qm_i x3), some (qm_i x4), some (qm_i v3)], [qm_i r5], h4) _
      refine qm_Ret.sts 3 (f' := (7, [some (qm_r 0 12 a0), some (qm_i x1), some (qm_i (x2 ^^^ v3)), some (qm_i r5), some (qm_i (x4 + (1 : Int32))), some (qm_i v3)], [], h4)) rfl ?_
      exact ih ho
    · rw [if_neg hc] at ho
      refine qm_Ret.sts 1 (f' := (52, [some (qm_r 0 12 a0), some (qm_i x1), some (qm_i x2), some (qm_i x3), some (qm_i x4), d5], [qm_i x1], h)) rfl ?_
      refine qm_Ret.eq (t := 72) (e := 55) rfl (fun hc => ?_) (fun hc => ?_)
      · rw [if_pos hc] at ho
        refine qm_Ret.sts 1 (f' := (73, [some (qm_r 0 12 a0), some (qm_i x1), some (qm_i x2), some (qm_i x3), some (qm_i x4), d5], [qm_i x2], h)) rfl ?_
        refine qm_Ret.eq (t := 80) (e := 76) rfl (fun hc => ?_) (fun hc => ?_)
        · rw [if_pos hc] at ho
          cases ho
          exact qm_Ret.ret 2 rfl
        · rw [if_neg hc] at ho
          cases ho
          exact qm_Ret.ret 3 rfl
      · rw [if_neg hc] at ho
        refine qm_Ret.sts 2 (f' := (57, [some (qm_r 0 12 a0), some (qm_i x1), some (qm_i x2), some (qm_i x3), some (qm_i x4), d5], [qm_i (2 : Int32), qm_i x3], h)) rfl ?_
        refine qm_Ret.ge (t := 72) (e := 60) rfl (fun hc => ?_) (fun hc => ?_)
        · rw [if_pos hc] at ho
          refine qm_Ret.sts 1 (f' := (61, [some (qm_r 0 12 a0), some (qm_i x1), some (qm_i x2), some (qm_i x3), some (qm_i x4), d5], [qm_i x2], h)) rfl ?_
          refine qm_Ret.ne (t := 68) (e := 64) rfl (fun hc => ?_) (fun hc => ?_)
          · rw [if_pos hc] at ho
            cases ho
            exact qm_Ret.ret 3 rfl
          · rw [if_neg hc] at ho
            cases ho
            exact qm_Ret.ret 3 rfl
        · rw [if_neg hc] at ho
          refine qm_Ret.sts 1 (f' := (73, [some (qm_r 0 12 a0), some (qm_i x1), some (qm_i x2), some (qm_i x3), some (qm_i x4), d5], [qm_i x2], h)) rfl ?_
          refine qm_Ret.eq (t := 80) (e := 76) rfl (fun hc => ?_) (fun hc => ?_)
          · rw [if_pos hc] at ho
            cases ho
            exact qm_Ret.ret 2 rfl
          · rw [if_neg hc] at ho
            cases ho
            exact qm_Ret.ret 3 rfl
set_option maxRecDepth 20000 in
set_option maxHeartbeats 2000000 in
theorem rX12_isWon_0   {a0 : Nat} {x1 : Int32} {h : qm_H} {r : Int32 × qm_H} (ho : qX12_isWon  a0 x1 h = some r) : qm_Ret mX12_isWon (0, [some (qm_r 0 12 a0), some (qm_i x1), none, none, none, none], [], h) (qm_Gi r) := by
  unfold qX12_isWon at ho
  refine qm_Ret.sts 6 (f' := (7, [some (qm_r 0 12 a0), some (qm_i x1), some (qm_i (0 : Int32)), some (qm_i (0 : Int32)), some (qm_i (0 : Int32)), none], [], h)) rfl ?_
  exact rX12_isWon_7 ho
theorem cX12_isWon_ok : ∀ q ∈ ([(430, 0, 2, wX12_parishOf), (161, 2, 2, wX12_greater)] : List (Nat × Nat × Nat × qm_C)), qm_CallOK RX12 1 21 q.2.1 q.1 q.2.2.1 q.2.2.2 := List.forall_mem_cons.mpr ⟨Or.inl ⟨yX12_parishOf, cX12_parishOf, 2, (some .int), 0, 0, _, sX12_parishOf, ⟨by decide, by decide⟩, ⟨jX12_parishOf, kRX12_430, uRX12⟩, ⟨by decide, by decide, rfl⟩, Or.inl ⟨rfl, rfl, iX12_parishOf, recvX12_parishOf⟩⟩, List.forall_mem_cons.mpr ⟨Or.inl ⟨yX12_greater, cX12_greater, 2, (some .int), 0, 0, _, sX12_greater, ⟨by decide, by decide⟩, ⟨jX12_greater, kRX12_161, uRX12⟩, ⟨by decide, by decide, rfl⟩, Or.inr (Or.inl ⟨rfl, rfl, iX12_greater⟩)⟩, fun _ h => absurd h List.not_mem_nil⟩⟩
theorem sX12_isWon : qm_Snd yX12_isWon cX12_isWon 6 (some .boolean) 1 21 wX12_isWon := qm_met (fld := fun k => qm_lk k pfRX12) (con := fun k => qm_lk k pcRX12) (call := fun k => qm_lk k [(430, 0, 2, wX12_parishOf), (161, 2, 2, wX12_greater)]) (tab := qm_tab aX12_isWon) (plainFor_of_name (by decide)) (qm_fld_ok pfRX12_ok) (qm_con_ok pcRX12_ok) (fun idx kd n f hc => cX12_isWon_ok (idx, kd, n, f) (qm_lk_mem hc)) (qm_tab_ok aX12_isWon_ok) (fun vs h o hw => by
  unfold wX12_isWon at hw
  split at hw
  · obtain ⟨r, hr, rfl⟩ := Option.map_eq_some_iff.mp hw
    exact ⟨Nat.le_of_ble_eq_true rfl, rX12_isWon_0 (hr)⟩
  · cases hw)
theorem recvX12_isWon : ∀ vs h o, wX12_isWon vs h = some o → ∃ ci a rest, vs = qm_r 0 ci a :: rest ∧ qm_R ci = yX12_isWon.cls := by
  intro vs h o hw
  unfold wX12_isWon at hw
  split at hw
  · exact ⟨_, _, _, rfl, rfl⟩
  · cases hw
