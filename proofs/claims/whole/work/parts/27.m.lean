-- RX12 readText(I)Z
theorem jX12_readText : Jvm.Cond.code yX12_readText cX12_readText 3 (some .boolean) ∈ qm_all := List.mem_filter.mpr ⟨by decide +kernel, rfl⟩
theorem iX12_readText : Jvm.Cond.instanceMethod yX12_readText ∈ qm_all ∧ Jvm.Cond.selects yX12_readText.cls yX12_readText yX12_readText ∈ qm_all := ⟨List.mem_filter.mpr ⟨by decide +kernel, rfl⟩, List.mem_filter.mpr ⟨by decide +kernel, rfl⟩⟩
def wX12_readText : qm_C := fun vs h => match vs with
  | [.inr (.inr (some (0, 12, p0))), .inl p1] => (qX12_readText p0 p1 h).map qm_Gi
  | _ => none
def aX12_readText : List (Option (Instr × Nat)) := [some (.aload_n 0, 1), some (.iload_n 1, 1), some (.invokevirtual 247, 3), none, none, some (.aload_n 0, 1), some (.iconst (-1), 1), some (.putfield 158, 3), none, none, some (.aload_n 0, 1), some (.iconst (-1), 1), some (.putfield 165, 3), none, none, some (.aload_n 0, 1), some (.iconst 0, 1), some (.putfield 108, 3), none, none, some (.aload_n 0, 1), some (.iconst 0, 1), some (.putfield 134, 3), none, none, some (.aload_n 0, 1), some (.invokevirtual 152, 3), none, none, some (.aload_n 0, 1), some (.iload_n 1, 1), some (.invokevirtual 250, 3), none, none, some (.istore_n 2, 1), some (.iload_n 2, 1), some (.ifCond .eq 54, 3), none, none, some (.aload_n 0, 1), some (.getfield 134, 3), none, none, some (.ifCond .ne 47, 3), none, none, some (.iload_n 1, 1), some (.ifCond .eq 8, 3), none, none, some (.iload_n 1, 1), some (.iconst 3, 1), some (.if_icmp .ne 38, 3), none, none, some (.aload_n 0, 1), some (.getfield 158, 3), none, none, some (.aload_n 0, 1), some (.getfield 38, 3), none, none, some (.iconst 0, 1), some (.iaload, 1), some (.if_icmp .ge 16, 3), none, none, some (.aload_n 0, 1), some (.getfield 165, 3), none, none, some (.aload_n 0, 1), some (.getfield 38, 3), none, none, some (.iconst 1, 1), some (.iaload, 1), some (.if_icmp .lt 12, 3), none, none, some (.aload_n 0, 1), some (.iconst 4, 1), some (.aload_n 0, 1), some (.getfield 118, 3), none, none, some (.invokevirtual 144, 3), none, none, some (.aload_n 0, 1), some (.getfield 17, 3), none, none, some (.iconst 0, 1), some (.iload_n 2, 1), some (.ifCond .eq 10, 3), none, none, some (.aload_n 0, 1), some (.getfield 134, 3), none, none, some (.goto 4, 3), none, none, some (.iconst 1, 1), some (.iastore, 1), some (.aload_n 0, 1), some (.getfield 20, 3), none, none, some (.iconst 0, 1), some (.iload_n 2, 1), some (.ifCond .ne 10, 3), none, none, some (.aload_n 0, 1), some (.getfield 131, 3), none, none, some (.goto 18, 3), none, none, some (.aload_n 0, 1), some (.getfield 134, 3), none, none, some (.ifCond .le 10, 3), none, none, some (.aload_n 0, 1), some (.getfield 137, 3), none, none, some (.goto 4, 3), none, none, some (.iconst (-1), 1), some (.iastore, 1), some (.aload_n 0, 1), some (.getfield 17, 3), none, none, some (.iconst 0, 1), some (.iaload, 1), some (.ifCond .ne 7, 3), none, none, some (.iconst 1, 1), some (.goto 4, 3), none, none, some (.iconst 0, 1), some (.ireturn, 1)]
theorem aX12_readText_ok : qm_tabok cX12_readText aX12_readText = true := by decide +kernel
def mX12_readText : qm_M := ((some .boolean), (fun k => qm_lk k pfRX12), (fun k => qm_lk k pcRX12), (fun k => qm_lk k [(144, 0, 3, wX12_later), (247, 0, 2, wX12_blank), (152, 0, 1, wX12_token), (250, 0, 2, wX12_lines)]), qm_tab aX12_readText)
set_option maxRecDepth 20000 in
set_option maxHeartbeats 2000000 in
theorem rX12_readText_107   {a0 : Nat} {x2 : Int32} {xs0 : Int32} {xs1 : Int32} {as2 : Nat} {xd1 : Int32} {h : qm_H} {r : Int32 × qm_H} (ho : qX12_readText_107  a0 x2 xs0 xs1 as2 h = some r) : qm_Ret mX12_readText (107, [some (qm_r 0 12 a0), some (qm_i xd1), some (qm_i x2)], [qm_i xs0, qm_i xs1, qm_r 1 4 as2], h) (qm_Gi r) := by
  unfold qX12_readText_107 at ho
  obtain ⟨hg, ho⟩ := qm_ifn ho
  refine qm_Ret.gn (f1 := (108, [some (qm_r 0 12 a0), some (qm_i xd1), some (qm_i x2)], [], (qm_seti h as2 (xs1).toNatClampNeg xs0))) hg rfl ?_
  refine qm_Ret.lets (F := fun h1 => (108, [some (qm_r 0 12 a0), some (qm_i xd1), some (qm_i x2)], [], h1)) (G := qm_Gi) ho (fun h1 ho => ?_)
  refine qm_Ret.sts 4 (f' := (114, [some (qm_r 0 12 a0), some (qm_i xd1), some (qm_i x2)], [qm_i x2, qm_i (0 : Int32), qm_r 1 4 (a0 + 4)], h1)) rfl ?_
  refine qm_Ret.ne (t := 124) (e := 117) rfl (fun hc => ?_) (fun hc => ?_)
  · rw [if_pos hc] at ho
    refine qm_Ret.sts 4 (f' := (140, [some (qm_r 0 12 a0), some (qm_i xd1), some (qm_i x2)], [], (qm_seti h1 (a0 + 4) (0 : Int32).toNatClampNeg (h1.1 a0 16)))) rfl ?_
    refine qm_Ret.lets (F := fun h4 => (140, [some (qm_r 0 12 a0), some (qm_i xd1), some (qm_i x2)], [], h4)) (G := qm_Gi) ho (fun h4 ho => ?_)
    refine qm_Ret.sts 4 (f' := (146, [some (qm_r 0 12 a0), some (qm_i xd1), some (qm_i x2)], [qm_i (h4.1 (a0 + 3) (0 : Int32).toNatClampNeg)], h4)) rfl ?_
    refine qm_Ret.ne (t := 153) (e := 149) rfl (fun hc => ?_) (fun hc => ?_)
    · rw [if_pos hc] at ho
      cases ho
      exact qm_Ret.ret 3 rfl
    · rw [if_neg hc] at ho
      cases ho
      exact qm_Ret.ret 2 rfl
  · rw [if_neg hc] at ho
    refine qm_Ret.sts 2 (f' := (128, [some (qm_r 0 12 a0), some (qm_i xd1), some (qm_i x2)], [qm_i (h1.1 a0 17), qm_i (0 : Int32), qm_r 1 4 (a0 + 4)], h1)) rfl ?_
    refine qm_Ret.le (t := 138) (e := 131) rfl (fun hc => ?_) (fun hc => ?_)
    · rw [if_pos hc] at ho
      refine qm_Ret.sts 4 (f' := (140, [some (qm_r 0 12 a0), some (qm_i xd1), some (qm_i x2)], [], (qm_seti h1 (a0 + 4) (0 : Int32).toNatClampNeg (h1.1 a0 18)))) rfl ?_
      refine qm_Ret.lets (F := fun h3 => (140, [some (qm_r 0 12 a0), some (qm_i xd1), some (qm_i x2)], [], h3)) (G := qm_Gi) ho (fun h3 ho => ?_)
      refine qm_Ret.sts 4 (f' := (146, [some (qm_r 0 12 a0), some (qm_i xd1), some (qm_i x2)], [qm_i (h3.1 (a0 + 3) (0 : Int32).toNatClampNeg)], h3)) rfl ?_
      refine qm_Ret.ne (t := 153) (e := 149) rfl (fun hc => ?_) (fun hc => ?_)
      · rw [if_pos hc] at ho
        cases ho
        exact qm_Ret.ret 3 rfl
      · rw [if_neg hc] at ho
        cases ho
        exact qm_Ret.ret 2 rfl
    · rw [if_neg hc] at ho
      refine qm_Ret.sts 2 (f' := (140, [some (qm_r 0 12 a0), some (qm_i xd1), some (qm_i x2)], [], (qm_seti h1 (a0 + 4) (0 : Int32).toNatClampNeg (-1 : Int32)))) rfl ?_
      refine qm_Ret.lets (F := fun h2 => (140, [some (qm_r 0 12 a0), some (qm_i xd1), some (qm_i x2)], [], h2)) (G := qm_Gi) ho (fun h2 ho => ?_)
      refine qm_Ret.sts 4 (f' := (146, [some (qm_r 0 12 a0), some (qm_i xd1), some (qm_i x2)], [qm_i (h2.1 (a0 + 3) (0 : Int32).toNatClampNeg)], h2)) rfl ?_
      refine qm_Ret.ne (t := 153) (e := 149) rfl (fun hc => ?_) (fun hc => ?_)
      · rw [if_pos hc] at ho
        cases ho
        exact qm_Ret.ret 3 rfl
      · rw [if_neg hc] at ho
        cases ho
        exact qm_Ret.ret 2 rfl
set_option maxRecDepth 20000 in
set_option maxHeartbeats 2000000 in
theorem rX12_readText_81   {a0 : Nat} {x2 : Int32} {xd1 : Int32} {h : qm_H} {r : Int32 × qm_H} (ho : qX12_readText_81  a0 x2 h = some r) : qm_Ret mX12_readText (81, [some (qm_r 0 12 a0), some (qm_i xd1), some (qm_i x2)], [], h) (qm_Gi r) := by
  unfold qX12_readText_81 at ho
  refine qm_Ret.sts 4 (f' := (87, [some (qm_r 0 12 a0), some (qm_i xd1), some (qm_i x2)], [qm_i (h.1 a0 12), qm_i (4 : Int32), qm_r 0 12 a0], h)) rfl ?_
  obtain ⟨h1, hr, ho⟩ := qm_bd ho
  refine qm_Ret.call (X := wX12_later [qm_r 0 12 a0, qm_i (4 : Int32), qm_i (h.1 a0 12)] h) (o1 := (none, h1)) (qm_mp (G := qm_Gv) hr) rfl ?_
  show qm_Ret _ (90, [some (qm_r 0 12 a0), some (qm_i xd1), some (qm_i x2)], [], h1) _
  refine qm_Ret.sts 4 (f' := (96, [some (qm_r 0 12 a0), some (qm_i xd1), some (qm_i x2)], [qm_i x2, qm_i (0 : Int32), qm_r 1 4 (a0 + 3)], h1)) rfl ?_
  refine qm_Ret.eq (t := 106) (e := 99) rfl (fun hc => ?_) (fun hc => ?_)
  · rw [if_pos hc] at ho
    refine qm_Ret.sts 1 (f' := (107, [some (qm_r 0 12 a0), some (qm_i xd1), some (qm_i x2)], [qm_i (1 : Int32), qm_i (0 : Int32), qm_r 1 4 (a0 + 3)], h1)) rfl ?_
    exact rX12_readText_107 ho
  · rw [if_neg hc] at ho
    refine qm_Ret.sts 3 (f' := (107, [some (qm_r 0 12 a0), some (qm_i xd1), some (qm_i x2)], [qm_i (h1.1 a0 17), qm_i (0 : Int32), qm_r 1 4 (a0 + 3)], h1)) rfl ?_
    exact rX12_readText_107 ho
set_option maxRecDepth 20000 in
set_option maxHeartbeats 2000000 in
theorem rX12_readText_55   {a0 : Nat} {x2 : Int32} {xd1 : Int32} {h : qm_H} {r : Int32 × qm_H} (ho : qX12_readText_55  a0 x2 h = some r) : qm_Ret mX12_readText (55, [some (qm_r 0 12 a0), some (qm_i xd1), some (qm_i x2)], [], h) (qm_Gi r) := by
  unfold qX12_readText_55 at ho
  refine qm_Ret.sts 6 (f' := (65, [some (qm_r 0 12 a0), some (qm_i xd1), some (qm_i x2)], [qm_i (h.1 (a0 + 10) (0 : Int32).toNatClampNeg), qm_i (h.1 a0 21)], h)) rfl ?_
  refine qm_Ret.ge (t := 81) (e := 68) rfl (fun hc => ?_) (fun hc => ?_)
  · rw [if_pos hc] at ho
    refine qm_Ret.sts 6 (f' := (78, [some (qm_r 0 12 a0), some (qm_i xd1), some (qm_i x2)], [qm_i (h.1 (a0 + 10) (1 : Int32).toNatClampNeg), qm_i (h.1 a0 22)], h)) rfl ?_
    refine qm_Ret.lt (t := 90) (e := 81) rfl (fun hc => ?_) (fun hc => ?_)
    · rw [if_pos hc] at ho
      refine qm_Ret.sts 4 (f' := (96, [some (qm_r 0 12 a0), some (qm_i xd1), some (qm_i x2)], [qm_i x2, qm_i (0 : Int32), qm_r 1 4 (a0 + 3)], h)) rfl ?_
      refine qm_Ret.eq (t := 106) (e := 99) rfl (fun hc => ?_) (fun hc => ?_)
      · rw [if_pos hc] at ho
        refine qm_Ret.sts 1 (f' := (107, [some (qm_r 0 12 a0), some (qm_i xd1), some (qm_i x2)], [qm_i (1 : Int32), qm_i (0 : Int32), qm_r 1 4 (a0 + 3)], h)) rfl ?_
        exact rX12_readText_107 ho
      · rw [if_neg hc] at ho
        refine qm_Ret.sts 3 (f' := (107, [some (qm_r 0 12 a0), some (qm_i xd1), some (qm_i x2)], [qm_i (h.1 a0 17), qm_i (0 : Int32), qm_r 1 4 (a0 + 3)], h)) rfl ?_
        exact rX12_readText_107 ho
    · rw [if_neg hc] at ho
      exact rX12_readText_81 ho
  · rw [if_neg hc] at ho
    exact rX12_readText_81 ho
set_option maxRecDepth 20000 in
set_option maxHeartbeats 2000000 in
theorem rX12_readText_0   {a0 : Nat} {x1 : Int32} {h : qm_H} {r : Int32 × qm_H} (ho : qX12_readText  a0 x1 h = some r) : qm_Ret mX12_readText (0, [some (qm_r 0 12 a0), some (qm_i x1), none], [], h) (qm_Gi r) := by
  unfold qX12_readText at ho
  refine qm_Ret.sts 2 (f' := (2, [some (qm_r 0 12 a0), some (qm_i x1), none], [qm_i x1, qm_r 0 12 a0], h)) rfl ?_
  obtain ⟨h1, hr, ho⟩ := qm_bd ho
  refine qm_Ret.call (X := wX12_blank [qm_r 0 12 a0, qm_i x1] h) (o1 := (none, h1)) (qm_mp (G := qm_Gv) hr) rfl ?_
  show qm_Ret _ (5, [some (qm_r 0 12 a0), some (qm_i x1), none], [], h1) _
  refine qm_Ret.sts 3 (f' := (10, [some (qm_r 0 12 a0), some (qm_i x1), none], [], (qm_seti h1 a0 21 (-1 : Int32)))) rfl ?_
  refine qm_Ret.lets (F := fun h2 => (10, [some (qm_r 0 12 a0), some (qm_i x1), none], [], h2)) (G := qm_Gi) ho (fun h2 ho => ?_)
  refine qm_Ret.sts 3 (f' := (15, [some (qm_r 0 12 a0), some (qm_i x1), none], [], (qm_seti h2 a0 22 (-1 : Int32)))) rfl ?_
  refine qm_Ret.lets (F := fun h3 => (15, [some (qm_r 0 12 a0), some (qm_i x1), none], [], h3)) (G := qm_Gi) ho (fun h3 ho => ?_)
  refine qm_Ret.sts 3 (f' := (20, [some (qm_r 0 12 a0), some (qm_i x1), none], [], (qm_seti h3 a0 10 (0 : Int32)))) rfl ?_
  refine qm_Ret.lets (F := fun h4 => (20, [some (qm_r 0 12 a0), some (qm_i x1), none], [], h4)) (G := qm_Gi) ho (fun h4 ho => ?_)
  refine qm_Ret.sts 3 (f' := (25, [some (qm_r 0 12 a0), some (qm_i x1), none], [], (qm_seti h4 a0 17 (0 : Int32)))) rfl ?_
  refine qm_Ret.lets (F := fun h5 => (25, [some (qm_r 0 12 a0), some (qm_i x1), none], [], h5)) (G := qm_Gi) ho (fun h5 ho => ?_)
  refine qm_Ret.sts 1 (f' := (26, [some (qm_r 0 12 a0), some (qm_i x1), none], [qm_r 0 12 a0], h5)) rfl ?_
  obtain ⟨h6, hr, ho⟩ := qm_bd ho
  refine qm_Ret.call (X := wX12_token [qm_r 0 12 a0] h5) (o1 := (none, h6)) (qm_mp (G := qm_Gv) hr) rfl ?_
  show qm_Ret _ (29, [some (qm_r 0 12 a0), some (qm_i x1), none], [], h6) _
  refine qm_Ret.sts 2 (f' := (31, [some (qm_r 0 12 a0), some (qm_i x1), none], [qm_i x1, qm_r 0 12 a0], h6)) rfl ?_
  obtain ⟨r8, h7, hr, ho⟩ := qm_b2e ho
  refine qm_Ret.call (X := wX12_lines [qm_r 0 12 a0, qm_i x1] h6) (o1 := (some (qm_i r8), h7)) (qm_mp (G := qm_Gi) hr) rfl ?_
  show qm_Ret _ (34, [some (qm_r 0 12 a0), some (qm_i x1), none], [qm_i r8], h7) _
  refine qm_Ret.sts 2 (f' := (36, [some (qm_r 0 12 a0), some (qm_i x1), some (qm_i r8)], [qm_i r8], h7)) rfl ?_
  refine qm_Ret.eq (t := 90) (e := 39) rfl (fun hc => ?_) (fun hc => ?_)
  · rw [if_pos hc] at ho
    refine qm_Ret.sts 4 (f' := (96, [some (qm_r 0 12 a0), some (qm_i x1), some (qm_i r8)], [qm_i r8, qm_i (0 : Int32), qm_r 1 4 (a0 + 3)], h7)) rfl ?_
    refine qm_Ret.eq (t := 106) (e := 99) rfl (fun hc => ?_) (fun hc => ?_)
    · rw [if_pos hc] at ho
      refine qm_Ret.sts 1 (f' := (107, [some (qm_r 0 12 a0), some (qm_i x1), some (qm_i r8)], [qm_i (1 : Int32), qm_i (0 : Int32), qm_r 1 4 (a0 + 3)], h7)) rfl ?_
      exact rX12_readText_107 ho
    · rw [if_neg hc] at ho
      refine qm_Ret.sts 3 (f' := (107, [some (qm_r 0 12 a0), some (qm_i x1), some (qm_i r8)], [qm_i (h7.1 a0 17), qm_i (0 : Int32), qm_r 1 4 (a0 + 3)], h7)) rfl ?_
      exact rX12_readText_107 ho
  · rw [if_neg hc] at ho
    refine qm_Ret.sts 2 (f' := (43, [some (qm_r 0 12 a0), some (qm_i x1), some (qm_i r8)], [qm_i (h7.1 a0 17)], h7)) rfl ?_
    refine qm_Ret.ne (t := 90) (e := 46) rfl (fun hc => ?_) (fun hc => ?_)
    · rw [if_pos hc] at ho
      refine qm_Ret.sts 1 (f' := (47, [some (qm_r 0 12 a0), some (qm_i x1), some (qm_i r8)], [qm_i x1], h7)) rfl ?_
      refine qm_Ret.eq (t := 55) (e := 50) rfl (fun hc => ?_) (fun hc => ?_)
      · rw [if_pos hc] at ho
        exact rX12_readText_55 ho
      · rw [if_neg hc] at ho
        refine qm_Ret.sts 2 (f' := (52, [some (qm_r 0 12 a0), some (qm_i x1), some (qm_i r8)], [qm_i (3 : Int32), qm_i x1], h7)) rfl ?_
        refine qm_Ret.ne (t := 90) (e := 55) rfl (fun hc => ?_) (fun hc => ?_)
        · rw [if_pos hc] at ho
          exact rX12_readText_55 ho
        · rw [if_neg hc] at ho
          refine qm_Ret.sts 4 (f' := (96, [some (qm_r 0 12 a0), some (qm_i x1), some (qm_i r8)], [qm_i r8, qm_i (0 : Int32), qm_r 1 4 (a0 + 3)], h7)) rfl ?_
          refine qm_Ret.eq (t := 106) (e := 99) rfl (fun hc => ?_) (fun hc => ?_)
          · rw [if_pos hc] at ho
            refine qm_Ret.sts 1 (f' := (107, [some (qm_r 0 12 a0), some (qm_i x1), some (qm_i r8)], [qm_i (1 : Int32), qm_i (0 : Int32), qm_r 1 4 (a0 + 3)], h7)) rfl ?_
            exact rX12_readText_107 ho
          · rw [if_neg hc] at ho
            refine qm_Ret.sts 3 (f' := (107, [some (qm_r 0 12 a0), some (qm_i x1), some (qm_i r8)], [qm_i (h7.1 a0 17), qm_i (0 : Int32), qm_r 1 4 (a0 + 3)], h7)) rfl ?_
            exact rX12_readText_107 ho
    · rw [if_neg hc] at ho
      refine qm_Ret.sts 4 (f' := (96, [some (qm_r 0 12 a0), some (qm_i x1), some (qm_i r8)], [qm_i r8, qm_i (0 : Int32), qm_r 1 4 (a0 + 3)], h7)) rfl ?_
      refine qm_Ret.eq (t := 106) (e := 99) rfl (fun hc => ?_) (fun hc => ?_)
      · rw [if_pos hc] at ho
        refine qm_Ret.sts 1 (f' := (107, [some (qm_r 0 12 a0), some (qm_i x1), some (qm_i r8)], [qm_i (1 : Int32), qm_i (0 : Int32), qm_r 1 4 (a0 + 3)], h7)) rfl ?_
        exact rX12_readText_107 ho
      · rw [if_neg hc] at ho
        refine qm_Ret.sts 3 (f' := (107, [some (qm_r 0 12 a0), some (qm_i x1), some (qm_i r8)], [qm_i (h7.1 a0 17), qm_i (0 : Int32), qm_r 1 4 (a0 + 3)], h7)) rfl ?_
        exact rX12_readText_107 ho
theorem cX12_readText_ok : ∀ q ∈ ([(144, 0, 3, wX12_later), (247, 0, 2, wX12_blank), (152, 0, 1, wX12_token), (250, 0, 2, wX12_lines)] : List (Nat × Nat × Nat × qm_C)), qm_CallOK RX12 8 177 q.2.1 q.1 q.2.2.1 q.2.2.2 := List.forall_mem_cons.mpr ⟨Or.inl ⟨yX12_later, cX12_later, 3, none, 0, 0, _, sX12_later, ⟨by decide, by decide⟩, ⟨jX12_later, kRX12_144, uRX12⟩, ⟨by decide, by decide, rfl⟩, Or.inl ⟨rfl, rfl, iX12_later, recvX12_later⟩⟩, List.forall_mem_cons.mpr ⟨Or.inl ⟨yX12_blank, cX12_blank, 3, none, 1, 22, _, sX12_blank, ⟨by decide, by decide⟩, ⟨jX12_blank, kRX12_247, uRX12⟩, ⟨by decide, by decide, rfl⟩, Or.inl ⟨rfl, rfl, iX12_blank, recvX12_blank⟩⟩, List.forall_mem_cons.mpr ⟨Or.inl ⟨yX12_token, cX12_token, 3, none, 1, 22, _, sX12_token, ⟨by decide, by decide⟩, ⟨jX12_token, kRX12_152, uRX12⟩, ⟨by decide, by decide, rfl⟩, Or.inl ⟨rfl, rfl, iX12_token, recvX12_token⟩⟩, List.forall_mem_cons.mpr ⟨Or.inl ⟨yX12_lines, cX12_lines, 4, (some .boolean), 7, 154, _, sX12_lines, ⟨by decide, by decide⟩, ⟨jX12_lines, kRX12_250, uRX12⟩, ⟨by decide, by decide, rfl⟩, Or.inl ⟨rfl, rfl, iX12_lines, recvX12_lines⟩⟩, fun _ h => absurd h List.not_mem_nil⟩⟩⟩⟩
theorem sX12_readText : qm_Snd yX12_readText cX12_readText 3 (some .boolean) 8 177 wX12_readText := qm_met (fld := fun k => qm_lk k pfRX12) (con := fun k => qm_lk k pcRX12) (call := fun k => qm_lk k [(144, 0, 3, wX12_later), (247, 0, 2, wX12_blank), (152, 0, 1, wX12_token), (250, 0, 2, wX12_lines)]) (tab := qm_tab aX12_readText) (plainFor_of_name (by decide)) (qm_fld_ok pfRX12_ok) (qm_con_ok pcRX12_ok) (fun idx kd n f hc => cX12_readText_ok (idx, kd, n, f) (qm_lk_mem hc)) (qm_tab_ok aX12_readText_ok) (fun vs h o hw => by
  unfold wX12_readText at hw
  split at hw
  · obtain ⟨r, hr, rfl⟩ := Option.map_eq_some_iff.mp hw
    exact ⟨Nat.le_of_ble_eq_true rfl, rX12_readText_0 (hr)⟩
  · cases hw)
theorem recvX12_readText : ∀ vs h o, wX12_readText vs h = some o → ∃ ci a rest, vs = qm_r 0 ci a :: rest ∧ qm_R ci = yX12_readText.cls := by
  intro vs h o hw
  unfold wX12_readText at hw
  split at hw
  · exact ⟨_, _, _, rfl, rfl⟩
  · cases hw
-- RX12 store([III)V
theorem jX12_store : Jvm.Cond.code yX12_store cX12_store 5 none ∈ qm_all := List.mem_filter.mpr ⟨by decide +kernel, rfl⟩
theorem iX12_store : Jvm.Cond.instanceMethod yX12_store ∈ qm_all ∧ Jvm.Cond.selects yX12_store.cls yX12_store yX12_store ∈ qm_all := ⟨List.mem_filter.mpr ⟨by decide +kernel, rfl⟩, List.mem_filter.mpr ⟨by decide +kernel, rfl⟩⟩
def wX12_store : qm_C := fun vs h => match vs with
  | [.inr (.inr (some (0, 12, p0))), .inr (.inr (some (1, p1n, p1))), .inl p2, .inl p3] => (qX12_store p0 p1n p1 p2 p3 h).map qm_Gv
  | _ => none
def aX12_store : List (Option (Instr × Nat)) := [some (.iconst 0, 1), some (.istore 4, 2), none, some (.iload 4, 2), none, some (.iload_n 2, 1), some (.if_icmp .ge 24, 3), none, none, some (.aload_n 1, 1), some (.iload_n 2, 1), some (.iload_n 3, 1), some (.imul, 1), some (.iload 4, 2), none, some (.iadd, 1), some (.aload_n 0, 1), some (.getfield 38, 3), none, none, some (.iload 4, 2), none, some (.iaload, 1), some (.iastore, 1), some (.iinc 4 1, 3), none, none, some (.goto (-24), 3), none, none, some (.return_, 1)]
theorem aX12_store_ok : qm_tabok cX12_store aX12_store = true := by decide +kernel
def mX12_store : qm_M := (none, (fun k => qm_lk k pfRX12), (fun k => qm_lk k pcRX12), (fun k => qm_lk k []), qm_tab aX12_store)
set_option maxRecDepth 20000 in
set_option maxHeartbeats 2000000 in
theorem rX12_store_3   : ∀ {fuel : Nat} {a0 : Nat} {n1 : Nat} {a1 : Nat} {x2 : Int32} {x3 : Int32} {x4 : Int32} {h : qm_H} {r : qm_H}, qX12_store_3  fuel a0 n1 a1 x2 x3 x4 h = some r → qm_Ret mX12_store (3, [some (qm_r 0 12 a0), some (qm_r 1 n1 a1), some (qm_i x2), some (qm_i x3), some (qm_i x4)], [], h) (qm_Gv r) := by
  intro fuel
  induction fuel with
  | zero => intros; rename_i ho; cases ho
  | succ n ih =>
    intro a0 n1 a1 x2 x3 x4 h r ho
    unfold qX12_store_3 at ho
    refine qm_Ret.sts 2 (f' := (6, [some (qm_r 0 12 a0), some (qm_r 1 n1 a1), some (qm_i x2), some (qm_i x3), some (qm_i x4)], [qm_i x2, qm_i x4], h)) rfl ?_
    refine qm_Ret.ge (t := 30) (e := 9) rfl (fun hc => ?_) (fun hc => ?_)
    · rw [if_pos hc] at ho
      refine qm_Ret.sts 9 (f' := (22, [some (qm_r 0 12 a0), some (qm_r 1 n1 a1), some (qm_i x2), some (qm_i x3), some (qm_i x4)], [qm_i x4, qm_r 1 161 (a0 + 10), qm_i ((x2 * x3) + x4), qm_r 1 n1 a1], h)) rfl ?_
      obtain ⟨hg, ho⟩ := qm_ifn ho
      refine qm_Ret.gn (f1 := (23, [some (qm_r 0 12 a0), some (qm_r 1 n1 a1), some (qm_i x2), some (qm_i x3), some (qm_i x4)], [qm_i (h.1 (a0 + 10) (x4).toNatClampNeg), qm_i ((x2 * x3) + x4), qm_r 1 n1 a1], h)) hg rfl ?_
      obtain ⟨hg, ho⟩ := qm_ifn ho
      refine qm_Ret.gn (f1 := (24, [some (qm_r 0 12 a0), some (qm_r 1 n1 a1), some (qm_i x2), some (qm_i x3), some (qm_i x4)], [], (qm_seti h a1 ((x2 * x3) + x4).toNatClampNeg (h.1 (a0 + 10) (x4).toNatClampNeg)))) hg rfl ?_
      refine qm_Ret.lets (F := fun h1 => (24, [some (qm_r 0 12 a0), some (qm_r 1 n1 a1), some (qm_i x2), some (qm_i x3), some (qm_i x4)], [], h1)) (G := qm_Gv) ho (fun h1 ho => ?_)
      refine qm_Ret.sts 2 (f' := (3, [some (qm_r 0 12 a0), some (qm_r 1 n1 a1), some (qm_i x2), some (qm_i x3), some (qm_i (x4 + (1 : Int32)))], [], h1)) rfl ?_
      exact ih ho
    · rw [if_neg hc] at ho
      cases ho
      exact qm_Ret.ret 1 rfl
set_option maxRecDepth 20000 in
set_option maxHeartbeats 2000000 in
theorem rX12_store_0   {a0 : Nat} {n1 : Nat} {a1 : Nat} {x2 : Int32} {x3 : Int32} {h : qm_H} {r : qm_H} (ho : qX12_store  a0 n1 a1 x2 x3 h = some r) : qm_Ret mX12_store (0, [some (qm_r 0 12 a0), some (qm_r 1 n1 a1), some (qm_i x2), some (qm_i x3), none], [], h) (qm_Gv r) := by
  unfold qX12_store at ho
  refine qm_Ret.sts 2 (f' := (3, [some (qm_r 0 12 a0), some (qm_r 1 n1 a1), some (qm_i x2), some (qm_i x3), some (qm_i (0 : Int32))], [], h)) rfl ?_
  exact rX12_store_3 ho
theorem cX12_store_ok : ∀ q ∈ ([] : List (Nat × Nat × Nat × qm_C)), qm_CallOK RX12 0 0 q.2.1 q.1 q.2.2.1 q.2.2.2 := fun _ h => absurd h List.not_mem_nil
theorem sX12_store : qm_Snd yX12_store cX12_store 5 none 0 0 wX12_store := qm_met (fld := fun k => qm_lk k pfRX12) (con := fun k => qm_lk k pcRX12) (call := fun k => qm_lk k []) (tab := qm_tab aX12_store) (plainFor_of_name (by decide)) (qm_fld_ok pfRX12_ok) (qm_con_ok pcRX12_ok) (fun idx kd n f hc => cX12_store_ok (idx, kd, n, f) (qm_lk_mem hc)) (qm_tab_ok aX12_store_ok) (fun vs h o hw => by
  unfold wX12_store at hw
  split at hw
  · obtain ⟨r, hr, rfl⟩ := Option.map_eq_some_iff.mp hw
    exact ⟨Nat.le_of_ble_eq_true rfl, rX12_store_0 (hr)⟩
  · cases hw)
theorem recvX12_store : ∀ vs h o, wX12_store vs h = some o → ∃ ci a rest, vs = qm_r 0 ci a :: rest ∧ qm_R ci = yX12_store.cls := by
  intro vs h o hw
  unfold wX12_store at hw
  split at hw
  · exact ⟨_, _, _, rfl, rfl⟩
  · cases hw
-- RX12 storeAll(II)V
theorem jX12_storeAll : Jvm.Cond.code yX12_storeAll cX12_storeAll 3 none ∈ qm_all := List.mem_filter.mpr ⟨by decide +kernel, rfl⟩
theorem iX12_storeAll : Jvm.Cond.instanceMethod yX12_storeAll ∈ qm_all ∧ Jvm.Cond.selects yX12_storeAll.cls yX12_storeAll yX12_storeAll ∈ qm_all := ⟨List.mem_filter.mpr ⟨by decide +kernel, rfl⟩, List.mem_filter.mpr ⟨by decide +kernel, rfl⟩⟩
def wX12_storeAll : qm_C := fun vs h => match vs with
  | [.inr (.inr (some (0, 12, p0))), .inl p1, .inl p2] => (qX12_storeAll p0 p1 p2 h).map qm_Gv
  | _ => none
def aX12_storeAll : List (Option (Instr × Nat)) := [some (.iload_n 1, 1), some (.tableswitch 64 0 2 #[27, 39, 52], 27), none, none, none, none, none, none, none, none, none, none, none, none, none, none, none, none, none, none, none, none, none, none, none, none, none, none, some (.aload_n 0, 1), some (.aload_n 0, 1), some (.getfield 26, 3), none, none, some (.bipush 43, 2), none, some (.iload_n 2, 1), some (.invokevirtual 253, 3), none, none, some (.return_, 1), some (.aload_n 0, 1), some (.aload_n 0, 1), some (.getfield 29, 3), none, none, some (.sipush 161, 3), none, none, some (.iload_n 2, 1), some (.invokevirtual 253, 3), none, none, some (.return_, 1), some (.aload_n 0, 1), some (.aload_n 0, 1), some (.getfield 32, 3), none, none, some (.bipush 17, 2), none, some (.iload_n 2, 1), some (.invokevirtual 253, 3), none, none, some (.return_, 1), some (.aload_n 0, 1), some (.aload_n 0, 1), some (.getfield 35, 3), none, none, some (.bipush 33, 2), none, some (.iload_n 2, 1), some (.invokevirtual 253, 3), none, none, some (.return_, 1)]
theorem aX12_storeAll_ok : qm_tabok cX12_storeAll aX12_storeAll = true := by decide +kernel
def mX12_storeAll : qm_M := (none, (fun k => qm_lk k pfRX12), (fun k => qm_lk k pcRX12), (fun k => qm_lk k [(253, 0, 4, wX12_store)]), qm_tab aX12_storeAll)
set_option maxRecDepth 20000 in
set_option maxHeartbeats 2000000 in
theorem rX12_storeAll_0   {a0 : Nat} {x1 : Int32} {x2 : Int32} {h : qm_H} {r : qm_H} (ho : qX12_storeAll  a0 x1 x2 h = some r) : qm_Ret mX12_storeAll (0, [some (qm_r 0 12 a0), some (qm_i x1), some (qm_i x2)], [], h) (qm_Gv r) := by
  unfold qX12_storeAll at ho
  refine qm_Ret.sts 1 (f' := (1, [some (qm_r 0 12 a0), some (qm_i x1), some (qm_i x2)], [qm_i x1], h)) rfl ?_
  by_cases hc0 : x1 = (0 : Int32)
  · rw [if_pos hc0] at ho
    refine qm_Ret.sw (z := (0 : Int32)) (f1 := (28, [some (qm_r 0 12 a0), some (qm_i x1), some (qm_i x2)], [], h)) hc0 rfl rfl ?_
    refine qm_Ret.sts 5 (f' := (36, [some (qm_r 0 12 a0), some (qm_i x1), some (qm_i x2)], [qm_i x2, qm_i (43 : Int32), qm_r 1 344 (a0 + 6), qm_r 0 12 a0], h)) rfl ?_
    obtain ⟨h1, hr, ho⟩ := qm_bd ho
    refine qm_Ret.call (X := wX12_store [qm_r 0 12 a0, qm_r 1 344 (a0 + 6), qm_i (43 : Int32), qm_i x2] h) (o1 := (none, h1)) (qm_mp (G := qm_Gv) hr) rfl ?_
    show qm_Ret _ (39, [some (qm_r 0 12 a0), some (qm_i x1), some (qm_i x2)], [], h1) _
    cases ho
    exact qm_Ret.ret 1 rfl
  · rw [if_neg hc0] at ho
    by_cases hc1 : x1 = (1 : Int32)
    · rw [if_pos hc1] at ho
      refine qm_Ret.sw (z := (1 : Int32)) (f1 := (40, [some (qm_r 0 12 a0), some (qm_i x1), some (qm_i x2)], [], h)) hc1 rfl rfl ?_
      refine qm_Ret.sts 5 (f' := (49, [some (qm_r 0 12 a0), some (qm_i x1), some (qm_i x2)], [qm_i x2, qm_i (161 : Int32), qm_r 1 1288 (a0 + 7), qm_r 0 12 a0], h)) rfl ?_
      obtain ⟨h2, hr, ho⟩ := qm_bd ho
      refine qm_Ret.call (X := wX12_store [qm_r 0 12 a0, qm_r 1 1288 (a0 + 7), qm_i (161 : Int32), qm_i x2] h) (o1 := (none, h2)) (qm_mp (G := qm_Gv) hr) rfl ?_
      show qm_Ret _ (52, [some (qm_r 0 12 a0), some (qm_i x1), some (qm_i x2)], [], h2) _
      cases ho
      exact qm_Ret.ret 1 rfl
    · rw [if_neg hc1] at ho
      by_cases hc2 : x1 = (2 : Int32)
      · rw [if_pos hc2] at ho
        refine qm_Ret.sw (z := (2 : Int32)) (f1 := (53, [some (qm_r 0 12 a0), some (qm_i x1), some (qm_i x2)], [], h)) hc2 rfl rfl ?_
        refine qm_Ret.sts 5 (f' := (61, [some (qm_r 0 12 a0), some (qm_i x1), some (qm_i x2)], [qm_i x2, qm_i (17 : Int32), qm_r 1 136 (a0 + 8), qm_r 0 12 a0], h)) rfl ?_
        obtain ⟨h3, hr, ho⟩ := qm_bd ho
        refine qm_Ret.call (X := wX12_store [qm_r 0 12 a0, qm_r 1 136 (a0 + 8), qm_i (17 : Int32), qm_i x2] h) (o1 := (none, h3)) (qm_mp (G := qm_Gv) hr) rfl ?_
        show qm_Ret _ (64, [some (qm_r 0 12 a0), some (qm_i x1), some (qm_i x2)], [], h3) _
        cases ho
        exact qm_Ret.ret 1 rfl
      · rw [if_neg hc2] at ho
        have nhc0 := lv_neT hc0 (show (0 : Int32).toInt = 0 by decide)
        have nhc1 := lv_neT hc1 (show (1 : Int32).toInt = 1 by decide)
        have nhc2 := lv_neT hc2 (show (2 : Int32).toInt = 2 by decide)
        refine qm_Ret.swd (d := 64) (lo := 0) (hi := 2) (pc := 1) (by omega) (by decide) rfl ?_
        show qm_Ret _ (65, [some (qm_r 0 12 a0), some (qm_i x1), some (qm_i x2)], [], h) _
        refine qm_Ret.sts 5 (f' := (73, [some (qm_r 0 12 a0), some (qm_i x1), some (qm_i x2)], [qm_i x2, qm_i (33 : Int32), qm_r 1 264 (a0 + 9), qm_r 0 12 a0], h)) rfl ?_
        obtain ⟨h4, hr, ho⟩ := qm_bd ho
        refine qm_Ret.call (X := wX12_store [qm_r 0 12 a0, qm_r 1 264 (a0 + 9), qm_i (33 : Int32), qm_i x2] h) (o1 := (none, h4)) (qm_mp (G := qm_Gv) hr) rfl ?_
        show qm_Ret _ (76, [some (qm_r 0 12 a0), some (qm_i x1), some (qm_i x2)], [], h4) _
        cases ho
        exact qm_Ret.ret 1 rfl
theorem cX12_storeAll_ok : ∀ q ∈ ([(253, 0, 4, wX12_store)] : List (Nat × Nat × Nat × qm_C)), qm_CallOK RX12 1 24 q.2.1 q.1 q.2.2.1 q.2.2.2 := List.forall_mem_cons.mpr ⟨Or.inl ⟨yX12_store, cX12_store, 5, none, 0, 0, _, sX12_store, ⟨by decide, by decide⟩, ⟨jX12_store, kRX12_253, uRX12⟩, ⟨by decide, by decide, rfl⟩, Or.inl ⟨rfl, rfl, iX12_store, recvX12_store⟩⟩, fun _ h => absurd h List.not_mem_nil⟩
theorem sX12_storeAll : qm_Snd yX12_storeAll cX12_storeAll 3 none 1 24 wX12_storeAll := qm_met (fld := fun k => qm_lk k pfRX12) (con := fun k => qm_lk k pcRX12) (call := fun k => qm_lk k [(253, 0, 4, wX12_store)]) (tab := qm_tab aX12_storeAll) (plainFor_of_name (by decide)) (qm_fld_ok pfRX12_ok) (qm_con_ok pcRX12_ok) (fun idx kd n f hc => cX12_storeAll_ok (idx, kd, n, f) (qm_lk_mem hc)) (qm_tab_ok aX12_storeAll_ok) (fun vs h o hw => by
  unfold wX12_storeAll at hw
  split at hw
  · obtain ⟨r, hr, rfl⟩ := Option.map_eq_some_iff.mp hw
    exact ⟨Nat.le_of_ble_eq_true rfl, rX12_storeAll_0 (hr)⟩
  · cases hw)
theorem recvX12_storeAll : ∀ vs h o, wX12_storeAll vs h = some o → ∃ ci a rest, vs = qm_r 0 ci a :: rest ∧ qm_R ci = yX12_storeAll.cls := by
  intro vs h o hw
  unfold wX12_storeAll at hw
  split at hw
  · exact ⟨_, _, _, rfl, rfl⟩
  · cases hw
-- RX12 text(II)I
theorem jX12_text : Jvm.Cond.code yX12_text cX12_text 4 (some .int) ∈ qm_all := List.mem_filter.mpr ⟨by decide +kernel, rfl⟩
theorem iX12_text : Jvm.Cond.instanceMethod yX12_text ∈ qm_all ∧ Jvm.Cond.selects yX12_text.cls yX12_text yX12_text ∈ qm_all := ⟨List.mem_filter.mpr ⟨by decide +kernel, rfl⟩, List.mem_filter.mpr ⟨by decide +kernel, rfl⟩⟩
def wX12_text : qm_C := fun vs h => match vs with
  | [.inr (.inr (some (0, 12, p0))), .inl p1, .inl p2] => (qX12_text p0 p1 p2 h).map qm_Gi
  | _ => none
def aX12_text : List (Option (Instr × Nat)) := [some (.aload_n 0, 1), some (.iconst 0, 1), some (.putfield 88, 3), none, none, some (.aload_n 0, 1), some (.aload_n 0, 1), some (.getfield 13, 3), none, none, some (.iconst 0, 1), some (.iaload, 1), some (.putfield 111, 3), none, none, some (.aload_n 0, 1), some (.getfield 13, 3), none, none, some (.iconst 0, 1), some (.iconst 0, 1), some (.iastore, 1), some (.aload_n 0, 1), some (.getfield 17, 3), none, none, some (.iconst 0, 1), some (.iconst 0, 1), some (.iastore, 1), some (.aload_n 0, 1), some (.getfield 20, 3), none, none, some (.iconst 0, 1), some (.iconst (-1), 1), some (.iastore, 1), some (.iload_n 1, 1), some (.iconst 0, 1), some (.iconst 3, 1), some (.invokestatic 100, 3), none, none, some (.ifCond .eq 30, 3), none, none, some (.iload_n 2, 1), some (.iconst (-1), 1), some (.if_icmp .ne 16, 3), none, none, some (.aload_n 0, 1), some (.getfield 23, 3), none, none, some (.iload_n 1, 1), some (.iaload, 1), some (.iconst 2, 1), some (.if_icmp .ne 18, 3), none, none, some (.goto 12, 3), none, none, some (.aload_n 0, 1), some (.iload_n 1, 1), some (.iload_n 2, 1), some (.invokevirtual 257, 3), none, none, some (.ifCond .ne 6, 3), none, none, some (.bipush (-2), 2), none, some (.ireturn, 1), some (.aload_n 0, 1), some (.iload_n 1, 1), some (.invokevirtual 260, 3), none, none, some (.ifCond .ne 5, 3), none, none, some (.iconst (-1), 1), some (.ireturn, 1), some (.iload_n 2, 1), some (.iconst (-1), 1), some (.if_icmp .ne 12, 3), none, none, some (.aload_n 0, 1), some (.getfield 23, 3), none, none, some (.iload_n 1, 1), some (.iaload, 1), some (.goto 4, 3), none, none, some (.iload_n 2, 1), some (.istore_n 3, 1), some (.aload_n 0, 1), some (.getfield 23, 3), none, none, some (.iload_n 1, 1), some (.dup2, 1), some (.iaload, 1), some (.iload_n 2, 1), some (.iconst (-1), 1), some (.if_icmp .ne 7, 3), none, none, some (.iconst 1, 1), some (.goto 4, 3), none, none, some (.iconst 0, 1), some (.iadd, 1), some (.iastore, 1), some (.aload_n 0, 1), some (.iload_n 1, 1), some (.iload_n 3, 1), some (.invokevirtual 263, 3), none, none, some (.iload_n 3, 1), some (.ireturn, 1)]
theorem aX12_text_ok : qm_tabok cX12_text aX12_text = true := by decide +kernel
def mX12_text : qm_M := ((some .int), (fun k => qm_lk k pfRX12), (fun k => qm_lk k pcRX12), (fun k => qm_lk k [(263, 0, 3, wX12_storeAll), (260, 0, 2, wX12_readText), (100, 2, 3, wX12_in), (257, 0, 3, wX12_is)]), qm_tab aX12_text)
set_option maxRecDepth 20000 in
set_option maxHeartbeats 2000000 in
theorem rX12_text_118   {a0 : Nat} {x1 : Int32} {x3 : Int32} {xs0 : Int32} {xs1 : Int32} {xs2 : Int32} {as3 : Nat} {xd2 : Int32} {h : qm_H} {r : Int32 × qm_H} (ho : qX12_text_118  a0 x1 x3 xs0 xs1 xs2 as3 h = some r) : qm_Ret mX12_text (118, [some (qm_r 0 12 a0), some (qm_i x1), some (qm_i xd2), some (qm_i x3)], [qm_i xs0, qm_i xs1, qm_i xs2, qm_r 1 16 as3], h) (qm_Gi r) := by
  unfold qX12_text_118 at ho
  refine qm_Ret.sts 1 (f' := (119, [some (qm_r 0 12 a0), some (qm_i x1), some (qm_i xd2), some (qm_i x3)], [qm_i (xs1 + xs0), qm_i xs2, qm_r 1 16 as3], h)) rfl ?_
  obtain ⟨hg, ho⟩ := qm_ifn ho
  refine qm_Ret.gn (f1 := (120, [some (qm_r 0 12 a0), some (qm_i x1), some (qm_i xd2), some (qm_i x3)], [], (qm_seti h as3 (xs2).toNatClampNeg (xs1 + xs0)))) hg rfl ?_
  refine qm_Ret.lets (F := fun h1 => (120, [some (qm_r 0 12 a0), some (qm_i x1), some (qm_i xd2), some (qm_i x3)], [], h1)) (G := qm_Gi) ho (fun h1 ho => ?_)
  refine qm_Ret.sts 3 (f' := (123, [some (qm_r 0 12 a0), some (qm_i x1), some (qm_i xd2), some (qm_i x3)], [qm_i x3, qm_i x1, qm_r 0 12 a0], h1)) rfl ?_
  obtain ⟨h2, hr, ho⟩ := qm_bd ho
  refine qm_Ret.call (X := wX12_storeAll [qm_r 0 12 a0, qm_i x1, qm_i x3] h1) (o1 := (none, h2)) (qm_mp (G := qm_Gv) hr) rfl ?_
  show qm_Ret _ (126, [some (qm_r 0 12 a0), some (qm_i x1), some (qm_i xd2), some (qm_i x3)], [], h2) _
  cases ho
  exact qm_Ret.ret 2 rfl
set_option maxRecDepth 20000 in
set_option maxHeartbeats 2000000 in
theorem rX12_text_75   {a0 : Nat} {x1 : Int32} {x2 : Int32} {h : qm_H} {r : Int32 × qm_H} (ho : qX12_text_75  a0 x1 x2 h = some r) : qm_Ret mX12_text (75, [some (qm_r 0 12 a0), some (qm_i x1), some (qm_i x2), none], [], h) (qm_Gi r) := by
  unfold qX12_text_75 at ho
  refine qm_Ret.sts 2 (f' := (77, [some (qm_r 0 12 a0), some (qm_i x1), some (qm_i x2), none], [qm_i x1, qm_r 0 12 a0], h)) rfl ?_
  obtain ⟨r2, h1, hr, ho⟩ := qm_b2e ho
  refine qm_Ret.call (X := wX12_readText [qm_r 0 12 a0, qm_i x1] h) (o1 := (some (qm_i r2), h1)) (qm_mp (G := qm_Gi) hr) rfl ?_
  show qm_Ret _ (80, [some (qm_r 0 12 a0), some (qm_i x1), some (qm_i x2), none], [qm_i r2], h1) _
  refine qm_Ret.ne (t := 85) (e := 83) rfl (fun hc => ?_) (fun hc => ?_)
  · rw [if_pos hc] at ho
    cases ho
    exact qm_Ret.ret 2 rfl
  · rw [if_neg hc] at ho
    refine qm_Ret.sts 2 (f' := (87, [some (qm_r 0 12 a0), some (qm_i x1), some (qm_i x2), none], [qm_i (-1 : Int32), qm_i x2], h1)) rfl ?_
    refine qm_Ret.ne (t := 99) (e := 90) rfl (fun hc => ?_) (fun hc => ?_)
    · rw [if_pos hc] at ho
      refine qm_Ret.sts 3 (f' := (95, [some (qm_r 0 12 a0), some (qm_i x1), some (qm_i x2), none], [qm_i x1, qm_r 1 16 (a0 + 5)], h1)) rfl ?_
      obtain ⟨hg, ho⟩ := qm_ifn ho
      refine qm_Ret.gn (f1 := (96, [some (qm_r 0 12 a0), some (qm_i x1), some (qm_i x2), none], [qm_i (h1.1 (a0 + 5) (x1).toNatClampNeg)], h1)) hg rfl ?_
      refine qm_Ret.sts 1 (f' := (100, [some (qm_r 0 12 a0), some (qm_i x1), some (qm_i x2), none], [qm_i (h1.1 (a0 + 5) (x1).toNatClampNeg)], h1)) rfl ?_
      refine qm_Ret.lets (F := fun v3 => (100, [some (qm_r 0 12 a0), some (qm_i x1), some (qm_i x2), none], [qm_i v3], h1)) (G := qm_Gi) ho (fun v3 ho => ?_)
      refine qm_Ret.sts 5 (f' := (107, [some (qm_r 0 12 a0), some (qm_i x1), some (qm_i x2), some (qm_i v3)], [qm_i x1, qm_r 1 16 (a0 + 5), qm_i x1, qm_r 1 16 (a0 + 5)], h1)) rfl ?_
      obtain ⟨hg, ho⟩ := qm_ifn ho
      refine qm_Ret.gn (f1 := (108, [some (qm_r 0 12 a0), some (qm_i x1), some (qm_i x2), some (qm_i v3)], [qm_i (h1.1 (a0 + 5) (x1).toNatClampNeg), qm_i x1, qm_r 1 16 (a0 + 5)], h1)) hg rfl ?_
      refine qm_Ret.sts 2 (f' := (110, [some (qm_r 0 12 a0), some (qm_i x1), some (qm_i x2), some (qm_i v3)], [qm_i (-1 : Int32), qm_i x2, qm_i (h1.1 (a0 + 5) (x1).toNatClampNeg), qm_i x1, qm_r 1 16 (a0 + 5)], h1)) rfl ?_
      refine qm_Ret.ne (t := 117) (e := 113) rfl (fun hc => ?_) (fun hc => ?_)
      · rw [if_pos hc] at ho
        refine qm_Ret.sts 2 (f' := (118, [some (qm_r 0 12 a0), some (qm_i x1), some (qm_i x2), some (qm_i v3)], [qm_i (1 : Int32), qm_i (h1.1 (a0 + 5) (x1).toNatClampNeg), qm_i x1, qm_r 1 16 (a0 + 5)], h1)) rfl ?_
        exact rX12_text_118 ho
      · rw [if_neg hc] at ho
        refine qm_Ret.sts 1 (f' := (118, [some (qm_r 0 12 a0), some (qm_i x1), some (qm_i x2), some (qm_i v3)], [qm_i (0 : Int32), qm_i (h1.1 (a0 + 5) (x1).toNatClampNeg), qm_i x1, qm_r 1 16 (a0 + 5)], h1)) rfl ?_
        exact rX12_text_118 ho
    · rw [if_neg hc] at ho
      refine qm_Ret.sts 6 (f' := (107, [some (qm_r 0 12 a0), some (qm_i x1), some (qm_i x2), some (qm_i x2)], [qm_i x1, qm_r 1 16 (a0 + 5), qm_i x1, qm_r 1 16 (a0 + 5)], h1)) rfl ?_
      obtain ⟨hg, ho⟩ := qm_ifn ho
      refine qm_Ret.gn (f1 := (108, [some (qm_r 0 12 a0), some (qm_i x1), some (qm_i x2), some (qm_i x2)], [qm_i (h1.1 (a0 + 5) (x1).toNatClampNeg), qm_i x1, qm_r 1 16 (a0 + 5)], h1)) hg rfl ?_
      refine qm_Ret.sts 2 (f' := (110, [some (qm_r 0 12 a0), some (qm_i x1), some (qm_i x2), some (qm_i x2)], [qm_i (-1 : Int32), qm_i x2, qm_i (h1.1 (a0 + 5) (x1).toNatClampNeg), qm_i x1, qm_r 1 16 (a0 + 5)], h1)) rfl ?_
      refine qm_Ret.ne (t := 117) (e := 113) rfl (fun hc => ?_) (fun hc => ?_)
      · rw [if_pos hc] at ho
        refine qm_Ret.sts 2 (f' := (118, [some (qm_r 0 12 a0), some (qm_i x1), some (qm_i x2), some (qm_i x2)], [qm_i (1 : Int32), qm_i (h1.1 (a0 + 5) (x1).toNatClampNeg), qm_i x1, qm_r 1 16 (a0 + 5)], h1)) rfl ?_
        exact rX12_text_118 ho
      · rw [if_neg hc] at ho
        refine qm_Ret.sts 1 (f' := (118, [some (qm_r 0 12 a0), some (qm_i x1), some (qm_i x2), some (qm_i x2)], [qm_i (0 : Int32), qm_i (h1.1 (a0 + 5) (x1).toNatClampNeg), qm_i x1, qm_r 1 16 (a0 + 5)], h1)) rfl ?_
        exact rX12_text_118 ho
set_option maxRecDepth 20000 in
set_option maxHeartbeats 2000000 in
theorem rX12_text_0   {a0 : Nat} {x1 : Int32} {x2 : Int32} {h : qm_H} {r : Int32 × qm_H} (ho : qX12_text  a0 x1 x2 h = some r) : qm_Ret mX12_text (0, [some (qm_r 0 12 a0), some (qm_i x1), some (qm_i x2), none], [], h) (qm_Gi r) := by
  unfold qX12_text at ho
  refine qm_Ret.sts 3 (f' := (5, [some (qm_r 0 12 a0), some (qm_i x1), some (qm_i x2), none], [], (qm_seti h a0 0 (0 : Int32)))) rfl ?_
  refine qm_Ret.lets (F := fun h1 => (5, [some (qm_r 0 12 a0), some (qm_i x1), some (qm_i x2), none], [], h1)) (G := qm_Gi) ho (fun h1 ho => ?_)
  refine qm_Ret.sts 6 (f' := (15, [some (qm_r 0 12 a0), some (qm_i x1), some (qm_i x2), none], [], (qm_seti h1 a0 11 (h1.1 (a0 + 2) (0 : Int32).toNatClampNeg)))) rfl ?_
  refine qm_Ret.lets (F := fun h2 => (15, [some (qm_r 0 12 a0), some (qm_i x1), some (qm_i x2), none], [], h2)) (G := qm_Gi) ho (fun h2 ho => ?_)
  refine qm_Ret.sts 5 (f' := (22, [some (qm_r 0 12 a0), some (qm_i x1), some (qm_i x2), none], [], (qm_seti h2 (a0 + 2) (0 : Int32).toNatClampNeg (0 : Int32)))) rfl ?_
  refine qm_Ret.lets (F := fun h3 => (22, [some (qm_r 0 12 a0), some (qm_i x1), some (qm_i x2), none], [], h3)) (G := qm_Gi) ho (fun h3 ho => ?_)
  refine qm_Ret.sts 5 (f' := (29, [some (qm_r 0 12 a0), some (qm_i x1), some (qm_i x2), none], [], (qm_seti h3 (a0 + 3) (0 : Int32).toNatClampNeg (0 : Int32)))) rfl ?_
  refine qm_Ret.lets (F := fun h4 => (29, [some (qm_r 0 12 a0), some (qm_i x1), some (qm_i x2), none], [], h4)) (G := qm_Gi) ho (fun h4 ho => ?_)
  refine qm_Ret.sts 5 (f' := (36, [some (qm_r 0 12 a0), some (qm_i x1), some (qm_i x2), none], [], (qm_seti h4 (a0 + 4) (0 : Int32).toNatClampNeg (-1 : Int32)))) rfl ?_
  refine qm_Ret.lets (F := fun h5 => (36, [some (qm_r 0 12 a0), some (qm_i x1), some (qm_i x2), none], [], h5)) (G := qm_Gi) ho (fun h5 ho => ?_)
  refine qm_Ret.sts 3 (f' := (39, [some (qm_r 0 12 a0), some (qm_i x1), some (qm_i x2), none], [qm_i (3 : Int32), qm_i (0 : Int32), qm_i x1], h5)) rfl ?_
  obtain ⟨r7, h6, hr, ho⟩ := qm_b2e ho
  refine qm_Ret.call (X := wX12_in [qm_i x1, qm_i (0 : Int32), qm_i (3 : Int32)] h5) (o1 := (some (qm_i r7), h6)) (qm_mp (G := qm_Gi) hr) rfl ?_
  show qm_Ret _ (42, [some (qm_r 0 12 a0), some (qm_i x1), some (qm_i x2), none], [qm_i r7], h6) _
  refine qm_Ret.eq (t := 72) (e := 45) rfl (fun hc => ?_) (fun hc => ?_)
  · rw [if_pos hc] at ho
    cases ho
    exact qm_Ret.ret 2 rfl
  · rw [if_neg hc] at ho
    refine qm_Ret.sts 2 (f' := (47, [some (qm_r 0 12 a0), some (qm_i x1), some (qm_i x2), none], [qm_i (-1 : Int32), qm_i x2], h6)) rfl ?_
    refine qm_Ret.ne (t := 63) (e := 50) rfl (fun hc => ?_) (fun hc => ?_)
    · rw [if_pos hc] at ho
      refine qm_Ret.sts 3 (f' := (55, [some (qm_r 0 12 a0), some (qm_i x1), some (qm_i x2), none], [qm_i x1, qm_r 1 16 (a0 + 5)], h6)) rfl ?_
      obtain ⟨hg, ho⟩ := qm_ifn ho
      refine qm_Ret.gn (f1 := (56, [some (qm_r 0 12 a0), some (qm_i x1), some (qm_i x2), none], [qm_i (h6.1 (a0 + 5) (x1).toNatClampNeg)], h6)) hg rfl ?_
      refine qm_Ret.sts 1 (f' := (57, [some (qm_r 0 12 a0), some (qm_i x1), some (qm_i x2), none], [qm_i (2 : Int32), qm_i (h6.1 (a0 + 5) (x1).toNatClampNeg)], h6)) rfl ?_
      refine qm_Ret.ne (t := 75) (e := 60) rfl (fun hc => ?_) (fun hc => ?_)
      · rw [if_pos hc] at ho
        cases ho
        exact qm_Ret.ret 3 rfl
      · rw [if_neg hc] at ho
        exact rX12_text_75 ho
    · rw [if_neg hc] at ho
      refine qm_Ret.sts 3 (f' := (66, [some (qm_r 0 12 a0), some (qm_i x1), some (qm_i x2), none], [qm_i x2, qm_i x1, qm_r 0 12 a0], h6)) rfl ?_
      obtain ⟨r9, h8, hr, ho⟩ := qm_b2e ho
      refine qm_Ret.call (X := wX12_is [qm_r 0 12 a0, qm_i x1, qm_i x2] h6) (o1 := (some (qm_i r9), h8)) (qm_mp (G := qm_Gi) hr) rfl ?_
      show qm_Ret _ (69, [some (qm_r 0 12 a0), some (qm_i x1), some (qm_i x2), none], [qm_i r9], h8) _
      refine qm_Ret.ne (t := 75) (e := 72) rfl (fun hc => ?_) (fun hc => ?_)
      · rw [if_pos hc] at ho
        cases ho
        exact qm_Ret.ret 2 rfl
      · rw [if_neg hc] at ho
        exact rX12_text_75 ho
theorem cX12_text_ok : ∀ q ∈ ([(263, 0, 3, wX12_storeAll), (260, 0, 2, wX12_readText), (100, 2, 3, wX12_in), (257, 0, 3, wX12_is)] : List (Nat × Nat × Nat × qm_C)), qm_CallOK RX12 9 199 q.2.1 q.1 q.2.2.1 q.2.2.2 := List.forall_mem_cons.mpr ⟨Or.inl ⟨yX12_storeAll, cX12_storeAll, 3, none, 1, 24, _, sX12_storeAll, ⟨by decide, by decide⟩, ⟨jX12_storeAll, kRX12_263, uRX12⟩, ⟨by decide, by decide, rfl⟩, Or.inl ⟨rfl, rfl, iX12_storeAll, recvX12_storeAll⟩⟩, List.forall_mem_cons.mpr ⟨Or.inl ⟨yX12_readText, cX12_readText, 3, (some .boolean), 8, 177, _, sX12_readText, ⟨by decide, by decide⟩, ⟨jX12_readText, kRX12_260, uRX12⟩, ⟨by decide, by decide, rfl⟩, Or.inl ⟨rfl, rfl, iX12_readText, recvX12_readText⟩⟩, List.forall_mem_cons.mpr ⟨Or.inl ⟨yX12_in, cX12_in, 3, (some .boolean), 0, 0, _, sX12_in, ⟨by decide, by decide⟩, ⟨jX12_in, kRX12_100, uRX12⟩, ⟨by decide, by decide, rfl⟩, Or.inr (Or.inl ⟨rfl, rfl, iX12_in⟩)⟩, List.forall_mem_cons.mpr ⟨Or.inl ⟨yX12_is, cX12_is, 3, (some .boolean), 1, 22, _, sX12_is, ⟨by decide, by decide⟩, ⟨jX12_is, kRX12_257, uRX12⟩, ⟨by decide, by decide, rfl⟩, Or.inl ⟨rfl, rfl, iX12_is, recvX12_is⟩⟩, fun _ h => absurd h List.not_mem_nil⟩⟩⟩⟩
theorem sX12_text : qm_Snd yX12_text cX12_text 4 (some .int) 9 199 wX12_text := qm_met (fld := fun k => qm_lk k pfRX12) (con := fun k => qm_lk k pcRX12) (call := fun k => qm_lk k [(263, 0, 3, wX12_storeAll), (260, 0, 2, wX12_readText), (100, 2, 3, wX12_in), (257, 0, 3, wX12_is)]) (tab := qm_tab aX12_text) (plainFor_of_name (by decide)) (qm_fld_ok pfRX12_ok) (qm_con_ok pcRX12_ok) (fun idx kd n f hc => cX12_text_ok (idx, kd, n, f) (qm_lk_mem hc)) (qm_tab_ok aX12_text_ok) (fun vs h o hw => by
  unfold wX12_text at hw
  split at hw
  · obtain ⟨r, hr, rfl⟩ := Option.map_eq_some_iff.mp hw
    exact ⟨Nat.le_of_ble_eq_true rfl, rX12_text_0 (hr)⟩
  · cases hw)
theorem recvX12_text : ∀ vs h o, wX12_text vs h = some o → ∃ ci a rest, vs = qm_r 0 ci a :: rest ∧ qm_R ci = yX12_text.cls := by
  intro vs h o hw
  unfold wX12_text at hw
  split at hw
  · exact ⟨_, _, _, rfl, rfl⟩
  · cases hw
-- RX12 fault(I)I
theorem jX12_fault : Jvm.Cond.code yX12_fault cX12_fault 2 (some .int) ∈ qm_all := List.mem_filter.mpr ⟨by decide +kernel, rfl⟩
theorem iX12_fault : Jvm.Cond.instanceMethod yX12_fault ∈ qm_all ∧ Jvm.Cond.selects yX12_fault.cls yX12_fault yX12_fault ∈ qm_all := ⟨List.mem_filter.mpr ⟨by decide +kernel, rfl⟩, List.mem_filter.mpr ⟨by decide +kernel, rfl⟩⟩
def wX12_fault : qm_C := fun vs h => match vs with
  | [.inr (.inr (some (0, 12, p0))), .inl p1] => (qX12_fault p0 p1 h).map qm_Gi
  | _ => none
def aX12_fault : List (Option (Instr × Nat)) := [some (.aload_n 0, 1), some (.iconst 0, 1), some (.putfield 88, 3), none, none, some (.iload_n 1, 1), some (.ifCond .ne 12, 3), none, none, some (.aload_n 0, 1), some (.getfield 17, 3), none, none, some (.iconst 0, 1), some (.iaload, 1), some (.goto 18, 3), none, none, some (.iload_n 1, 1), some (.iconst 1, 1), some (.if_icmp .ne 12, 3), none, none, some (.aload_n 0, 1), some (.getfield 20, 3), none, none, some (.iconst 0, 1), some (.iaload, 1), some (.goto 4, 3), none, none, some (.iconst (-1), 1), some (.ireturn, 1)]
theorem aX12_fault_ok : qm_tabok cX12_fault aX12_fault = true := by decide +kernel
def mX12_fault : qm_M := ((some .int), (fun k => qm_lk k pfRX12), (fun k => qm_lk k pcRX12), (fun k => qm_lk k []), qm_tab aX12_fault)
set_option maxRecDepth 20000 in
set_option maxHeartbeats 2000000 in
theorem rX12_fault_0   {a0 : Nat} {x1 : Int32} {h : qm_H} {r : Int32 × qm_H} (ho : qX12_fault  a0 x1 h = some r) : qm_Ret mX12_fault (0, [some (qm_r 0 12 a0), some (qm_i x1)], [], h) (qm_Gi r) := by
  unfold qX12_fault at ho
  refine qm_Ret.sts 3 (f' := (5, [some (qm_r 0 12 a0), some (qm_i x1)], [], (qm_seti h a0 0 (0 : Int32)))) rfl ?_
  refine qm_Ret.lets (F := fun h1 => (5, [some (qm_r 0 12 a0), some (qm_i x1)], [], h1)) (G := qm_Gi) ho (fun h1 ho => ?_)
  refine qm_Ret.sts 1 (f' := (6, [some (qm_r 0 12 a0), some (qm_i x1)], [qm_i x1], h1)) rfl ?_
  refine qm_Ret.ne (t := 18) (e := 9) rfl (fun hc => ?_) (fun hc => ?_)
  · rw [if_pos hc] at ho
    cases ho
    exact qm_Ret.ret 6 rfl
  · rw [if_neg hc] at ho
    refine qm_Ret.sts 2 (f' := (20, [some (qm_r 0 12 a0), some (qm_i x1)], [qm_i (1 : Int32), qm_i x1], h1)) rfl ?_
    refine qm_Ret.ne (t := 32) (e := 23) rfl (fun hc => ?_) (fun hc => ?_)
    · rw [if_pos hc] at ho
      cases ho
      exact qm_Ret.ret 6 rfl
    · rw [if_neg hc] at ho
      cases ho
      exact qm_Ret.ret 2 rfl
theorem cX12_fault_ok : ∀ q ∈ ([] : List (Nat × Nat × Nat × qm_C)), qm_CallOK RX12 0 0 q.2.1 q.1 q.2.2.1 q.2.2.2 := fun _ h => absurd h List.not_mem_nil
theorem sX12_fault : qm_Snd yX12_fault cX12_fault 2 (some .int) 0 0 wX12_fault := qm_met (fld := fun k => qm_lk k pfRX12) (con := fun k => qm_lk k pcRX12) (call := fun k => qm_lk k []) (tab := qm_tab aX12_fault) (plainFor_of_name (by decide)) (qm_fld_ok pfRX12_ok) (qm_con_ok pcRX12_ok) (fun idx kd n f hc => cX12_fault_ok (idx, kd, n, f) (qm_lk_mem hc)) (qm_tab_ok aX12_fault_ok) (fun vs h o hw => by
  unfold wX12_fault at hw
  split at hw
  · obtain ⟨r, hr, rfl⟩ := Option.map_eq_some_iff.mp hw
    exact ⟨Nat.le_of_ble_eq_true rfl, rX12_fault_0 (hr)⟩
  · cases hw)
theorem recvX12_fault : ∀ vs h o, wX12_fault vs h = some o → ∃ ci a rest, vs = qm_r 0 ci a :: rest ∧ qm_R ci = yX12_fault.cls := by
  intro vs h o hw
  unfold wX12_fault at hw
  split at hw
  · exact ⟨_, _, _, rfl, rfl⟩
  · cases hw
-- RX12 of(I)I
theorem jX12_of : Jvm.Cond.code yX12_of cX12_of 2 (some .int) ∈ qm_all := List.mem_filter.mpr ⟨by decide +kernel, rfl⟩
theorem iX12_of : Jvm.Cond.instanceMethod yX12_of ∈ qm_all ∧ Jvm.Cond.selects yX12_of.cls yX12_of yX12_of ∈ qm_all := ⟨List.mem_filter.mpr ⟨by decide +kernel, rfl⟩, List.mem_filter.mpr ⟨by decide +kernel, rfl⟩⟩
def wX12_of : qm_C := fun vs h => match vs with
  | [.inr (.inr (some (0, 12, p0))), .inl p1] => (qX12_of p0 p1 h).map qm_Gi
  | _ => none
def aX12_of : List (Option (Instr × Nat)) := [some (.aload_n 0, 1), some (.getfield 26, 3), none, none, some (.bipush 43, 2), none, some (.aload_n 0, 1), some (.getfield 266, 3), none, none, some (.imul, 1), some (.iload_n 1, 1), some (.iadd, 1), some (.iaload, 1), some (.ireturn, 1)]
theorem aX12_of_ok : qm_tabok cX12_of aX12_of = true := by decide +kernel
def mX12_of : qm_M := ((some .int), (fun k => qm_lk k pfRX12), (fun k => qm_lk k pcRX12), (fun k => qm_lk k []), qm_tab aX12_of)
set_option maxRecDepth 20000 in
set_option maxHeartbeats 2000000 in
theorem rX12_of_0   {a0 : Nat} {x1 : Int32} {h : qm_H} {r : Int32 × qm_H} (ho : qX12_of  a0 x1 h = some r) : qm_Ret mX12_of (0, [some (qm_r 0 12 a0), some (qm_i x1)], [], h) (qm_Gi r) := by
  unfold qX12_of at ho
  refine qm_Ret.sts 8 (f' := (13, [some (qm_r 0 12 a0), some (qm_i x1)], [qm_i (((43 : Int32) * (h.1 a0 24)) + x1), qm_r 1 344 (a0 + 6)], h)) rfl ?_
  obtain ⟨hg, ho⟩ := qm_ifn ho
  refine qm_Ret.gn (f1 := (14, [some (qm_r 0 12 a0), some (qm_i x1)], [qm_i (h.1 (a0 + 6) (((43 : Int32) * (h.1 a0 24)) + x1).toNatClampNeg)], h)) hg rfl ?_
  cases ho
  exact qm_Ret.ret 1 rfl
theorem cX12_of_ok : ∀ q ∈ ([] : List (Nat × Nat × Nat × qm_C)), qm_CallOK RX12 0 0 q.2.1 q.1 q.2.2.1 q.2.2.2 := fun _ h => absurd h List.not_mem_nil
theorem sX12_of : qm_Snd yX12_of cX12_of 2 (some .int) 0 0 wX12_of := qm_met (fld := fun k => qm_lk k pfRX12) (con := fun k => qm_lk k pcRX12) (call := fun k => qm_lk k []) (tab := qm_tab aX12_of) (plainFor_of_name (by decide)) (qm_fld_ok pfRX12_ok) (qm_con_ok pcRX12_ok) (fun idx kd n f hc => cX12_of_ok (idx, kd, n, f) (qm_lk_mem hc)) (qm_tab_ok aX12_of_ok) (fun vs h o hw => by
  unfold wX12_of at hw
  split at hw
  · obtain ⟨r, hr, rfl⟩ := Option.map_eq_some_iff.mp hw
    exact ⟨Nat.le_of_ble_eq_true rfl, rX12_of_0 (hr)⟩
  · cases hw)
theorem recvX12_of : ∀ vs h o, wX12_of vs h = some o → ∃ ci a rest, vs = qm_r 0 ci a :: rest ∧ qm_R ci = yX12_of.cls := by
  intro vs h o hw
  unfold wX12_of at hw
  split at hw
  · exact ⟨_, _, _, rfl, rfl⟩
  · cases hw
-- RX12 hand(I)Z
theorem jX12_hand : Jvm.Cond.code yX12_hand cX12_hand 3 (some .boolean) ∈ qm_all := List.mem_filter.mpr ⟨by decide +kernel, rfl⟩
theorem iX12_hand : Jvm.Cond.instanceMethod yX12_hand ∈ qm_all ∧ Jvm.Cond.selects yX12_hand.cls yX12_hand yX12_hand ∈ qm_all := ⟨List.mem_filter.mpr ⟨by decide +kernel, rfl⟩, List.mem_filter.mpr ⟨by decide +kernel, rfl⟩⟩
def wX12_hand : qm_C := fun vs h => match vs with
  | [.inr (.inr (some (0, 12, p0))), .inl p1] => (qX12_hand p0 p1 h).map qm_Gi
  | _ => none
def aX12_hand : List (Option (Instr × Nat)) := [some (.aload_n 0, 1), some (.iconst 0, 1), some (.iload_n 1, 1), some (.invokevirtual 257, 3), none, none, some (.ifCond .ne 5, 3), none, none, some (.iconst 0, 1), some (.ireturn, 1), some (.aload_n 0, 1), some (.iload_n 1, 1), some (.putfield 266, 3), none, none, some (.aload_n 0, 1), some (.aload_n 0, 1), some (.iconst 0, 1), some (.invokevirtual 269, 3), none, none, some (.putfield 273, 3), none, none, some (.aload_n 0, 1), some (.aload_n 0, 1), some (.iconst 1, 1), some (.invokevirtual 269, 3), none, none, some (.putfield 276, 3), none, none, some (.aload_n 0, 1), some (.aload_n 0, 1), some (.getfield 273, 3), none, none, some (.aload_n 0, 1), some (.getfield 276, 3), none, none, some (.imul, 1), some (.putfield 279, 3), none, none, some (.aload_n 0, 1), some (.aload_n 0, 1), some (.iconst 2, 1), some (.invokevirtual 269, 3), none, none, some (.putfield 282, 3), none, none, some (.iconst 0, 1), some (.istore_n 2, 1), some (.iload_n 2, 1), some (.bipush 8, 2), none, some (.if_icmp .ge 84, 3), none, none, some (.aload_n 0, 1), some (.getfield 44, 3), none, none, some (.iload_n 2, 1), some (.aload_n 0, 1), some (.iconst 3, 1), some (.iload_n 2, 1), some (.iadd, 1), some (.invokevirtual 269, 3), none, none, some (.iastore, 1), some (.aload_n 0, 1), some (.getfield 47, 3), none, none, some (.iload_n 2, 1), some (.aload_n 0, 1), some (.bipush 11, 2), none, some (.iload_n 2, 1), some (.iadd, 1), some (.invokevirtual 269, 3), none, none, some (.iastore, 1), some (.aload_n 0, 1), some (.getfield 44, 3), none, none, some (.bipush 8, 2), none, some (.iload_n 2, 1), some (.iadd, 1), some (.aload_n 0, 1), some (.bipush 19, 2), none, some (.iload_n 2, 1), some (.iadd, 1), some (.invokevirtual 269, 3), none, none, some (.iastore, 1), some (.aload_n 0, 1), some (.getfield 47, 3), none, none, some (.bipush 8, 2), none, some (.iload_n 2, 1), some (.iadd, 1), some (.aload_n 0, 1), some (.bipush 27, 2), none, some (.iload_n 2, 1), some (.iadd, 1), some (.invokevirtual 269, 3), none, none, some (.iastore, 1), some (.aload_n 0, 1), some (.getfield 50, 3), none, none, some (.iload_n 2, 1), some (.aload_n 0, 1), some (.bipush 35, 2), none, some (.iload_n 2, 1), some (.iadd, 1), some (.invokevirtual 269, 3), none, none, some (.iastore, 1), some (.iinc 2 1, 3), none, none, some (.goto (-84), 3), none, none, some (.iconst 1, 1), some (.ireturn, 1)]
theorem aX12_hand_ok : qm_tabok cX12_hand aX12_hand = true := by decide +kernel
def mX12_hand : qm_M := ((some .boolean), (fun k => qm_lk k pfRX12), (fun k => qm_lk k pcRX12), (fun k => qm_lk k [(269, 0, 2, wX12_of), (257, 0, 3, wX12_is)]), qm_tab aX12_hand)
set_option maxRecDepth 20000 in
set_option maxHeartbeats 2000000 in
theorem rX12_hand_58   : ∀ {fuel : Nat} {a0 : Nat} {x2 : Int32} {xd1 : Int32} {h : qm_H} {r : Int32 × qm_H}, qX12_hand_58  fuel a0 x2 h = some r → qm_Ret mX12_hand (58, [some (qm_r 0 12 a0), some (qm_i xd1), some (qm_i x2)], [], h) (qm_Gi r) := by
  intro fuel
  induction fuel with
  | zero => intros; rename_i ho; cases ho
  | succ n ih =>
    intro a0 x2 xd1 h r ho
    unfold qX12_hand_58 at ho
    refine qm_Ret.sts 2 (f' := (61, [some (qm_r 0 12 a0), some (qm_i xd1), some (qm_i x2)], [qm_i (8 : Int32), qm_i x2], h)) rfl ?_
    refine qm_Ret.ge (t := 145) (e := 64) rfl (fun hc => ?_) (fun hc => ?_)
    · rw [if_pos hc] at ho
      refine qm_Ret.sts 7 (f' := (73, [some (qm_r 0 12 a0), some (qm_i xd1), some (qm_i x2)], [qm_i ((3 : Int32) + x2), qm_r 0 12 a0, qm_i x2, qm_r 1 16 (a0 + 12)], h)) rfl ?_
      obtain ⟨r2, h1, hr, ho⟩ := qm_b2e ho
      refine qm_Ret.call (X := wX12_of [qm_r 0 12 a0, qm_i ((3 : Int32) + x2)] h) (o1 := (some (qm_i r2), h1)) (qm_mp (G := qm_Gi) hr) rfl ?_
      show qm_Ret _ (76, [some (qm_r 0 12 a0), some (qm_i xd1), some (qm_i x2)], [qm_i r2, qm_i x2, qm_r 1 16 (a0 + 12)], h1) _
      obtain ⟨hg, ho⟩ := qm_ifn ho
      refine qm_Ret.gn (f1 := (77, [some (qm_r 0 12 a0), some (qm_i xd1), some (qm_i x2)], [], (qm_seti h1 (a0 + 12) (x2).toNatClampNeg r2))) hg rfl ?_
      refine qm_Ret.lets (F := fun h3 => (77, [some (qm_r 0 12 a0), some (qm_i xd1), some (qm_i x2)], [], h3)) (G := qm_Gi) ho (fun h3 ho => ?_)
      refine qm_Ret.sts 7 (f' := (87, [some (qm_r 0 12 a0), some (qm_i xd1), some (qm_i x2)], [qm_i ((11 : Int32) + x2), qm_r 0 12 a0, qm_i x2, qm_r 1 16 (a0 + 13)], h3)) rfl ?_
      obtain ⟨r5, h4, hr, ho⟩ := qm_b2e ho
      refine qm_Ret.call (X := wX12_of [qm_r 0 12 a0, qm_i ((11 : Int32) + x2)] h3) (o1 := (some (qm_i r5), h4)) (qm_mp (G := qm_Gi) hr) rfl ?_
      show qm_Ret _ (90, [some (qm_r 0 12 a0), some (qm_i xd1), some (qm_i x2)], [qm_i r5, qm_i x2, qm_r 1 16 (a0 + 13)], h4) _
      obtain ⟨hg, ho⟩ := qm_ifn ho
      refine qm_Ret.gn (f1 := (91, [some (qm_r 0 12 a0), some (qm_i xd1), some (qm_i x2)], [], (qm_seti h4 (a0 + 13) (x2).toNatClampNeg r5))) hg rfl ?_
      refine qm_Ret.lets (F := fun h6 => (91, [some (qm_r 0 12 a0), some (qm_i xd1), some (qm_i x2)], [], h6)) (G := qm_Gi) ho (fun h6 ho => ?_)
      refine qm_Ret.sts 9 (f' := (104, [some (qm_r 0 12 a0), some (qm_i xd1), some (qm_i x2)], [qm_i ((19 : Int32) + x2), qm_r 0 12 a0, qm_i ((8 : Int32) + x2), qm_r 1 16 (a0 + 12)], h6)) rfl ?_
      obtain ⟨r8, h7, hr, ho⟩ := qm_b2e ho
      refine qm_Ret.call (X := wX12_of [qm_r 0 12 a0, qm_i ((19 : Int32) + x2)] h6) (o1 := (some (qm_i r8), h7)) (qm_mp (G := qm_Gi) hr) rfl ?_
      show qm_Ret _ (107, [some (qm_r 0 12 a0), some (qm_i xd1), some (qm_i x2)], [qm_i r8, qm_i ((8 : Int32) + x2), qm_r 1 16 (a0 + 12)], h7) _
      obtain ⟨hg, ho⟩ := qm_ifn ho
      refine qm_Ret.gn (f1 := (108, [some (qm_r 0 12 a0), some (qm_i xd1), some (qm_i x2)], [], (qm_seti h7 (a0 + 12) ((8 : Int32) + x2).toNatClampNeg r8))) hg rfl ?_
      refine qm_Ret.lets (F := fun h9 => (108, [some (qm_r 0 12 a0), some (qm_i xd1), some (qm_i x2)], [], h9)) (G := qm_Gi) ho (fun h9 ho => ?_)
      refine qm_Ret.sts 9 (f' := (121, [some (qm_r 0 12 a0), some (qm_i xd1), some (qm_i x2)], [qm_i ((27 : Int32) + x2), qm_r 0 12 a0, qm_i ((8 : Int32) + x2), qm_r 1 16 (a0 + 13)], h9)) rfl ?_
      obtain ⟨r11, h10, hr, ho⟩ := qm_b2e ho
      refine qm_Ret.call (X := wX12_of [qm_r 0 12 a0, qm_i ((27 : Int32) + x2)] h9) (o1 := (some (qm_i r11), h10)) (qm_mp (G := qm_Gi) hr) rfl ?_
      show qm_Ret _ (124, [some (qm_r 0 12 a0), some (qm_i xd1), some (qm_i x2)], [qm_i r11, qm_i ((8 : Int32) + x2), qm_r 1 16 (a0 + 13)], h10) _
      obtain ⟨hg, ho⟩ := qm_ifn ho
      refine qm_Ret.gn (f1 := (125, [some (qm_r 0 12 a0), some (qm_i xd1), some (qm_i x2)], [], (qm_seti h10 (a0 + 13) ((8 : Int32) + x2).toNatClampNeg r11))) hg rfl ?_
      refine qm_Ret.lets (F := fun h12 => (125, [some (qm_r 0 12 a0), some (qm_i xd1), some (qm_i x2)], [], h12)) (G := qm_Gi) ho (fun h12 ho => ?_)
      refine qm_Ret.sts 7 (f' := (135, [some (qm_r 0 12 a0), some (qm_i xd1), some (qm_i x2)], [qm_i ((35 : Int32) + x2), qm_r 0 12 a0, qm_i x2, qm_r 1 8 (a0 + 14)], h12)) rfl ?_
      obtain ⟨r14, h13, hr, ho⟩ := qm_b2e ho
      refine qm_Ret.call (X := wX12_of [qm_r 0 12 a0, qm_i ((35 : Int32) + x2)] h12) (o1 := (some (qm_i r14), h13)) (qm_mp (G := qm_Gi) hr) rfl ?_
      show qm_Ret _ (138, [some (qm_r 0 12 a0), some (qm_i xd1), some (qm_i x2)], [qm_i r14, qm_i x2, qm_r 1 8 (a0 + 14)], h13) _
      obtain ⟨hg, ho⟩ := qm_ifn ho
      refine qm_Ret.gn (f1 := (139, [some (qm_r 0 12 a0), some (qm_i xd1), some (qm_i x2)], [], (qm_seti h13 (a0 + 14) (x2).toNatClampNeg r14))) hg rfl ?_
      refine qm_Ret.lets (F := fun h15 => (139, [some (qm_r 0 12 a0), some (qm_i xd1), some (qm_i x2)], [], h15)) (G := qm_Gi) ho (fun h15 ho => ?_)
      refine qm_Ret.sts 2 (f' := (58, [some (qm_r 0 12 a0), some (qm_i xd1), some (qm_i (x2 + (1 : Int32)))], [], h15)) rfl ?_
      exact ih ho
    · rw [if_neg hc] at ho
      cases ho
      exact qm_Ret.ret 2 rfl
set_option maxRecDepth 20000 in
set_option maxHeartbeats 2000000 in
theorem rX12_hand_0   {a0 : Nat} {x1 : Int32} {h : qm_H} {r : Int32 × qm_H} (ho : qX12_hand  a0 x1 h = some r) : qm_Ret mX12_hand (0, [some (qm_r 0 12 a0), some (qm_i x1), none], [], h) (qm_Gi r) := by
  unfold qX12_hand at ho
  refine qm_Ret.sts 3 (f' := (3, [some (qm_r 0 12 a0), some (qm_i x1), none], [qm_i x1, qm_i (0 : Int32), qm_r 0 12 a0], h)) rfl ?_
  obtain ⟨r2, h1, hr, ho⟩ := qm_b2e ho
  refine qm_Ret.call (X := wX12_is [qm_r 0 12 a0, qm_i (0 : Int32), qm_i x1] h) (o1 := (some (qm_i r2), h1)) (qm_mp (G := qm_Gi) hr) rfl ?_
  show qm_Ret _ (6, [some (qm_r 0 12 a0), some (qm_i x1), none], [qm_i r2], h1) _
  refine qm_Ret.ne (t := 11) (e := 9) rfl (fun hc => ?_) (fun hc => ?_)
  · rw [if_pos hc] at ho
    cases ho
    exact qm_Ret.ret 2 rfl
  · rw [if_neg hc] at ho
    refine qm_Ret.sts 6 (f' := (19, [some (qm_r 0 12 a0), some (qm_i x1), none], [qm_i (0 : Int32), qm_r 0 12 a0, qm_r 0 12 a0], (qm_seti h1 a0 24 x1))) rfl ?_
    obtain ⟨r4, h3, hr, ho⟩ := qm_b2e ho
    refine qm_Ret.call (X := wX12_of [qm_r 0 12 a0, qm_i (0 : Int32)] (qm_seti h1 a0 24 x1)) (o1 := (some (qm_i r4), h3)) (qm_mp (G := qm_Gi) hr) rfl ?_
    show qm_Ret _ (22, [some (qm_r 0 12 a0), some (qm_i x1), none], [qm_i r4, qm_r 0 12 a0], h3) _
    refine qm_Ret.sts 4 (f' := (28, [some (qm_r 0 12 a0), some (qm_i x1), none], [qm_i (1 : Int32), qm_r 0 12 a0, qm_r 0 12 a0], (qm_seti h3 a0 25 r4))) rfl ?_
    obtain ⟨r6, h5, hr, ho⟩ := qm_b2e ho
    refine qm_Ret.call (X := wX12_of [qm_r 0 12 a0, qm_i (1 : Int32)] (qm_seti h3 a0 25 r4)) (o1 := (some (qm_i r6), h5)) (qm_mp (G := qm_Gi) hr) rfl ?_
    show qm_Ret _ (31, [some (qm_r 0 12 a0), some (qm_i x1), none], [qm_i r6, qm_r 0 12 a0], h5) _
    refine qm_Ret.sts 8 (f' := (47, [some (qm_r 0 12 a0), some (qm_i x1), none], [], (qm_seti (qm_seti h5 a0 26 r6) a0 27 (((qm_seti h5 a0 26 r6).1 a0 25) * ((qm_seti h5 a0 26 r6).1 a0 26))))) rfl ?_
    refine qm_Ret.lets (F := fun h7 => (47, [some (qm_r 0 12 a0), some (qm_i x1), none], [], h7)) (G := qm_Gi) ho (fun h7 ho => ?_)
    refine qm_Ret.sts 3 (f' := (50, [some (qm_r 0 12 a0), some (qm_i x1), none], [qm_i (2 : Int32), qm_r 0 12 a0, qm_r 0 12 a0], h7)) rfl ?_
    obtain ⟨r9, h8, hr, ho⟩ := qm_b2e ho
    refine qm_Ret.call (X := wX12_of [qm_r 0 12 a0, qm_i (2 : Int32)] h7) (o1 := (some (qm_i r9), h8)) (qm_mp (G := qm_Gi) hr) rfl ?_
    show qm_Ret _ (53, [some (qm_r 0 12 a0), some (qm_i x1), none], [qm_i r9, qm_r 0 12 a0], h8) _
    refine qm_Ret.sts 3 (f' := (58, [some (qm_r 0 12 a0), some (qm_i x1), some (qm_i (0 : Int32))], [], (qm_seti h8 a0 28 r9))) rfl ?_
    exact rX12_hand_58 ho
theorem cX12_hand_ok : ∀ q ∈ ([(269, 0, 2, wX12_of), (257, 0, 3, wX12_is)] : List (Nat × Nat × Nat × qm_C)), qm_CallOK RX12 2 44 q.2.1 q.1 q.2.2.1 q.2.2.2 := List.forall_mem_cons.mpr ⟨Or.inl ⟨yX12_of, cX12_of, 2, (some .int), 0, 0, _, sX12_of, ⟨by decide, by decide⟩, ⟨jX12_of, kRX12_269, uRX12⟩, ⟨by decide, by decide, rfl⟩, Or.inl ⟨rfl, rfl, iX12_of, recvX12_of⟩⟩, List.forall_mem_cons.mpr ⟨Or.inl ⟨yX12_is, cX12_is, 3, (some .boolean), 1, 22, _, sX12_is, ⟨by decide, by decide⟩, ⟨jX12_is, kRX12_257, uRX12⟩, ⟨by decide, by decide, rfl⟩, Or.inl ⟨rfl, rfl, iX12_is, recvX12_is⟩⟩, fun _ h => absurd h List.not_mem_nil⟩⟩
theorem sX12_hand : qm_Snd yX12_hand cX12_hand 3 (some .boolean) 2 44 wX12_hand := qm_met (fld := fun k => qm_lk k pfRX12) (con := fun k => qm_lk k pcRX12) (call := fun k => qm_lk k [(269, 0, 2, wX12_of), (257, 0, 3, wX12_is)]) (tab := qm_tab aX12_hand) (plainFor_of_name (by decide)) (qm_fld_ok pfRX12_ok) (qm_con_ok pcRX12_ok) (fun idx kd n f hc => cX12_hand_ok (idx, kd, n, f) (qm_lk_mem hc)) (qm_tab_ok aX12_hand_ok) (fun vs h o hw => by
  unfold wX12_hand at hw
  split at hw
  · obtain ⟨r, hr, rfl⟩ := Option.map_eq_some_iff.mp hw
    exact ⟨Nat.le_of_ble_eq_true rfl, rX12_hand_0 (hr)⟩
  · cases hw)
theorem recvX12_hand : ∀ vs h o, wX12_hand vs h = some o → ∃ ci a rest, vs = qm_r 0 ci a :: rest ∧ qm_R ci = yX12_hand.cls := by
  intro vs h o hw
  unfold wX12_hand at hw
  split at hw
  · exact ⟨_, _, _, rfl, rfl⟩
  · cases hw
-- RX12 isCell(I)Z
theorem jX12_isCell : Jvm.Cond.code yX12_isCell cX12_isCell 2 (some .boolean) ∈ qm_all := List.mem_filter.mpr ⟨by decide +kernel, rfl⟩
theorem iX12_isCell : Jvm.Cond.instanceMethod yX12_isCell ∈ qm_all ∧ Jvm.Cond.selects yX12_isCell.cls yX12_isCell yX12_isCell ∈ qm_all := ⟨List.mem_filter.mpr ⟨by decide +kernel, rfl⟩, List.mem_filter.mpr ⟨by decide +kernel, rfl⟩⟩
def wX12_isCell : qm_C := fun vs h => match vs with
  | [.inr (.inr (some (0, 12, p0))), .inl p1] => (qX12_isCell p0 p1 h).map qm_Gi
  | _ => none
def aX12_isCell : List (Option (Instr × Nat)) := [some (.iload_n 1, 1), some (.iconst 0, 1), some (.aload_n 0, 1), some (.getfield 279, 3), none, none, some (.iconst 1, 1), some (.isub, 1), some (.invokestatic 100, 3), none, none, some (.ireturn, 1)]
theorem aX12_isCell_ok : qm_tabok cX12_isCell aX12_isCell = true := by decide +kernel
def mX12_isCell : qm_M := ((some .boolean), (fun k => qm_lk k pfRX12), (fun k => qm_lk k pcRX12), (fun k => qm_lk k [(100, 2, 3, wX12_in)]), qm_tab aX12_isCell)
set_option maxRecDepth 20000 in
set_option maxHeartbeats 2000000 in
theorem rX12_isCell_0   {a0 : Nat} {x1 : Int32} {h : qm_H} {r : Int32 × qm_H} (ho : qX12_isCell  a0 x1 h = some r) : qm_Ret mX12_isCell (0, [some (qm_r 0 12 a0), some (qm_i x1)], [], h) (qm_Gi r) := by
  unfold qX12_isCell at ho
  refine qm_Ret.sts 6 (f' := (8, [some (qm_r 0 12 a0), some (qm_i x1)], [qm_i ((h.1 a0 27) - (1 : Int32)), qm_i (0 : Int32), qm_i x1], h)) rfl ?_
  obtain ⟨r2, h1, hr, ho⟩ := qm_b2e ho
  refine qm_Ret.call (X := wX12_in [qm_i x1, qm_i (0 : Int32), qm_i ((h.1 a0 27) - (1 : Int32))] h) (o1 := (some (qm_i r2), h1)) (qm_mp (G := qm_Gi) hr) rfl ?_
  show qm_Ret _ (11, [some (qm_r 0 12 a0), some (qm_i x1)], [qm_i r2], h1) _
  obtain ⟨hz, ho⟩ := qm_if ho
  cases ho
  exact qm_Ret.gr hz rfl
theorem cX12_isCell_ok : ∀ q ∈ ([(100, 2, 3, wX12_in)] : List (Nat × Nat × Nat × qm_C)), qm_CallOK RX12 1 22 q.2.1 q.1 q.2.2.1 q.2.2.2 := List.forall_mem_cons.mpr ⟨Or.inl ⟨yX12_in, cX12_in, 3, (some .boolean), 0, 0, _, sX12_in, ⟨by decide, by decide⟩, ⟨jX12_in, kRX12_100, uRX12⟩, ⟨by decide, by decide, rfl⟩, Or.inr (Or.inl ⟨rfl, rfl, iX12_in⟩)⟩, fun _ h => absurd h List.not_mem_nil⟩
theorem sX12_isCell : qm_Snd yX12_isCell cX12_isCell 2 (some .boolean) 1 22 wX12_isCell := qm_met (fld := fun k => qm_lk k pfRX12) (con := fun k => qm_lk k pcRX12) (call := fun k => qm_lk k [(100, 2, 3, wX12_in)]) (tab := qm_tab aX12_isCell) (plainFor_of_name (by decide)) (qm_fld_ok pfRX12_ok) (qm_con_ok pcRX12_ok) (fun idx kd n f hc => cX12_isCell_ok (idx, kd, n, f) (qm_lk_mem hc)) (qm_tab_ok aX12_isCell_ok) (fun vs h o hw => by
  unfold wX12_isCell at hw
  split at hw
  · obtain ⟨r, hr, rfl⟩ := Option.map_eq_some_iff.mp hw
    exact ⟨Nat.le_of_ble_eq_true rfl, rX12_isCell_0 (hr)⟩
  · cases hw)
theorem recvX12_isCell : ∀ vs h o, wX12_isCell vs h = some o → ∃ ci a rest, vs = qm_r 0 ci a :: rest ∧ qm_R ci = yX12_isCell.cls := by
  intro vs h o hw
  unfold wX12_isCell at hw
  split at hw
  · exact ⟨_, _, _, rfl, rfl⟩
  · cases hw
-- RX12 isOpen(I)Z
theorem jX12_isOpen : Jvm.Cond.code yX12_isOpen cX12_isOpen 2 (some .boolean) ∈ qm_all := List.mem_filter.mpr ⟨by decide +kernel, rfl⟩
theorem iX12_isOpen : Jvm.Cond.instanceMethod yX12_isOpen ∈ qm_all ∧ Jvm.Cond.selects yX12_isOpen.cls yX12_isOpen yX12_isOpen ∈ qm_all := ⟨List.mem_filter.mpr ⟨by decide +kernel, rfl⟩, List.mem_filter.mpr ⟨by decide +kernel, rfl⟩⟩
def wX12_isOpen : qm_C := fun vs h => match vs with
  | [.inr (.inr (some (0, 12, p0))), .inl p1] => (qX12_isOpen p0 p1 h).map qm_Gi
  | _ => none
def aX12_isOpen : List (Option (Instr × Nat)) := [some (.aload_n 0, 1), some (.getfield 50, 3), none, none, some (.iload_n 1, 1), some (.aload_n 0, 1), some (.getfield 273, 3), none, none, some (.idiv, 1), some (.iaload, 1), some (.iload_n 1, 1), some (.aload_n 0, 1), some (.getfield 273, 3), none, none, some (.irem, 1), some (.invokestatic 92, 3), none, none, some (.ireturn, 1)]
theorem aX12_isOpen_ok : qm_tabok cX12_isOpen aX12_isOpen = true := by decide +kernel
def mX12_isOpen : qm_M := ((some .boolean), (fun k => qm_lk k pfRX12), (fun k => qm_lk k pcRX12), (fun k => qm_lk k [(92, 2, 2, wX12_has)]), qm_tab aX12_isOpen)
set_option maxRecDepth 20000 in
set_option maxHeartbeats 2000000 in
theorem rX12_isOpen_0   {a0 : Nat} {x1 : Int32} {h : qm_H} {r : Int32 × qm_H} (ho : qX12_isOpen  a0 x1 h = some r) : qm_Ret mX12_isOpen (0, [some (qm_r 0 12 a0), some (qm_i x1)], [], h) (qm_Gi r) := by
  unfold qX12_isOpen at ho
  refine qm_Ret.sts 5 (f' := (9, [some (qm_r 0 12 a0), some (qm_i x1)], [qm_i (h.1 a0 25), qm_i x1, qm_r 1 8 (a0 + 14)], h)) rfl ?_
  obtain ⟨hg, ho⟩ := qm_ifn ho
  refine qm_Ret.gn (f1 := (10, [some (qm_r 0 12 a0), some (qm_i x1)], [qm_i (x1 / (h.1 a0 25)), qm_r 1 8 (a0 + 14)], h)) hg rfl ?_
  obtain ⟨hg, ho⟩ := qm_ifn ho
  refine qm_Ret.gn (f1 := (11, [some (qm_r 0 12 a0), some (qm_i x1)], [qm_i (h.1 (a0 + 14) (x1 / (h.1 a0 25)).toNatClampNeg)], h)) hg rfl ?_
  refine qm_Ret.sts 3 (f' := (16, [some (qm_r 0 12 a0), some (qm_i x1)], [qm_i (h.1 a0 25), qm_i x1, qm_i (h.1 (a0 + 14) (x1 / (h.1 a0 25)).toNatClampNeg)], h)) rfl ?_
  obtain ⟨hg, ho⟩ := qm_ifn ho
  refine qm_Ret.gn (f1 := (17, [some (qm_r 0 12 a0), some (qm_i x1)], [qm_i (qm_irem x1 (h.1 a0 25)), qm_i (h.1 (a0 + 14) (x1 / (h.1 a0 25)).toNatClampNeg)], h)) hg rfl ?_
  obtain ⟨r2, h1, hr, ho⟩ := qm_b2e ho
  refine qm_Ret.call (X := wX12_has [qm_i (h.1 (a0 + 14) (x1 / (h.1 a0 25)).toNatClampNeg), qm_i (qm_irem x1 (h.1 a0 25))] h) (o1 := (some (qm_i r2), h1)) (qm_mp (G := qm_Gi) hr) rfl ?_
  show qm_Ret _ (20, [some (qm_r 0 12 a0), some (qm_i x1)], [qm_i r2], h1) _
  obtain ⟨hz, ho⟩ := qm_if ho
  cases ho
  exact qm_Ret.gr hz rfl
theorem cX12_isOpen_ok : ∀ q ∈ ([(92, 2, 2, wX12_has)] : List (Nat × Nat × Nat × qm_C)), qm_CallOK RX12 1 21 q.2.1 q.1 q.2.2.1 q.2.2.2 := List.forall_mem_cons.mpr ⟨Or.inl ⟨yX12_has, cX12_has, 2, (some .boolean), 0, 0, _, sX12_has, ⟨by decide, by decide⟩, ⟨jX12_has, kRX12_92, uRX12⟩, ⟨by decide, by decide, rfl⟩, Or.inr (Or.inl ⟨rfl, rfl, iX12_has⟩)⟩, fun _ h => absurd h List.not_mem_nil⟩
theorem sX12_isOpen : qm_Snd yX12_isOpen cX12_isOpen 2 (some .boolean) 1 21 wX12_isOpen := qm_met (fld := fun k => qm_lk k pfRX12) (con := fun k => qm_lk k pcRX12) (call := fun k => qm_lk k [(92, 2, 2, wX12_has)]) (tab := qm_tab aX12_isOpen) (plainFor_of_name (by decide)) (qm_fld_ok pfRX12_ok) (qm_con_ok pcRX12_ok) (fun idx kd n f hc => cX12_isOpen_ok (idx, kd, n, f) (qm_lk_mem hc)) (qm_tab_ok aX12_isOpen_ok) (fun vs h o hw => by
  unfold wX12_isOpen at hw
  split at hw
  · obtain ⟨r, hr, rfl⟩ := Option.map_eq_some_iff.mp hw
    exact ⟨Nat.le_of_ble_eq_true rfl, rX12_isOpen_0 (hr)⟩
  · cases hw)
theorem recvX12_isOpen : ∀ vs h o, wX12_isOpen vs h = some o → ∃ ci a rest, vs = qm_r 0 ci a :: rest ∧ qm_R ci = yX12_isOpen.cls := by
  intro vs h o hw
  unfold wX12_isOpen at hw
  split at hw
  · exact ⟨_, _, _, rfl, rfl⟩
  · cases hw
-- RX12 strength(I)I
theorem jX12_strength : Jvm.Cond.code yX12_strength cX12_strength 5 (some .int) ∈ qm_all := List.mem_filter.mpr ⟨by decide +kernel, rfl⟩
theorem iX12_strength : Jvm.Cond.instanceMethod yX12_strength ∈ qm_all ∧ Jvm.Cond.selects yX12_strength.cls yX12_strength yX12_strength ∈ qm_all := ⟨List.mem_filter.mpr ⟨by decide +kernel, rfl⟩, List.mem_filter.mpr ⟨by decide +kernel, rfl⟩⟩
def wX12_strength : qm_C := fun vs h => match vs with
  | [.inr (.inr (some (0, 12, p0))), .inl p1] => (qX12_strength p0 p1 h).map qm_Gi
  | _ => none
def aX12_strength : List (Option (Instr × Nat)) := [some (.iload_n 1, 1), some (.aload_n 0, 1), some (.getfield 273, 3), none, none, some (.idiv, 1), some (.istore_n 2, 1), some (.bipush 8, 2), none, some (.iload_n 1, 1), some (.aload_n 0, 1), some (.getfield 273, 3), none, none, some (.irem, 1), some (.iadd, 1), some (.istore_n 3, 1), some (.iconst 0, 1), some (.aload_n 0, 1), some (.getfield 44, 3), none, none, some (.iload_n 2, 1), some (.iaload, 1), some (.aload_n 0, 1), some (.getfield 44, 3), none, none, some (.iload_n 3, 1), some (.iaload, 1), some (.iadd, 1), some (.aload_n 0, 1), some (.getfield 47, 3), none, none, some (.iload_n 2, 1), some (.iaload, 1), some (.isub, 1), some (.aload_n 0, 1), some (.getfield 47, 3), none, none, some (.iload_n 3, 1), some (.iaload, 1), some (.isub, 1), some (.invokestatic 161, 3), none, none, some (.istore 4, 2), none, some (.aload_n 0, 1), some (.getfield 282, 3), none, none, some (.iconst 1, 1), some (.if_icmp .ne 10, 3), none, none, some (.iload 4, 2), none, some (.iconst 2, 1), some (.idiv, 1), some (.goto 5, 3), none, none, some (.iload 4, 2), none, some (.ireturn, 1)]
theorem aX12_strength_ok : qm_tabok cX12_strength aX12_strength = true := by decide +kernel
def mX12_strength : qm_M := ((some .int), (fun k => qm_lk k pfRX12), (fun k => qm_lk k pcRX12), (fun k => qm_lk k [(161, 2, 2, wX12_greater)]), qm_tab aX12_strength)
set_option maxRecDepth 20000 in
set_option maxHeartbeats 2000000 in
theorem rX12_strength_0   {a0 : Nat} {x1 : Int32} {h : qm_H} {r : Int32 × qm_H} (ho : qX12_strength  a0 x1 h = some r) : qm_Ret mX12_strength (0, [some (qm_r 0 12 a0), some (qm_i x1), none, none, none], [], h) (qm_Gi r) := by
  unfold qX12_strength at ho
  refine qm_Ret.sts 3 (f' := (5, [some (qm_r 0 12 a0), some (qm_i x1), none, none, none], [qm_i (h.1 a0 25), qm_i x1], h)) rfl ?_
  obtain ⟨hg, ho⟩ := qm_ifn ho
  refine qm_Ret.gn (f1 := (6, [some (qm_r 0 12 a0), some (qm_i x1), none, none, none], [qm_i (x1 / (h.1 a0 25))], h)) hg rfl ?_
  refine qm_Ret.lets (F := fun v1 => (6, [some (qm_r 0 12 a0), some (qm_i x1), none, none, none], [qm_i v1], h)) (G := qm_Gi) ho (fun v1 ho => ?_)
  refine qm_Ret.sts 5 (f' := (14, [some (qm_r 0 12 a0), some (qm_i x1), some (qm_i v1), none, none], [qm_i (h.1 a0 25), qm_i x1, qm_i (8 : Int32)], h)) rfl ?_
  obtain ⟨hg, ho⟩ := qm_ifn ho
  refine qm_Ret.gn (f1 := (15, [some (qm_r 0 12 a0), some (qm_i x1), some (qm_i v1), none, none], [qm_i (qm_irem x1 (h.1 a0 25)), qm_i (8 : Int32)], h)) hg rfl ?_
  refine qm_Ret.sts 1 (f' := (16, [some (qm_r 0 12 a0), some (qm_i x1), some (qm_i v1), none, none], [qm_i ((8 : Int32) + (qm_irem x1 (h.1 a0 25)))], h)) rfl ?_
  refine qm_Ret.lets (F := fun v2 => (16, [some (qm_r 0 12 a0), some (qm_i x1), some (qm_i v1), none, none], [qm_i v2], h)) (G := qm_Gi) ho (fun v2 ho => ?_)
  refine qm_Ret.sts 5 (f' := (23, [some (qm_r 0 12 a0), some (qm_i x1), some (qm_i v1), some (qm_i v2), none], [qm_i v1, qm_r 1 16 (a0 + 12), qm_i (0 : Int32)], h)) rfl ?_
  obtain ⟨hg, ho⟩ := qm_ifn ho
  refine qm_Ret.gn (f1 := (24, [some (qm_r 0 12 a0), some (qm_i x1), some (qm_i v1), some (qm_i v2), none], [qm_i (h.1 (a0 + 12) (v1).toNatClampNeg), qm_i (0 : Int32)], h)) hg rfl ?_
  refine qm_Ret.sts 3 (f' := (29, [some (qm_r 0 12 a0), some (qm_i x1), some (qm_i v1), some (qm_i v2), none], [qm_i v2, qm_r 1 16 (a0 + 12), qm_i (h.1 (a0 + 12) (v1).toNatClampNeg), qm_i (0 : Int32)], h)) rfl ?_
  obtain ⟨hg, ho⟩ := qm_ifn ho
  refine qm_Ret.gn (f1 := (30, [some (qm_r 0 12 a0), some (qm_i x1), some (qm_i v1), some (qm_i v2), none], [qm_i (h.1 (a0 + 12) (v2).toNatClampNeg), qm_i (h.1 (a0 + 12) (v1).toNatClampNeg), qm_i (0 : Int32)], h)) hg rfl ?_
  refine qm_Ret.sts 4 (f' := (36, [some (qm_r 0 12 a0), some (qm_i x1), some (qm_i v1), some (qm_i v2), none], [qm_i v1, qm_r 1 16 (a0 + 13), qm_i ((h.1 (a0 + 12) (v1).toNatClampNeg) + (h.1 (a0 + 12) (v2).toNatClampNeg)), qm_i (0 : Int32)], h)) rfl ?_
  obtain ⟨hg, ho⟩ := qm_ifn ho
  refine qm_Ret.gn (f1 := (37, [some (qm_r 0 12 a0), some (qm_i x1), some (qm_i v1), some (qm_i v2), none], [qm_i (h.1 (a0 + 13) (v1).toNatClampNeg), qm_i ((h.1 (a0 + 12) (v1).toNatClampNeg) + (h.1 (a0 + 12) (v2).toNatClampNeg)), qm_i (0 : Int32)], h)) hg rfl ?_
  refine qm_Ret.sts 4 (f' := (43, [some (qm_r 0 12 a0), some (qm_i x1), some (qm_i v1), some (qm_i v2), none], [qm_i v2, qm_r 1 16 (a0 + 13), qm_i (((h.1 (a0 + 12) (v1).toNatClampNeg) + (h.1 (a0 + 12) (v2).toNatClampNeg)) - (h.1 (a0 + 13) (v1).toNatClampNeg)), qm_i (0 : Int32)], h)) rfl ?_
  obtain ⟨hg, ho⟩ := qm_ifn ho
  refine qm_Ret.gn (f1 := (44, [some (qm_r 0 12 a0), some (qm_i x1), some (qm_i v1), some (qm_i v2), none], [qm_i (h.1 (a0 + 13) (v2).toNatClampNeg), qm_i (((h.1 (a0 + 12) (v1).toNatClampNeg) + (h.1 (a0 + 12) (v2).toNatClampNeg)) - (h.1 (a0 + 13) (v1).toNatClampNeg)), qm_i (0 : Int32)], h)) hg rfl ?_
  refine qm_Ret.sts 1 (f' := (45, [some (qm_r 0 12 a0), some (qm_i x1), some (qm_i v1), some (qm_i v2), none], [qm_i ((((h.1 (a0 + 12) (v1).toNatClampNeg) + (h.1 (a0 + 12) (v2).toNatClampNeg)) - (h.1 (a0 + 13) (v1).toNatClampNeg)) - (h.1 (a0 + 13) (v2).toNatClampNeg)), qm_i (0 : Int32)], h)) rfl ?_
  obtain ⟨r4, h3, hr, ho⟩ := qm_b2e ho
  refine qm_Ret.call (X := wX12_greater [qm_i (0 : Int32), qm_i ((((h.1 (a0 + 12) (v1).toNatClampNeg) + (h.1 (a0 + 12) (v2).toNatClampNeg)) - (h.1 (a0 + 13) (v1).toNatClampNeg)) - (h.1 (a0 + 13) (v2).toNatClampNeg))] h) (o1 := (some (qm_i r4), h3)) (qm_mp (G := qm_Gi) hr) rfl ?_
  show qm_Ret _ (48, [some (qm_r 0 12 a0), some (qm_i x1), some (qm_i v1), some (qm_i v2), none], [qm_i r4], h3) _
  refine qm_Ret.sts 4 (f' := (55, [some (qm_r 0 12 a0), some (qm_i x1), some (qm_i v1), some (qm_i v2), some (qm_i r4)], [qm_i (1 : Int32), qm_i (h3.1 a0 28)], h3)) rfl ?_
  refine qm_Ret.ne (t := 65) (e := 58) rfl (fun hc => ?_) (fun hc => ?_)
  · rw [if_pos hc] at ho
    cases ho
    exact qm_Ret.ret 5 rfl
  · rw [if_neg hc] at ho
    cases ho
    exact qm_Ret.ret 2 rfl
theorem cX12_strength_ok : ∀ q ∈ ([(161, 2, 2, wX12_greater)] : List (Nat × Nat × Nat × qm_C)), qm_CallOK RX12 1 21 q.2.1 q.1 q.2.2.1 q.2.2.2 := List.forall_mem_cons.mpr ⟨Or.inl ⟨yX12_greater, cX12_greater, 2, (some .int), 0, 0, _, sX12_greater, ⟨by decide, by decide⟩, ⟨jX12_greater, kRX12_161, uRX12⟩, ⟨by decide, by decide, rfl⟩, Or.inr (Or.inl ⟨rfl, rfl, iX12_greater⟩)⟩, fun _ h => absurd h List.not_mem_nil⟩
theorem sX12_strength : qm_Snd yX12_strength cX12_strength 5 (some .int) 1 21 wX12_strength := qm_met (fld := fun k => qm_lk k pfRX12) (con := fun k => qm_lk k pcRX12) (call := fun k => qm_lk k [(161, 2, 2, wX12_greater)]) (tab := qm_tab aX12_strength) (plainFor_of_name (by decide)) (qm_fld_ok pfRX12_ok) (qm_con_ok pcRX12_ok) (fun idx kd n f hc => cX12_strength_ok (idx, kd, n, f) (qm_lk_mem hc)) (qm_tab_ok aX12_strength_ok) (fun vs h o hw => by
  unfold wX12_strength at hw
  split at hw
  · obtain ⟨r, hr, rfl⟩ := Option.map_eq_some_iff.mp hw
    exact ⟨Nat.le_of_ble_eq_true rfl, rX12_strength_0 (hr)⟩
  · cases hw)
theorem recvX12_strength : ∀ vs h o, wX12_strength vs h = some o → ∃ ci a rest, vs = qm_r 0 ci a :: rest ∧ qm_R ci = yX12_strength.cls := by
  intro vs h o hw
  unfold wX12_strength at hw
  split at hw
  · exact ⟨_, _, _, rfl, rfl⟩
  · cases hw
-- RX12 openMany()I
theorem jX12_openMany : Jvm.Cond.code yX12_openMany cX12_openMany 3 (some .int) ∈ qm_all := List.mem_filter.mpr ⟨by decide +kernel, rfl⟩
theorem iX12_openMany : Jvm.Cond.instanceMethod yX12_openMany ∈ qm_all ∧ Jvm.Cond.selects yX12_openMany.cls yX12_openMany yX12_openMany ∈ qm_all := ⟨List.mem_filter.mpr ⟨by decide +kernel, rfl⟩, List.mem_filter.mpr ⟨by decide +kernel, rfl⟩⟩
def wX12_openMany : qm_C := fun vs h => match vs with
  | [.inr (.inr (some (0, 12, p0)))] => (qX12_openMany p0 h).map qm_Gi
  | _ => none
def aX12_openMany : List (Option (Instr × Nat)) := [some (.iconst 0, 1), some (.istore_n 1, 1), some (.iconst 0, 1), some (.istore_n 2, 1), some (.iload_n 2, 1), some (.aload_n 0, 1), some (.getfield 276, 3), none, none, some (.if_icmp .ge 21, 3), none, none, some (.iload_n 1, 1), some (.aload_n 0, 1), some (.getfield 50, 3), none, none, some (.iload_n 2, 1), some (.iaload, 1), some (.invokestatic 285, 3), none, none, some (.iadd, 1), some (.istore_n 1, 1), some (.iinc 2 1, 3), none, none, some (.goto (-23), 3), none, none, some (.iload_n 1, 1), some (.ireturn, 1)]
theorem aX12_openMany_ok : qm_tabok cX12_openMany aX12_openMany = true := by decide +kernel
def mX12_openMany : qm_M := ((some .int), (fun k => qm_lk k pfRX12), (fun k => qm_lk k pcRX12), (fun k => qm_lk k [(285, 2, 1, wX12_ones)]), qm_tab aX12_openMany)
set_option maxRecDepth 20000 in
set_option maxHeartbeats 2000000 in
theorem rX12_openMany_4   : ∀ {fuel : Nat} {a0 : Nat} {x1 : Int32} {x2 : Int32} {h : qm_H} {r : Int32 × qm_H}, qX12_openMany_4  fuel a0 x1 x2 h = some r → qm_Ret mX12_openMany (4, [some (qm_r 0 12 a0), some (qm_i x1), some (qm_i x2)], [], h) (qm_Gi r) := by
  intro fuel
  induction fuel with
  | zero => intros; rename_i ho; cases ho
  | succ n ih =>
    intro a0 x1 x2 h r ho
    unfold qX12_openMany_4 at ho
    refine qm_Ret.sts 3 (f' := (9, [some (qm_r 0 12 a0), some (qm_i x1), some (qm_i x2)], [qm_i (h.1 a0 26), qm_i x2], h)) rfl ?_
    refine qm_Ret.ge (t := 30) (e := 12) rfl (fun hc => ?_) (fun hc => ?_)
    · rw [if_pos hc] at ho
      refine qm_Ret.sts 4 (f' := (18, [some (qm_r 0 12 a0), some (qm_i x1), some (qm_i x2)], [qm_i x2, qm_r 1 8 (a0 + 14), qm_i x1], h)) rfl ?_
      obtain ⟨hg, ho⟩ := qm_ifn ho
      refine qm_Ret.gn (f1 := (19, [some (qm_r 0 12 a0), some (qm_i x1), some (qm_i x2)], [qm_i (h.1 (a0 + 14) (x2).toNatClampNeg), qm_i x1], h)) hg rfl ?_
      obtain ⟨r2, h1, hr, ho⟩ := qm_b2e ho
      refine qm_Ret.call (X := wX12_ones [qm_i (h.1 (a0 + 14) (x2).toNatClampNeg)] h) (o1 := (some (qm_i r2), h1)) (qm_mp (G := qm_Gi) hr) rfl ?_
      show qm_Ret _ (22, [some (qm_r 0 12 a0), some (qm_i x1), some (qm_i x2)], [qm_i r2, qm_i x1], h1) _
      refine qm_Ret.sts 4 (f' := (4, [some (qm_r 0 12 a0), some (qm_i (x1 + r2)), some (qm_i (x2 + (1 : Int32)))], [], h1)) rfl ?_
      exact ih ho
    · rw [if_neg hc] at ho
      cases ho
      exact qm_Ret.ret 2 rfl
set_option maxRecDepth 20000 in
set_option maxHeartbeats 2000000 in
theorem rX12_openMany_0   {a0 : Nat} {h : qm_H} {r : Int32 × qm_H} (ho : qX12_openMany  a0 h = some r) : qm_Ret mX12_openMany (0, [some (qm_r 0 12 a0), none, none], [], h) (qm_Gi r) := by
  unfold qX12_openMany at ho
  refine qm_Ret.sts 4 (f' := (4, [some (qm_r 0 12 a0), some (qm_i (0 : Int32)), some (qm_i (0 : Int32))], [], h)) rfl ?_
  exact rX12_openMany_4 ho
theorem cX12_openMany_ok : ∀ q ∈ ([(285, 2, 1, wX12_ones)] : List (Nat × Nat × Nat × qm_C)), qm_CallOK RX12 2 43 q.2.1 q.1 q.2.2.1 q.2.2.2 := List.forall_mem_cons.mpr ⟨Or.inl ⟨yX12_ones, cX12_ones, 3, (some .int), 1, 21, _, sX12_ones, ⟨by decide, by decide⟩, ⟨jX12_ones, kRX12_285, uRX12⟩, ⟨by decide, by decide, rfl⟩, Or.inr (Or.inl ⟨rfl, rfl, iX12_ones⟩)⟩, fun _ h => absurd h List.not_mem_nil⟩
theorem sX12_openMany : qm_Snd yX12_openMany cX12_openMany 3 (some .int) 2 43 wX12_openMany := qm_met (fld := fun k => qm_lk k pfRX12) (con := fun k => qm_lk k pcRX12) (call := fun k => qm_lk k [(285, 2, 1, wX12_ones)]) (tab := qm_tab aX12_openMany) (plainFor_of_name (by decide)) (qm_fld_ok pfRX12_ok) (qm_con_ok pcRX12_ok) (fun idx kd n f hc => cX12_openMany_ok (idx, kd, n, f) (qm_lk_mem hc)) (qm_tab_ok aX12_openMany_ok) (fun vs h o hw => by
  unfold wX12_openMany at hw
  split at hw
  · obtain ⟨r, hr, rfl⟩ := Option.map_eq_some_iff.mp hw
    exact ⟨Nat.le_of_ble_eq_true rfl, rX12_openMany_0 (hr)⟩
  · cases hw)
theorem recvX12_openMany : ∀ vs h o, wX12_openMany vs h = some o → ∃ ci a rest, vs = qm_r 0 ci a :: rest ∧ qm_R ci = yX12_openMany.cls := by
  intro vs h o hw
  unfold wX12_openMany at hw
  split at hw
  · exact ⟨_, _, _, rfl, rfl⟩
  · cases hw
