-- RX11 tunnel(III)I
theorem jX11_tunnel : Jvm.Cond.code yX11_tunnel cX11_tunnel 5 (some .int) ∈ qm_all := List.mem_filter.mpr ⟨by decide +kernel, rfl⟩
theorem iX11_tunnel : Jvm.Cond.instanceMethod yX11_tunnel ∈ qm_all ∧ Jvm.Cond.selects yX11_tunnel.cls yX11_tunnel yX11_tunnel ∈ qm_all := ⟨List.mem_filter.mpr ⟨by decide +kernel, rfl⟩, List.mem_filter.mpr ⟨by decide +kernel, rfl⟩⟩
def wX11_tunnel : qm_C := fun vs h => match vs with
  | [.inr (.inr (some (0, 11, p0))), .inl p1, .inl p2, .inl p3] => (qX11_tunnel p0 p1 p2 p3 h).map qm_Gi
  | _ => none
def aX11_tunnel : List (Option (Instr × Nat)) := [some (.aload_n 0, 1), some (.getfield 10, 3), none, none, some (.iload_n 1, 1), some (.invokevirtual 93, 3), none, none, some (.astore 4, 2), none, some (.aload 4, 2), none, some (.ifnull 21, 3), none, none, some (.aload 4, 2), none, some (.iload_n 2, 1), some (.invokevirtual 158, 3), none, none, some (.ifCond .eq 12, 3), none, none, some (.aload 4, 2), none, some (.iload_n 3, 1), some (.invokevirtual 158, 3), none, none, some (.ifCond .ne 5, 3), none, none, some (.iconst (-1), 1), some (.ireturn, 1), some (.aload_n 0, 1), some (.getfield 43, 3), none, none, some (.aload 4, 2), none, some (.iload_n 2, 1), some (.invokevirtual 162, 3), none, none, some (.aload_n 0, 1), some (.getfield 43, 3), none, none, some (.getfield 176, 3), none, none, some (.iload_n 3, 1), some (.iaload, 1), some (.invokestatic 173, 3), none, none, some (.ireturn, 1)]
theorem aX11_tunnel_ok : qm_tabok cX11_tunnel aX11_tunnel = true := by decide +kernel
def mX11_tunnel : qm_M := ((some .int), (fun k => qm_lk k pfRX11), (fun k => qm_lk k pcRX11), (fun k => qm_lk k [(93, 0, 2, wX9_basketAt), (158, 0, 2, wX0_hasStroke), (162, 0, 3, wX7_spread), (173, 2, 1, wX7_forceOf)]), qm_tab aX11_tunnel)
set_option maxRecDepth 20000 in
set_option maxHeartbeats 2000000 in
theorem rX11_tunnel_0   {a0 : Nat} {x1 : Int32} {x2 : Int32} {x3 : Int32} {h : qm_H} {r : Int32 × qm_H} (ho : qX11_tunnel  a0 x1 x2 x3 h = some r) : qm_Ret mX11_tunnel (0, [some (qm_r 0 11 a0), some (qm_i x1), some (qm_i x2), some (qm_i x3), none], [], h) (qm_Gi r) := by
  unfold qX11_tunnel at ho
  refine qm_Ret.sts 3 (f' := (5, [some (qm_r 0 11 a0), some (qm_i x1), some (qm_i x2), some (qm_i x3), none], [qm_i x1, qm_r 0 9 (a0 + 1)], h)) rfl ?_
  obtain ⟨r2, h1, hr, ho⟩ := qm_b2e ho
  refine qm_Ret.call (X := wX9_basketAt [qm_r 0 9 (a0 + 1), qm_i x1] h) (o1 := (some (qm_oo 0 r2), h1)) (qm_mp (G := (qm_Go 0)) hr) rfl ?_
  show qm_Ret _ (8, [some (qm_r 0 11 a0), some (qm_i x1), some (qm_i x2), some (qm_i x3), none], [qm_oo 0 r2], h1) _
  refine qm_Ret.sts 2 (f' := (12, [some (qm_r 0 11 a0), some (qm_i x1), some (qm_i x2), some (qm_i x3), some (qm_oo 0 r2)], [qm_oo 0 r2], h1)) rfl ?_
  cases r2 with
  | none =>
    simp only [qm_om] at ho
    cases ho
    exact qm_Ret.ret 3 rfl
  | some b3 =>
    simp only [qm_om] at ho
    refine qm_Ret.sts 3 (f' := (18, [some (qm_r 0 11 a0), some (qm_i x1), some (qm_i x2), some (qm_i x3), some (qm_r 0 0 b3)], [qm_i x2, qm_r 0 0 b3], h1)) rfl ?_
    obtain ⟨r5, h4, hr, ho⟩ := qm_b2e ho
    refine qm_Ret.call (X := wX0_hasStroke [qm_r 0 0 b3, qm_i x2] h1) (o1 := (some (qm_i r5), h4)) (qm_mp (G := qm_Gi) hr) rfl ?_
    show qm_Ret _ (21, [some (qm_r 0 11 a0), some (qm_i x1), some (qm_i x2), some (qm_i x3), some (qm_r 0 0 b3)], [qm_i r5], h4) _
    refine qm_Ret.eq (t := 33) (e := 24) rfl (fun hc => ?_) (fun hc => ?_)
    · rw [if_pos hc] at ho
      cases ho
      exact qm_Ret.ret 2 rfl
    · rw [if_neg hc] at ho
      refine qm_Ret.sts 2 (f' := (27, [some (qm_r 0 11 a0), some (qm_i x1), some (qm_i x2), some (qm_i x3), some (qm_r 0 0 b3)], [qm_i x3, qm_r 0 0 b3], h4)) rfl ?_
      obtain ⟨r7, h6, hr, ho⟩ := qm_b2e ho
      refine qm_Ret.call (X := wX0_hasStroke [qm_r 0 0 b3, qm_i x3] h4) (o1 := (some (qm_i r7), h6)) (qm_mp (G := qm_Gi) hr) rfl ?_
      show qm_Ret _ (30, [some (qm_r 0 11 a0), some (qm_i x1), some (qm_i x2), some (qm_i x3), some (qm_r 0 0 b3)], [qm_i r7], h6) _
      refine qm_Ret.ne (t := 35) (e := 33) rfl (fun hc => ?_) (fun hc => ?_)
      · rw [if_pos hc] at ho
        cases ho
        exact qm_Ret.ret 2 rfl
      · rw [if_neg hc] at ho
        refine qm_Ret.sts 4 (f' := (42, [some (qm_r 0 11 a0), some (qm_i x1), some (qm_i x2), some (qm_i x3), some (qm_r 0 0 b3)], [qm_i x2, qm_r 0 0 b3, qm_r 0 7 (a0 + 49)], h6)) rfl ?_
        obtain ⟨h8, hr, ho⟩ := qm_bd ho
        refine qm_Ret.call (X := wX7_spread [qm_r 0 7 (a0 + 49), qm_r 0 0 b3, qm_i x2] h6) (o1 := (none, h8)) (qm_mp (G := qm_Gv) hr) rfl ?_
        show qm_Ret _ (45, [some (qm_r 0 11 a0), some (qm_i x1), some (qm_i x2), some (qm_i x3), some (qm_r 0 0 b3)], [], h8) _
        refine qm_Ret.sts 4 (f' := (53, [some (qm_r 0 11 a0), some (qm_i x1), some (qm_i x2), some (qm_i x3), some (qm_r 0 0 b3)], [qm_i x3, qm_r 1 64 ((a0 + 49) + 3)], h8)) rfl ?_
        obtain ⟨hg, ho⟩ := qm_ifn ho
        refine qm_Ret.gn (f1 := (54, [some (qm_r 0 11 a0), some (qm_i x1), some (qm_i x2), some (qm_i x3), some (qm_r 0 0 b3)], [qm_i (h8.1 ((a0 + 49) + 3) (x3).toNatClampNeg)], h8)) hg rfl ?_
        obtain ⟨r10, h9, hr, ho⟩ := qm_b2e ho
        refine qm_Ret.call (X := wX7_forceOf [qm_i (h8.1 ((a0 + 49) + 3) (x3).toNatClampNeg)] h8) (o1 := (some (qm_i r10), h9)) (qm_mp (G := qm_Gi) hr) rfl ?_
        show qm_Ret _ (57, [some (qm_r 0 11 a0), some (qm_i x1), some (qm_i x2), some (qm_i x3), some (qm_r 0 0 b3)], [qm_i r10], h9) _
        cases ho
        exact qm_Ret.ret 1 rfl
theorem cX11_tunnel_ok : ∀ q ∈ ([(93, 0, 2, wX9_basketAt), (158, 0, 2, wX0_hasStroke), (162, 0, 3, wX7_spread), (173, 2, 1, wX7_forceOf)] : List (Nat × Nat × Nat × qm_C)), qm_CallOK RX11 6 140 q.2.1 q.1 q.2.2.1 q.2.2.2 := List.forall_mem_cons.mpr ⟨Or.inl ⟨yX9_basketAt, cX9_basketAt, 2, (some (.object "WillowLaw$Basket")), 0, 0, _, sX9_basketAt, ⟨by decide, by decide⟩, ⟨jX9_basketAt, kRX11_93, uRX9⟩, ⟨by decide, by decide, rfl⟩, Or.inl ⟨rfl, rfl, iX9_basketAt, recvX9_basketAt⟩⟩, List.forall_mem_cons.mpr ⟨Or.inl ⟨yX0_hasStroke, cX0_hasStroke, 2, (some .boolean), 0, 0, _, sX0_hasStroke, ⟨by decide, by decide⟩, ⟨jX0_hasStroke, kRX11_158, uRX0⟩, ⟨by decide, by decide, rfl⟩, Or.inl ⟨rfl, rfl, iX0_hasStroke, recvX0_hasStroke⟩⟩, List.forall_mem_cons.mpr ⟨Or.inl ⟨yX7_spread, cX7_spread, 7, none, 5, 114, _, sX7_spread, ⟨by decide, by decide⟩, ⟨jX7_spread, kRX11_162, uRX7⟩, ⟨by decide, by decide, rfl⟩, Or.inl ⟨rfl, rfl, iX7_spread, recvX7_spread⟩⟩, List.forall_mem_cons.mpr ⟨Or.inl ⟨yX7_forceOf, cX7_forceOf, 1, (some .int), 0, 0, _, sX7_forceOf, ⟨by decide, by decide⟩, ⟨jX7_forceOf, kRX11_173, uRX7⟩, ⟨by decide, by decide, rfl⟩, Or.inr (Or.inl ⟨rfl, rfl, iX7_forceOf⟩)⟩, fun _ h => absurd h List.not_mem_nil⟩⟩⟩⟩
theorem sX11_tunnel : qm_Snd yX11_tunnel cX11_tunnel 5 (some .int) 6 140 wX11_tunnel := qm_met (fld := fun k => qm_lk k pfRX11) (con := fun k => qm_lk k pcRX11) (call := fun k => qm_lk k [(93, 0, 2, wX9_basketAt), (158, 0, 2, wX0_hasStroke), (162, 0, 3, wX7_spread), (173, 2, 1, wX7_forceOf)]) (tab := qm_tab aX11_tunnel) (plainFor_of_name (by decide)) (qm_fld_ok pfRX11_ok) (qm_con_ok pcRX11_ok) (fun idx kd n f hc => cX11_tunnel_ok (idx, kd, n, f) (qm_lk_mem hc)) (qm_tab_ok aX11_tunnel_ok) (fun vs h o hw => by
  unfold wX11_tunnel at hw
  split at hw
  · obtain ⟨r, hr, rfl⟩ := Option.map_eq_some_iff.mp hw
    exact ⟨Nat.le_of_ble_eq_true rfl, rX11_tunnel_0 (hr)⟩
  · cases hw)
theorem recvX11_tunnel : ∀ vs h o, wX11_tunnel vs h = some o → ∃ ci a rest, vs = qm_r 0 ci a :: rest ∧ qm_R ci = yX11_tunnel.cls := by
  intro vs h o hw
  unfold wX11_tunnel at hw
  split at hw
  · exact ⟨_, _, _, rfl, rfl⟩
  · cases hw
-- RX11 holes(II)I
theorem jX11_holes : Jvm.Cond.code yX11_holes cX11_holes 4 (some .int) ∈ qm_all := List.mem_filter.mpr ⟨by decide +kernel, rfl⟩
theorem iX11_holes : Jvm.Cond.instanceMethod yX11_holes ∈ qm_all ∧ Jvm.Cond.selects yX11_holes.cls yX11_holes yX11_holes ∈ qm_all := ⟨List.mem_filter.mpr ⟨by decide +kernel, rfl⟩, List.mem_filter.mpr ⟨by decide +kernel, rfl⟩⟩
def wX11_holes : qm_C := fun vs h => match vs with
  | [.inr (.inr (some (0, 11, p0))), .inl p1, .inl p2] => (qX11_holes p0 p1 p2 h).map qm_Gi
  | _ => none
def aX11_holes : List (Option (Instr × Nat)) := [some (.aload_n 0, 1), some (.getfield 10, 3), none, none, some (.iload_n 1, 1), some (.invokevirtual 93, 3), none, none, some (.astore_n 3, 1), some (.aload_n 3, 1), some (.ifnull 12, 3), none, none, some (.iload_n 2, 1), some (.ifCond .lt 8, 3), none, none, some (.iload_n 2, 1), some (.iconst 2, 1), some (.if_icmp .le 5, 3), none, none, some (.iconst (-1), 1), some (.ireturn, 1), some (.iload_n 2, 1), some (.iconst 2, 1), some (.if_icmp .ne 10, 3), none, none, some (.aload_n 3, 1), some (.invokevirtual 179, 3), none, none, some (.goto 17, 3), none, none, some (.aload_n 3, 1), some (.iload_n 2, 1), some (.iconst 1, 1), some (.if_icmp .ne 7, 3), none, none, some (.iconst 1, 1), some (.goto 4, 3), none, none, some (.iconst 0, 1), some (.invokevirtual 183, 3), none, none, some (.ireturn, 1)]
theorem aX11_holes_ok : qm_tabok cX11_holes aX11_holes = true := by decide +kernel
def mX11_holes : qm_M := ((some .int), (fun k => qm_lk k pfRX11), (fun k => qm_lk k pcRX11), (fun k => qm_lk k [(183, 0, 2, wX0_holesOrLargest), (93, 0, 2, wX9_basketAt), (179, 0, 1, wX0_largestGap)]), qm_tab aX11_holes)
set_option maxRecDepth 20000 in
set_option maxHeartbeats 2000000 in
theorem rX11_holes_47   {xs0 : Int32} {as1 : Nat} {ad0 : Nat} {xd1 : Int32} {xd2 : Int32} {ad3 : Nat} {h : qm_H} {r : Int32 × qm_H} (ho : qX11_holes_47  xs0 as1 h = some r) : qm_Ret mX11_holes (47, [some (qm_r 0 11 ad0), some (qm_i xd1), some (qm_i xd2), some (qm_r 0 0 ad3)], [qm_i xs0, qm_r 0 0 as1], h) (qm_Gi r) := by
  unfold qX11_holes_47 at ho
  obtain ⟨r2, h1, hr, ho⟩ := qm_b2e ho
  refine qm_Ret.call (X := wX0_holesOrLargest [qm_r 0 0 as1, qm_i xs0] h) (o1 := (some (qm_i r2), h1)) (qm_mp (G := qm_Gi) hr) rfl ?_
  show qm_Ret _ (50, [some (qm_r 0 11 ad0), some (qm_i xd1), some (qm_i xd2), some (qm_r 0 0 ad3)], [qm_i r2], h1) _
  cases ho
  exact qm_Ret.ret 1 rfl
set_option maxRecDepth 20000 in
set_option maxHeartbeats 2000000 in
theorem rX11_holes_0   {a0 : Nat} {x1 : Int32} {x2 : Int32} {h : qm_H} {r : Int32 × qm_H} (ho : qX11_holes  a0 x1 x2 h = some r) : qm_Ret mX11_holes (0, [some (qm_r 0 11 a0), some (qm_i x1), some (qm_i x2), none], [], h) (qm_Gi r) := by
  unfold qX11_holes at ho
  refine qm_Ret.sts 3 (f' := (5, [some (qm_r 0 11 a0), some (qm_i x1), some (qm_i x2), none], [qm_i x1, qm_r 0 9 (a0 + 1)], h)) rfl ?_
  obtain ⟨r2, h1, hr, ho⟩ := qm_b2e ho
  refine qm_Ret.call (X := wX9_basketAt [qm_r 0 9 (a0 + 1), qm_i x1] h) (o1 := (some (qm_oo 0 r2), h1)) (qm_mp (G := (qm_Go 0)) hr) rfl ?_
  show qm_Ret _ (8, [some (qm_r 0 11 a0), some (qm_i x1), some (qm_i x2), none], [qm_oo 0 r2], h1) _
  refine qm_Ret.sts 2 (f' := (10, [some (qm_r 0 11 a0), some (qm_i x1), some (qm_i x2), some (qm_oo 0 r2)], [qm_oo 0 r2], h1)) rfl ?_
  cases r2 with
  | none =>
    simp only [qm_om] at ho
    cases ho
    exact qm_Ret.ret 3 rfl
  | some b3 =>
    simp only [qm_om] at ho
    refine qm_Ret.sts 2 (f' := (14, [some (qm_r 0 11 a0), some (qm_i x1), some (qm_i x2), some (qm_r 0 0 b3)], [qm_i x2], h1)) rfl ?_
    refine qm_Ret.lt (t := 22) (e := 17) rfl (fun hc => ?_) (fun hc => ?_)
    · rw [if_pos hc] at ho
      cases ho
      exact qm_Ret.ret 2 rfl
    · rw [if_neg hc] at ho
      refine qm_Ret.sts 2 (f' := (19, [some (qm_r 0 11 a0), some (qm_i x1), some (qm_i x2), some (qm_r 0 0 b3)], [qm_i (2 : Int32), qm_i x2], h1)) rfl ?_
      refine qm_Ret.le (t := 24) (e := 22) rfl (fun hc => ?_) (fun hc => ?_)
      · rw [if_pos hc] at ho
        cases ho
        exact qm_Ret.ret 2 rfl
      · rw [if_neg hc] at ho
        refine qm_Ret.sts 2 (f' := (26, [some (qm_r 0 11 a0), some (qm_i x1), some (qm_i x2), some (qm_r 0 0 b3)], [qm_i (2 : Int32), qm_i x2], h1)) rfl ?_
        refine qm_Ret.ne (t := 36) (e := 29) rfl (fun hc => ?_) (fun hc => ?_)
        · rw [if_pos hc] at ho
          refine qm_Ret.sts 1 (f' := (30, [some (qm_r 0 11 a0), some (qm_i x1), some (qm_i x2), some (qm_r 0 0 b3)], [qm_r 0 0 b3], h1)) rfl ?_
          obtain ⟨r5, h4, hr, ho⟩ := qm_b2e ho
          refine qm_Ret.call (X := wX0_largestGap [qm_r 0 0 b3] h1) (o1 := (some (qm_i r5), h4)) (qm_mp (G := qm_Gi) hr) rfl ?_
          show qm_Ret _ (33, [some (qm_r 0 11 a0), some (qm_i x1), some (qm_i x2), some (qm_r 0 0 b3)], [qm_i r5], h4) _
          cases ho
          exact qm_Ret.ret 2 rfl
        · rw [if_neg hc] at ho
          refine qm_Ret.sts 3 (f' := (39, [some (qm_r 0 11 a0), some (qm_i x1), some (qm_i x2), some (qm_r 0 0 b3)], [qm_i (1 : Int32), qm_i x2, qm_r 0 0 b3], h1)) rfl ?_
          refine qm_Ret.ne (t := 46) (e := 42) rfl (fun hc => ?_) (fun hc => ?_)
          · rw [if_pos hc] at ho
            refine qm_Ret.sts 2 (f' := (47, [some (qm_r 0 11 a0), some (qm_i x1), some (qm_i x2), some (qm_r 0 0 b3)], [qm_i (1 : Int32), qm_r 0 0 b3], h1)) rfl ?_
            exact rX11_holes_47 ho
          · rw [if_neg hc] at ho
            refine qm_Ret.sts 1 (f' := (47, [some (qm_r 0 11 a0), some (qm_i x1), some (qm_i x2), some (qm_r 0 0 b3)], [qm_i (0 : Int32), qm_r 0 0 b3], h1)) rfl ?_
            exact rX11_holes_47 ho
theorem cX11_holes_ok : ∀ q ∈ ([(183, 0, 2, wX0_holesOrLargest), (93, 0, 2, wX9_basketAt), (179, 0, 1, wX0_largestGap)] : List (Nat × Nat × Nat × qm_C)), qm_CallOK RX11 4 103 q.2.1 q.1 q.2.2.1 q.2.2.2 := List.forall_mem_cons.mpr ⟨Or.inl ⟨yX0_holesOrLargest, cX0_holesOrLargest, 9, (some .int), 1, 29, _, sX0_holesOrLargest, ⟨by decide, by decide⟩, ⟨jX0_holesOrLargest, kRX11_183, uRX0⟩, ⟨by decide, by decide, rfl⟩, Or.inl ⟨rfl, rfl, iX0_holesOrLargest, recvX0_holesOrLargest⟩⟩, List.forall_mem_cons.mpr ⟨Or.inl ⟨yX9_basketAt, cX9_basketAt, 2, (some (.object "WillowLaw$Basket")), 0, 0, _, sX9_basketAt, ⟨by decide, by decide⟩, ⟨jX9_basketAt, kRX11_93, uRX9⟩, ⟨by decide, by decide, rfl⟩, Or.inl ⟨rfl, rfl, iX9_basketAt, recvX9_basketAt⟩⟩, List.forall_mem_cons.mpr ⟨Or.inl ⟨yX0_largestGap, cX0_largestGap, 4, (some .int), 3, 80, _, sX0_largestGap, ⟨by decide, by decide⟩, ⟨jX0_largestGap, kRX11_179, uRX0⟩, ⟨by decide, by decide, rfl⟩, Or.inl ⟨rfl, rfl, iX0_largestGap, recvX0_largestGap⟩⟩, fun _ h => absurd h List.not_mem_nil⟩⟩⟩
theorem sX11_holes : qm_Snd yX11_holes cX11_holes 4 (some .int) 4 103 wX11_holes := qm_met (fld := fun k => qm_lk k pfRX11) (con := fun k => qm_lk k pcRX11) (call := fun k => qm_lk k [(183, 0, 2, wX0_holesOrLargest), (93, 0, 2, wX9_basketAt), (179, 0, 1, wX0_largestGap)]) (tab := qm_tab aX11_holes) (plainFor_of_name (by decide)) (qm_fld_ok pfRX11_ok) (qm_con_ok pcRX11_ok) (fun idx kd n f hc => cX11_holes_ok (idx, kd, n, f) (qm_lk_mem hc)) (qm_tab_ok aX11_holes_ok) (fun vs h o hw => by
  unfold wX11_holes at hw
  split at hw
  · obtain ⟨r, hr, rfl⟩ := Option.map_eq_some_iff.mp hw
    exact ⟨Nat.le_of_ble_eq_true rfl, rX11_holes_0 (hr)⟩
  · cases hw)
theorem recvX11_holes : ∀ vs h o, wX11_holes vs h = some o → ∃ ci a rest, vs = qm_r 0 ci a :: rest ∧ qm_R ci = yX11_holes.cls := by
  intro vs h o hw
  unfold wX11_holes at hw
  split at hw
  · exact ⟨_, _, _, rfl, rfl⟩
  · cases hw
-- RX11 commonDivisor(JJ)J
theorem jX11_commonDivisor : Jvm.Cond.code yX11_commonDivisor cX11_commonDivisor 11 (some .long) ∈ qm_all := List.mem_filter.mpr ⟨by decide +kernel, rfl⟩
theorem iX11_commonDivisor : Jvm.Cond.static yX11_commonDivisor ∈ qm_all := List.mem_filter.mpr ⟨by decide +kernel, rfl⟩
def wX11_commonDivisor : qm_C := fun vs h => match vs with
  | [.inr (.inl p0), .inr (.inl p1)] => (qX11_commonDivisor p0 p1 h).map qm_Gl
  | _ => none
def aX11_commonDivisor : List (Option (Instr × Nat)) := [some (.lload_n 0, 1), some (.lstore 4, 2), none, some (.lload_n 2, 1), some (.lstore 6, 2), none, some (.iconst 0, 1), some (.istore 8, 2), none, some (.iload 8, 2), none, some (.sipush 200, 3), none, none, some (.if_icmp .ge 31, 3), none, none, some (.lload 6, 2), none, some (.lconst 0, 1), some (.lcmp, 1), some (.ifCond .eq 24, 3), none, none, some (.lload 4, 2), none, some (.lload 6, 2), none, some (.lrem, 1), some (.lstore 9, 2), none, some (.lload 6, 2), none, some (.lstore 4, 2), none, some (.lload 9, 2), none, some (.lstore 6, 2), none, some (.iinc 8 1, 3), none, none, some (.goto (-33), 3), none, none, some (.lload 4, 2), none, some (.lreturn, 1)]
theorem aX11_commonDivisor_ok : qm_tabok cX11_commonDivisor aX11_commonDivisor = true := by decide +kernel
def mX11_commonDivisor : qm_M := ((some .long), (fun k => qm_lk k pfRX11), (fun k => qm_lk k pcRX11), (fun k => qm_lk k []), qm_tab aX11_commonDivisor)
set_option maxRecDepth 20000 in
set_option maxHeartbeats 2000000 in
theorem rX11_commonDivisor_9   : ∀ {fuel : Nat} {l4 : Int64} {l6 : Int64} {x8 : Int32} {ld0 : Int64} {ld2 : Int64} {d9 : Option qm_V} {h : qm_H} {r : Int64 × qm_H}, qX11_commonDivisor_9  fuel l4 l6 x8 h = some r → qm_Ret mX11_commonDivisor (9, [some (qm_l ld0), none, some (qm_l ld2), none, some (qm_l l4), none, some (qm_l l6), none, some (qm_i x8), d9, none], [], h) (qm_Gl r) := by
  intro fuel
  induction fuel with
  | zero => intros; rename_i ho; cases ho
  | succ n ih =>
    intro l4 l6 x8 ld0 ld2 d9 h r ho
    unfold qX11_commonDivisor_9 at ho
    refine qm_Ret.sts 2 (f' := (14, [some (qm_l ld0), none, some (qm_l ld2), none, some (qm_l l4), none, some (qm_l l6), none, some (qm_i x8), d9, none], [qm_i (200 : Int32), qm_i x8], h)) rfl ?_
    refine qm_Ret.ge (t := 45) (e := 17) rfl (fun hc => ?_) (fun hc => ?_)
    · rw [if_pos hc] at ho
      refine qm_Ret.sts 3 (f' := (21, [some (qm_l ld0), none, some (qm_l ld2), none, some (qm_l l4), none, some (qm_l l6), none, some (qm_i x8), d9, none], [qm_i (lg_cmp l6 (0 : Int64))], h)) rfl ?_
      refine qm_Ret.eq (t := 45) (e := 24) rfl (fun hc => ?_) (fun hc => ?_)
      · rw [if_pos hc] at ho
        cases ho
        exact qm_Ret.ret 2 rfl
      · rw [if_neg hc] at ho
        refine qm_Ret.sts 2 (f' := (28, [some (qm_l ld0), none, some (qm_l ld2), none, some (qm_l l4), none, some (qm_l l6), none, some (qm_i x8), d9, none], [qm_l l6, qm_l l4], h)) rfl ?_
        obtain ⟨hg, ho⟩ := qm_ifn ho
        refine qm_Ret.gn (f1 := (29, [some (qm_l ld0), none, some (qm_l ld2), none, some (qm_l l4), none, some (qm_l l6), none, some (qm_i x8), d9, none], [qm_l (qm_lrem l4 l6)], h)) hg rfl ?_
        refine qm_Ret.lets (F := fun v1 => (29, [some (qm_l ld0), none, some (qm_l ld2), none, some (qm_l l4), none, some (qm_l l6), none, some (qm_i x8), d9, none], [qm_l v1], h)) (G := qm_Gl) ho (fun v1 ho => ?_)
        refine qm_Ret.sts 7 (f' := (9, [some (qm_l ld0), none, some (qm_l ld2), none, some (qm_l l6), none, some (qm_l v1), none, some (qm_i (x8 + (1 : Int32))), some (qm_l v1), none], [], h)) rfl ?_
        exact ih ho
    · rw [if_neg hc] at ho
      cases ho
      exact qm_Ret.ret 2 rfl
set_option maxRecDepth 20000 in
set_option maxHeartbeats 2000000 in
theorem rX11_commonDivisor_0   {l0 : Int64} {l2 : Int64} {h : qm_H} {r : Int64 × qm_H} (ho : qX11_commonDivisor  l0 l2 h = some r) : qm_Ret mX11_commonDivisor (0, [some (qm_l l0), none, some (qm_l l2), none, none, none, none, none, none, none, none], [], h) (qm_Gl r) := by
  unfold qX11_commonDivisor at ho
  refine qm_Ret.sts 6 (f' := (9, [some (qm_l l0), none, some (qm_l l2), none, some (qm_l l0), none, some (qm_l l2), none, some (qm_i (0 : Int32)), none, none], [], h)) rfl ?_
  exact rX11_commonDivisor_9 ho
theorem cX11_commonDivisor_ok : ∀ q ∈ ([] : List (Nat × Nat × Nat × qm_C)), qm_CallOK RX11 0 0 q.2.1 q.1 q.2.2.1 q.2.2.2 := fun _ h => absurd h List.not_mem_nil
theorem sX11_commonDivisor : qm_Snd yX11_commonDivisor cX11_commonDivisor 11 (some .long) 0 0 wX11_commonDivisor := qm_met (fld := fun k => qm_lk k pfRX11) (con := fun k => qm_lk k pcRX11) (call := fun k => qm_lk k []) (tab := qm_tab aX11_commonDivisor) (plainFor_of_name (by decide)) (qm_fld_ok pfRX11_ok) (qm_con_ok pcRX11_ok) (fun idx kd n f hc => cX11_commonDivisor_ok (idx, kd, n, f) (qm_lk_mem hc)) (qm_tab_ok aX11_commonDivisor_ok) (fun vs h o hw => by
  unfold wX11_commonDivisor at hw
  split at hw
  · obtain ⟨r, hr, rfl⟩ := Option.map_eq_some_iff.mp hw
    exact ⟨Nat.le_of_ble_eq_true rfl, rX11_commonDivisor_0 (hr)⟩
  · cases hw)
-- RX11 last(III)J
theorem jX11_last : Jvm.Cond.code yX11_last cX11_last 12 (some .long) ∈ qm_all := List.mem_filter.mpr ⟨by decide +kernel, rfl⟩
theorem iX11_last : Jvm.Cond.instanceMethod yX11_last ∈ qm_all ∧ Jvm.Cond.selects yX11_last.cls yX11_last yX11_last ∈ qm_all := ⟨List.mem_filter.mpr ⟨by decide +kernel, rfl⟩, List.mem_filter.mpr ⟨by decide +kernel, rfl⟩⟩
def wX11_last : qm_C := fun vs h => match vs with
  | [.inr (.inr (some (0, 11, p0))), .inl p1, .inl p2, .inl p3] => (qX11_last p0 p1 p2 p3 h).map qm_Gl
  | _ => none
def aX11_last : List (Option (Instr × Nat)) := [some (.aload_n 0, 1), some (.getfield 10, 3), none, none, some (.iload_n 1, 1), some (.invokevirtual 93, 3), none, none, some (.astore 4, 2), none, some (.aload 4, 2), none, some (.ifnull 22, 3), none, none, some (.iload_n 2, 1), some (.ifCond .lt 18, 3), none, none, some (.iload_n 2, 1), some (.bipush 8, 2), none, some (.if_icmp .gt 12, 3), none, none, some (.iload_n 3, 1), some (.ifCond .lt 8, 3), none, none, some (.iload_n 3, 1), some (.iconst 2, 1), some (.if_icmp .le 7, 3), none, none, some (.ldc2_w 187, 3), none, none, some (.lreturn, 1), some (.aload 4, 2), none, some (.iload_n 2, 1), some (.invokevirtual 189, 3), none, none, some (.istore 5, 2), none, some (.iload_n 3, 1), some (.iconst 2, 1), some (.if_icmp .ne 7, 3), none, none, some (.iload 5, 2), none, some (.i2l, 1), some (.lreturn, 1), some (.aload 4, 2), none, some (.iload 5, 2), none, some (.invokevirtual 192, 3), none, none, some (.lstore 6, 2), none, some (.aload 4, 2), none, some (.invokevirtual 196, 3), none, none, some (.lstore 8, 2), none, some (.lload 6, 2), none, some (.lload 8, 2), none, some (.invokestatic 200, 3), none, none, some (.lstore 10, 2), none, some (.lload 10, 2), none, some (.lconst 0, 1), some (.lcmp, 1), some (.ifCond .gt 7, 3), none, none, some (.ldc2_w 187, 3), none, none, some (.lreturn, 1), some (.iload_n 3, 1), some (.ifCond .ne 11, 3), none, none, some (.lload 6, 2), none, some (.lload 10, 2), none, some (.ldiv, 1), some (.goto 8, 3), none, none, some (.lload 8, 2), none, some (.lload 10, 2), none, some (.ldiv, 1), some (.lreturn, 1)]
theorem aX11_last_ok : qm_tabok cX11_last aX11_last = true := by decide +kernel
def mX11_last : qm_M := ((some .long), (fun k => qm_lk k pfRX11), (fun k => qm_lk k pcRX11), (fun k => qm_lk k [(93, 0, 2, wX9_basketAt), (189, 0, 2, wX0_mendedFirst), (192, 0, 2, wX0_soundWays), (196, 0, 1, wX0_allWays), (200, 2, 2, wX11_commonDivisor)]), qm_tab aX11_last)
set_option maxRecDepth 20000 in
set_option maxHeartbeats 2000000 in
theorem rX11_last_0   {a0 : Nat} {x1 : Int32} {x2 : Int32} {x3 : Int32} {h : qm_H} {r : Int64 × qm_H} (ho : qX11_last  a0 x1 x2 x3 h = some r) : qm_Ret mX11_last (0, [some (qm_r 0 11 a0), some (qm_i x1), some (qm_i x2), some (qm_i x3), none, none, none, none, none, none, none, none], [], h) (qm_Gl r) := by
  unfold qX11_last at ho
  refine qm_Ret.sts 3 (f' := (5, [some (qm_r 0 11 a0), some (qm_i x1), some (qm_i x2), some (qm_i x3), none, none, none, none, none, none, none, none], [qm_i x1, qm_r 0 9 (a0 + 1)], h)) rfl ?_
  obtain ⟨r2, h1, hr, ho⟩ := qm_b2e ho
  refine qm_Ret.call (X := wX9_basketAt [qm_r 0 9 (a0 + 1), qm_i x1] h) (o1 := (some (qm_oo 0 r2), h1)) (qm_mp (G := (qm_Go 0)) hr) rfl ?_
  show qm_Ret _ (8, [some (qm_r 0 11 a0), some (qm_i x1), some (qm_i x2), some (qm_i x3), none, none, none, none, none, none, none, none], [qm_oo 0 r2], h1) _
  refine qm_Ret.sts 2 (f' := (12, [some (qm_r 0 11 a0), some (qm_i x1), some (qm_i x2), some (qm_i x3), some (qm_oo 0 r2), none, none, none, none, none, none, none], [qm_oo 0 r2], h1)) rfl ?_
  cases r2 with
  | none =>
    simp only [qm_om] at ho
    cases ho
    exact qm_Ret.ret 3 rfl
  | some b3 =>
    simp only [qm_om] at ho
    refine qm_Ret.sts 2 (f' := (16, [some (qm_r 0 11 a0), some (qm_i x1), some (qm_i x2), some (qm_i x3), some (qm_r 0 0 b3), none, none, none, none, none, none, none], [qm_i x2], h1)) rfl ?_
    refine qm_Ret.lt (t := 34) (e := 19) rfl (fun hc => ?_) (fun hc => ?_)
    · rw [if_pos hc] at ho
      cases ho
      exact qm_Ret.ret 2 rfl
    · rw [if_neg hc] at ho
      refine qm_Ret.sts 2 (f' := (22, [some (qm_r 0 11 a0), some (qm_i x1), some (qm_i x2), some (qm_i x3), some (qm_r 0 0 b3), none, none, none, none, none, none, none], [qm_i (8 : Int32), qm_i x2], h1)) rfl ?_
      refine qm_Ret.gt (t := 34) (e := 25) rfl (fun hc => ?_) (fun hc => ?_)
      · rw [if_pos hc] at ho
        cases ho
        exact qm_Ret.ret 2 rfl
      · rw [if_neg hc] at ho
        refine qm_Ret.sts 1 (f' := (26, [some (qm_r 0 11 a0), some (qm_i x1), some (qm_i x2), some (qm_i x3), some (qm_r 0 0 b3), none, none, none, none, none, none, none], [qm_i x3], h1)) rfl ?_
        refine qm_Ret.lt (t := 34) (e := 29) rfl (fun hc => ?_) (fun hc => ?_)
        · rw [if_pos hc] at ho
          cases ho
          exact qm_Ret.ret 2 rfl
        · rw [if_neg hc] at ho
          refine qm_Ret.sts 2 (f' := (31, [some (qm_r 0 11 a0), some (qm_i x1), some (qm_i x2), some (qm_i x3), some (qm_r 0 0 b3), none, none, none, none, none, none, none], [qm_i (2 : Int32), qm_i x3], h1)) rfl ?_
          refine qm_Ret.le (t := 38) (e := 34) rfl (fun hc => ?_) (fun hc => ?_)
          · rw [if_pos hc] at ho
            cases ho
            exact qm_Ret.ret 2 rfl
          · rw [if_neg hc] at ho
            refine qm_Ret.sts 2 (f' := (41, [some (qm_r 0 11 a0), some (qm_i x1), some (qm_i x2), some (qm_i x3), some (qm_r 0 0 b3), none, none, none, none, none, none, none], [qm_i x2, qm_r 0 0 b3], h1)) rfl ?_
            obtain ⟨r5, h4, hr, ho⟩ := qm_b2e ho
            refine qm_Ret.call (X := wX0_mendedFirst [qm_r 0 0 b3, qm_i x2] h1) (o1 := (some (qm_i r5), h4)) (qm_mp (G := qm_Gi) hr) rfl ?_
            show qm_Ret _ (44, [some (qm_r 0 11 a0), some (qm_i x1), some (qm_i x2), some (qm_i x3), some (qm_r 0 0 b3), none, none, none, none, none, none, none], [qm_i r5], h4) _
            refine qm_Ret.sts 3 (f' := (48, [some (qm_r 0 11 a0), some (qm_i x1), some (qm_i x2), some (qm_i x3), some (qm_r 0 0 b3), some (qm_i r5), none, none, none, none, none, none], [qm_i (2 : Int32), qm_i x3], h4)) rfl ?_
            refine qm_Ret.ne (t := 55) (e := 51) rfl (fun hc => ?_) (fun hc => ?_)
            · rw [if_pos hc] at ho
              cases ho
              exact qm_Ret.ret 3 rfl
            · rw [if_neg hc] at ho
              refine qm_Ret.sts 2 (f' := (59, [some (qm_r 0 11 a0), some (qm_i x1), some (qm_i x2), some (qm_i x3), some (qm_r 0 0 b3), some (qm_i r5), none, none, none, none, none, none], [qm_i r5, qm_r 0 0 b3], h4)) rfl ?_
              obtain ⟨r7, h6, hr, ho⟩ := qm_b2e ho
              refine qm_Ret.call (X := wX0_soundWays [qm_r 0 0 b3, qm_i r5] h4) (o1 := (some (qm_l r7), h6)) (qm_mp (G := qm_Gl) hr) rfl ?_
              show qm_Ret _ (62, [some (qm_r 0 11 a0), some (qm_i x1), some (qm_i x2), some (qm_i x3), some (qm_r 0 0 b3), some (qm_i r5), none, none, none, none, none, none], [qm_l r7], h6) _
              refine qm_Ret.sts 2 (f' := (66, [some (qm_r 0 11 a0), some (qm_i x1), some (qm_i x2), some (qm_i x3), some (qm_r 0 0 b3), some (qm_i r5), some (qm_l r7), none, none, none, none, none], [qm_r 0 0 b3], h6)) rfl ?_
              obtain ⟨r9, h8, hr, ho⟩ := qm_b2e ho
              refine qm_Ret.call (X := wX0_allWays [qm_r 0 0 b3] h6) (o1 := (some (qm_l r9), h8)) (qm_mp (G := qm_Gl) hr) rfl ?_
              show qm_Ret _ (69, [some (qm_r 0 11 a0), some (qm_i x1), some (qm_i x2), some (qm_i x3), some (qm_r 0 0 b3), some (qm_i r5), some (qm_l r7), none, none, none, none, none], [qm_l r9], h8) _
              refine qm_Ret.sts 3 (f' := (75, [some (qm_r 0 11 a0), some (qm_i x1), some (qm_i x2), some (qm_i x3), some (qm_r 0 0 b3), some (qm_i r5), some (qm_l r7), none, some (qm_l r9), none, none, none], [qm_l r9, qm_l r7], h8)) rfl ?_
              obtain ⟨r11, h10, hr, ho⟩ := qm_b2e ho
              refine qm_Ret.call (X := wX11_commonDivisor [qm_l r7, qm_l r9] h8) (o1 := (some (qm_l r11), h10)) (qm_mp (G := qm_Gl) hr) rfl ?_
              show qm_Ret _ (78, [some (qm_r 0 11 a0), some (qm_i x1), some (qm_i x2), some (qm_i x3), some (qm_r 0 0 b3), some (qm_i r5), some (qm_l r7), none, some (qm_l r9), none, none, none], [qm_l r11], h10) _
              refine qm_Ret.sts 4 (f' := (84, [some (qm_r 0 11 a0), some (qm_i x1), some (qm_i x2), some (qm_i x3), some (qm_r 0 0 b3), some (qm_i r5), some (qm_l r7), none, some (qm_l r9), none, some (qm_l r11), none], [qm_i (lg_cmp r11 (0 : Int64))], h10)) rfl ?_
              refine qm_Ret.gt (t := 91) (e := 87) rfl (fun hc => ?_) (fun hc => ?_)
              · rw [if_pos hc] at ho
                refine qm_Ret.sts 1 (f' := (92, [some (qm_r 0 11 a0), some (qm_i x1), some (qm_i x2), some (qm_i x3), some (qm_r 0 0 b3), some (qm_i r5), some (qm_l r7), none, some (qm_l r9), none, some (qm_l r11), none], [qm_i x3], h10)) rfl ?_
                refine qm_Ret.ne (t := 103) (e := 95) rfl (fun hc => ?_) (fun hc => ?_)
                · rw [if_pos hc] at ho
                  refine qm_Ret.sts 2 (f' := (99, [some (qm_r 0 11 a0), some (qm_i x1), some (qm_i x2), some (qm_i x3), some (qm_r 0 0 b3), some (qm_i r5), some (qm_l r7), none, some (qm_l r9), none, some (qm_l r11), none], [qm_l r11, qm_l r7], h10)) rfl ?_
                  obtain ⟨hg, ho⟩ := qm_ifn ho
                  refine qm_Ret.gn (f1 := (100, [some (qm_r 0 11 a0), some (qm_i x1), some (qm_i x2), some (qm_i x3), some (qm_r 0 0 b3), some (qm_i r5), some (qm_l r7), none, some (qm_l r9), none, some (qm_l r11), none], [qm_l (r7 / r11)], h10)) hg rfl ?_
                  cases ho
                  exact qm_Ret.ret 2 rfl
                · rw [if_neg hc] at ho
                  refine qm_Ret.sts 2 (f' := (107, [some (qm_r 0 11 a0), some (qm_i x1), some (qm_i x2), some (qm_i x3), some (qm_r 0 0 b3), some (qm_i r5), some (qm_l r7), none, some (qm_l r9), none, some (qm_l r11), none], [qm_l r11, qm_l r9], h10)) rfl ?_
                  obtain ⟨hg, ho⟩ := qm_ifn ho
                  refine qm_Ret.gn (f1 := (108, [some (qm_r 0 11 a0), some (qm_i x1), some (qm_i x2), some (qm_i x3), some (qm_r 0 0 b3), some (qm_i r5), some (qm_l r7), none, some (qm_l r9), none, some (qm_l r11), none], [qm_l (r9 / r11)], h10)) hg rfl ?_
                  cases ho
                  exact qm_Ret.ret 1 rfl
              · rw [if_neg hc] at ho
                cases ho
                exact qm_Ret.ret 2 rfl
theorem cX11_last_ok : ∀ q ∈ ([(93, 0, 2, wX9_basketAt), (189, 0, 2, wX0_mendedFirst), (192, 0, 2, wX0_soundWays), (196, 0, 1, wX0_allWays), (200, 2, 2, wX11_commonDivisor)] : List (Nat × Nat × Nat × qm_C)), qm_CallOK RX11 1 30 q.2.1 q.1 q.2.2.1 q.2.2.2 := List.forall_mem_cons.mpr ⟨Or.inl ⟨yX9_basketAt, cX9_basketAt, 2, (some (.object "WillowLaw$Basket")), 0, 0, _, sX9_basketAt, ⟨by decide, by decide⟩, ⟨jX9_basketAt, kRX11_93, uRX9⟩, ⟨by decide, by decide, rfl⟩, Or.inl ⟨rfl, rfl, iX9_basketAt, recvX9_basketAt⟩⟩, List.forall_mem_cons.mpr ⟨Or.inl ⟨yX0_mendedFirst, cX0_mendedFirst, 7, (some .int), 0, 0, _, sX0_mendedFirst, ⟨by decide, by decide⟩, ⟨jX0_mendedFirst, kRX11_189, uRX0⟩, ⟨by decide, by decide, rfl⟩, Or.inl ⟨rfl, rfl, iX0_mendedFirst, recvX0_mendedFirst⟩⟩, List.forall_mem_cons.mpr ⟨Or.inl ⟨yX0_soundWays, cX0_soundWays, 5, (some .long), 0, 0, _, sX0_soundWays, ⟨by decide, by decide⟩, ⟨jX0_soundWays, kRX11_192, uRX0⟩, ⟨by decide, by decide, rfl⟩, Or.inl ⟨rfl, rfl, iX0_soundWays, recvX0_soundWays⟩⟩, List.forall_mem_cons.mpr ⟨Or.inl ⟨yX0_allWays, cX0_allWays, 4, (some .long), 0, 0, _, sX0_allWays, ⟨by decide, by decide⟩, ⟨jX0_allWays, kRX11_196, uRX0⟩, ⟨by decide, by decide, rfl⟩, Or.inl ⟨rfl, rfl, iX0_allWays, recvX0_allWays⟩⟩, List.forall_mem_cons.mpr ⟨Or.inl ⟨yX11_commonDivisor, cX11_commonDivisor, 11, (some .long), 0, 0, _, sX11_commonDivisor, ⟨by decide, by decide⟩, ⟨jX11_commonDivisor, kRX11_200, uRX11⟩, ⟨by decide, by decide, rfl⟩, Or.inr (Or.inl ⟨rfl, rfl, iX11_commonDivisor⟩)⟩, fun _ h => absurd h List.not_mem_nil⟩⟩⟩⟩⟩
theorem sX11_last : qm_Snd yX11_last cX11_last 12 (some .long) 1 30 wX11_last := qm_met (fld := fun k => qm_lk k pfRX11) (con := fun k => qm_lk k pcRX11) (call := fun k => qm_lk k [(93, 0, 2, wX9_basketAt), (189, 0, 2, wX0_mendedFirst), (192, 0, 2, wX0_soundWays), (196, 0, 1, wX0_allWays), (200, 2, 2, wX11_commonDivisor)]) (tab := qm_tab aX11_last) (plainFor_of_name (by decide)) (qm_fld_ok pfRX11_ok) (qm_con_ok pcRX11_ok) (fun idx kd n f hc => cX11_last_ok (idx, kd, n, f) (qm_lk_mem hc)) (qm_tab_ok aX11_last_ok) (fun vs h o hw => by
  unfold wX11_last at hw
  split at hw
  · obtain ⟨r, hr, rfl⟩ := Option.map_eq_some_iff.mp hw
    exact ⟨Nat.le_of_ble_eq_true rfl, rX11_last_0 (hr)⟩
  · cases hw)
theorem recvX11_last : ∀ vs h o, wX11_last vs h = some o → ∃ ci a rest, vs = qm_r 0 ci a :: rest ∧ qm_R ci = yX11_last.cls := by
  intro vs h o hw
  unfold wX11_last at hw
  split at hw
  · exact ⟨_, _, _, rfl, rfl⟩
  · cases hw
-- RX11 strictness(II)I
theorem jX11_strictness : Jvm.Cond.code yX11_strictness cX11_strictness 2 (some .int) ∈ qm_all := List.mem_filter.mpr ⟨by decide +kernel, rfl⟩
theorem iX11_strictness : Jvm.Cond.static yX11_strictness ∈ qm_all := List.mem_filter.mpr ⟨by decide +kernel, rfl⟩
def wX11_strictness : qm_C := fun vs h => match vs with
  | [.inl p0, .inl p1] => (qX11_strictness p0 p1 h).map qm_Gi
  | _ => none
def aX11_strictness : List (Option (Instr × Nat)) := [some (.iload_n 0, 1), some (.ifCond .ne 13, 3), none, none, some (.iload_n 1, 1), some (.ifCond .ne 7, 3), none, none, some (.iconst 2, 1), some (.goto 4, 3), none, none, some (.iconst 0, 1), some (.ireturn, 1), some (.iload_n 1, 1), some (.ifCond .ne 7, 3), none, none, some (.iconst 1, 1), some (.goto 4, 3), none, none, some (.iconst (-1), 1), some (.ireturn, 1)]
theorem aX11_strictness_ok : qm_tabok cX11_strictness aX11_strictness = true := by decide +kernel
def mX11_strictness : qm_M := ((some .int), (fun k => qm_lk k pfRX11), (fun k => qm_lk k pcRX11), (fun k => qm_lk k []), qm_tab aX11_strictness)
set_option maxRecDepth 20000 in
set_option maxHeartbeats 2000000 in
theorem rX11_strictness_0   {x0 : Int32} {x1 : Int32} {h : qm_H} {r : Int32 × qm_H} (ho : qX11_strictness  x0 x1 h = some r) : qm_Ret mX11_strictness (0, [some (qm_i x0), some (qm_i x1)], [], h) (qm_Gi r) := by
  unfold qX11_strictness at ho
  refine qm_Ret.sts 1 (f' := (1, [some (qm_i x0), some (qm_i x1)], [qm_i x0], h)) rfl ?_
  refine qm_Ret.ne (t := 14) (e := 4) rfl (fun hc => ?_) (fun hc => ?_)
  · rw [if_pos hc] at ho
    refine qm_Ret.sts 1 (f' := (5, [some (qm_i x0), some (qm_i x1)], [qm_i x1], h)) rfl ?_
    refine qm_Ret.ne (t := 12) (e := 8) rfl (fun hc => ?_) (fun hc => ?_)
    · rw [if_pos hc] at ho
      cases ho
      exact qm_Ret.ret 3 rfl
    · rw [if_neg hc] at ho
      cases ho
      exact qm_Ret.ret 2 rfl
  · rw [if_neg hc] at ho
    refine qm_Ret.sts 1 (f' := (15, [some (qm_i x0), some (qm_i x1)], [qm_i x1], h)) rfl ?_
    refine qm_Ret.ne (t := 22) (e := 18) rfl (fun hc => ?_) (fun hc => ?_)
    · rw [if_pos hc] at ho
      cases ho
      exact qm_Ret.ret 3 rfl
    · rw [if_neg hc] at ho
      cases ho
      exact qm_Ret.ret 2 rfl
theorem cX11_strictness_ok : ∀ q ∈ ([] : List (Nat × Nat × Nat × qm_C)), qm_CallOK RX11 0 0 q.2.1 q.1 q.2.2.1 q.2.2.2 := fun _ h => absurd h List.not_mem_nil
theorem sX11_strictness : qm_Snd yX11_strictness cX11_strictness 2 (some .int) 0 0 wX11_strictness := qm_met (fld := fun k => qm_lk k pfRX11) (con := fun k => qm_lk k pcRX11) (call := fun k => qm_lk k []) (tab := qm_tab aX11_strictness) (plainFor_of_name (by decide)) (qm_fld_ok pfRX11_ok) (qm_con_ok pcRX11_ok) (fun idx kd n f hc => cX11_strictness_ok (idx, kd, n, f) (qm_lk_mem hc)) (qm_tab_ok aX11_strictness_ok) (fun vs h o hw => by
  unfold wX11_strictness at hw
  split at hw
  · obtain ⟨r, hr, rfl⟩ := Option.map_eq_some_iff.mp hw
    exact ⟨Nat.le_of_ble_eq_true rfl, rX11_strictness_0 (hr)⟩
  · cases hw)
-- RX11 unlike(IIZ)I
theorem jX11_unlike : Jvm.Cond.code yX11_unlike cX11_unlike 12 (some .int) ∈ qm_all := List.mem_filter.mpr ⟨by decide +kernel, rfl⟩
theorem iX11_unlike : Jvm.Cond.instanceMethod yX11_unlike ∈ qm_all ∧ Jvm.Cond.selects yX11_unlike.cls yX11_unlike yX11_unlike ∈ qm_all := ⟨List.mem_filter.mpr ⟨by decide +kernel, rfl⟩, List.mem_filter.mpr ⟨by decide +kernel, rfl⟩⟩
def wX11_unlike : qm_C := fun vs h => match vs with
  | [.inr (.inr (some (0, 11, p0))), .inl p1, .inl p2, .inl p3] => (qX11_unlike p0 p1 p2 p3 h).map qm_Gi
  | _ => none
def aX11_unlike : List (Option (Instr × Nat)) := [some (.aload_n 0, 1), some (.getfield 10, 3), none, none, some (.iload_n 1, 1), some (.invokevirtual 93, 3), none, none, some (.astore 4, 2), none, some (.aload_n 0, 1), some (.getfield 10, 3), none, none, some (.iload_n 2, 1), some (.invokevirtual 93, 3), none, none, some (.astore 5, 2), none, some (.aload 4, 2), none, some (.ifnull 8, 3), none, none, some (.aload 5, 2), none, some (.ifnonnull 6, 3), none, none, some (.bipush (-2), 2), none, some (.ireturn, 1), some (.iconst 0, 1), some (.istore 6, 2), none, some (.iconst 0, 1), some (.istore 7, 2), none, some (.iconst 1, 1), some (.istore 8, 2), none, some (.iload 8, 2), none, some (.bipush 8, 2), none, some (.if_icmp .gt 105, 3), none, none, some (.iconst 1, 1), some (.istore 9, 2), none, some (.iload 9, 2), none, some (.bipush 8, 2), none, some (.if_icmp .gt 89, 3), none, none, some (.aload 4, 2), none, some (.iload 8, 2), none, some (.iload 9, 2), none, some (.invokevirtual 131, 3), none, none, some (.iconst (-1), 1), some (.if_icmp .eq 7, 3), none, none, some (.iconst 1, 1), some (.goto 4, 3), none, none, some (.iconst 0, 1), some (.istore 10, 2), none, some (.aload 5, 2), none, some (.iload 8, 2), none, some (.iload 9, 2), none, some (.invokevirtual 131, 3), none, none, some (.iconst (-1), 1), some (.if_icmp .eq 7, 3), none, none, some (.iconst 1, 1), some (.goto 4, 3), none, none, some (.iconst 0, 1), some (.istore 11, 2), none, some (.iload 6, 2), none, some (.iload 10, 2), none, some (.ifCond .eq 12, 3), none, none, some (.iload 11, 2), none, some (.ifCond .ne 7, 3), none, none, some (.iconst 1, 1), some (.goto 4, 3), none, none, some (.iconst 0, 1), some (.iadd, 1), some (.istore 6, 2), none, some (.iload 7, 2), none, some (.iload 11, 2), none, some (.ifCond .eq 12, 3), none, none, some (.iload 10, 2), none, some (.ifCond .ne 7, 3), none, none, some (.iconst 1, 1), some (.goto 4, 3), none, none, some (.iconst 0, 1), some (.iadd, 1), some (.istore 7, 2), none, some (.iinc 9 1, 3), none, none, some (.goto (-90), 3), none, none, some (.iinc 8 1, 3), none, none, some (.goto (-106), 3), none, none, some (.iload_n 3, 1), some (.ifCond .eq 13, 3), none, none, some (.iload 6, 2), none, some (.iload 7, 2), none, some (.invokestatic 204, 3), none, none, some (.goto 8, 3), none, none, some (.iload 6, 2), none, some (.iload 7, 2), none, some (.iadd, 1), some (.ireturn, 1)]
theorem aX11_unlike_ok : qm_tabok cX11_unlike aX11_unlike = true := by decide +kernel
def mX11_unlike : qm_M := ((some .int), (fun k => qm_lk k pfRX11), (fun k => qm_lk k pcRX11), (fun k => qm_lk k [(131, 0, 3, wX0_gapFor), (204, 2, 2, wX11_strictness), (93, 0, 2, wX9_basketAt)]), qm_tab aX11_unlike)
set_option maxRecDepth 20000 in
set_option maxHeartbeats 2000000 in
theorem rX11_unlike_116 {K42 : Int32 → Nat → Nat → Int32 → Int32 → Int32 → qm_H → Option (Int32 × qm_H)} {K52 : Int32 → Nat → Nat → Int32 → Int32 → Int32 → Int32 → qm_H → Option (Int32 × qm_H)} (H42 : ∀ {x3 : Int32} {a4 : Nat} {a5 : Nat} {x6 : Int32} {x7 : Int32} {x8 : Int32} {ad0 : Nat} {xd1 : Int32} {xd2 : Int32} {d9 : Option qm_V} {d10 : Option qm_V} {d11 : Option qm_V} {h : qm_H} {r : Int32 × qm_H}, K42 x3 a4 a5 x6 x7 x8 h = some r → qm_Ret mX11_unlike (42, [some (qm_r 0 11 ad0), some (qm_i xd1), some (qm_i xd2), some (qm_i x3), some (qm_r 0 0 a4), some (qm_r 0 0 a5), some (qm_i x6), some (qm_i x7), some (qm_i x8), d9, d10, d11], [], h) (qm_Gi r)) (H52 : ∀ {x3 : Int32} {a4 : Nat} {a5 : Nat} {x6 : Int32} {x7 : Int32} {x8 : Int32} {x9 : Int32} {ad0 : Nat} {xd1 : Int32} {xd2 : Int32} {d10 : Option qm_V} {d11 : Option qm_V} {h : qm_H} {r : Int32 × qm_H}, K52 x3 a4 a5 x6 x7 x8 x9 h = some r → qm_Ret mX11_unlike (52, [some (qm_r 0 11 ad0), some (qm_i xd1), some (qm_i xd2), some (qm_i x3), some (qm_r 0 0 a4), some (qm_r 0 0 a5), some (qm_i x6), some (qm_i x7), some (qm_i x8), some (qm_i x9), d10, d11], [], h) (qm_Gi r)) {x3 : Int32} {a4 : Nat} {a5 : Nat} {x7 : Int32} {x8 : Int32} {x9 : Int32} {x10 : Int32} {x11 : Int32} {xs0 : Int32} {xs1 : Int32} {ad0 : Nat} {xd1 : Int32} {xd2 : Int32} {xd6 : Int32} {h : qm_H} {r : Int32 × qm_H} (ho : qX11_unlike_116 K42 K52 x3 a4 a5 x7 x8 x9 x10 x11 xs0 xs1 h = some r) : qm_Ret mX11_unlike (116, [some (qm_r 0 11 ad0), some (qm_i xd1), some (qm_i xd2), some (qm_i x3), some (qm_r 0 0 a4), some (qm_r 0 0 a5), some (qm_i xd6), some (qm_i x7), some (qm_i x8), some (qm_i x9), some (qm_i x10), some (qm_i x11)], [qm_i xs0, qm_i xs1], h) (qm_Gi r) := by
  unfold qX11_unlike_116 at ho
  refine qm_Ret.sts 4 (f' := (123, [some (qm_r 0 11 ad0), some (qm_i xd1), some (qm_i xd2), some (qm_i x3), some (qm_r 0 0 a4), some (qm_r 0 0 a5), some (qm_i (xs1 + xs0)), some (qm_i x7), some (qm_i x8), some (qm_i x9), some (qm_i x10), some (qm_i x11)], [qm_i x11, qm_i x7], h)) rfl ?_
  refine qm_Ret.eq (t := 135) (e := 126) rfl (fun hc => ?_) (fun hc => ?_)
  · rw [if_pos hc] at ho
    refine qm_Ret.sts 2 (f' := (137, [some (qm_r 0 11 ad0), some (qm_i xd1), some (qm_i xd2), some (qm_i x3), some (qm_r 0 0 a4), some (qm_r 0 0 a5), some (qm_i (xs1 + xs0)), some (qm_i x7), some (qm_i x8), some (qm_i x9), some (qm_i x10), some (qm_i x11)], [qm_i (x7 + (0 : Int32))], h)) rfl ?_
    refine qm_Ret.lets (F := fun v1 => (137, [some (qm_r 0 11 ad0), some (qm_i xd1), some (qm_i xd2), some (qm_i x3), some (qm_r 0 0 a4), some (qm_r 0 0 a5), some (qm_i (xs1 + xs0)), some (qm_i x7), some (qm_i x8), some (qm_i x9), some (qm_i x10), some (qm_i x11)], [qm_i v1], h)) (G := qm_Gi) ho (fun v1 ho => ?_)
    refine qm_Ret.sts 3 (f' := (52, [some (qm_r 0 11 ad0), some (qm_i xd1), some (qm_i xd2), some (qm_i x3), some (qm_r 0 0 a4), some (qm_r 0 0 a5), some (qm_i (xs1 + xs0)), some (qm_i v1), some (qm_i x8), some (qm_i (x9 + (1 : Int32))), some (qm_i x10), some (qm_i x11)], [], h)) rfl ?_
    exact H52 ho
  · rw [if_neg hc] at ho
    refine qm_Ret.sts 1 (f' := (128, [some (qm_r 0 11 ad0), some (qm_i xd1), some (qm_i xd2), some (qm_i x3), some (qm_r 0 0 a4), some (qm_r 0 0 a5), some (qm_i (xs1 + xs0)), some (qm_i x7), some (qm_i x8), some (qm_i x9), some (qm_i x10), some (qm_i x11)], [qm_i x10, qm_i x7], h)) rfl ?_
    refine qm_Ret.ne (t := 135) (e := 131) rfl (fun hc => ?_) (fun hc => ?_)
    · rw [if_pos hc] at ho
      refine qm_Ret.sts 3 (f' := (137, [some (qm_r 0 11 ad0), some (qm_i xd1), some (qm_i xd2), some (qm_i x3), some (qm_r 0 0 a4), some (qm_r 0 0 a5), some (qm_i (xs1 + xs0)), some (qm_i x7), some (qm_i x8), some (qm_i x9), some (qm_i x10), some (qm_i x11)], [qm_i (x7 + (1 : Int32))], h)) rfl ?_
      refine qm_Ret.lets (F := fun v3 => (137, [some (qm_r 0 11 ad0), some (qm_i xd1), some (qm_i xd2), some (qm_i x3), some (qm_r 0 0 a4), some (qm_r 0 0 a5), some (qm_i (xs1 + xs0)), some (qm_i x7), some (qm_i x8), some (qm_i x9), some (qm_i x10), some (qm_i x11)], [qm_i v3], h)) (G := qm_Gi) ho (fun v3 ho => ?_)
      refine qm_Ret.sts 3 (f' := (52, [some (qm_r 0 11 ad0), some (qm_i xd1), some (qm_i xd2), some (qm_i x3), some (qm_r 0 0 a4), some (qm_r 0 0 a5), some (qm_i (xs1 + xs0)), some (qm_i v3), some (qm_i x8), some (qm_i (x9 + (1 : Int32))), some (qm_i x10), some (qm_i x11)], [], h)) rfl ?_
      exact H52 ho
    · rw [if_neg hc] at ho
      refine qm_Ret.sts 2 (f' := (137, [some (qm_r 0 11 ad0), some (qm_i xd1), some (qm_i xd2), some (qm_i x3), some (qm_r 0 0 a4), some (qm_r 0 0 a5), some (qm_i (xs1 + xs0)), some (qm_i x7), some (qm_i x8), some (qm_i x9), some (qm_i x10), some (qm_i x11)], [qm_i (x7 + (0 : Int32))], h)) rfl ?_
      refine qm_Ret.lets (F := fun v2 => (137, [some (qm_r 0 11 ad0), some (qm_i xd1), some (qm_i xd2), some (qm_i x3), some (qm_r 0 0 a4), some (qm_r 0 0 a5), some (qm_i (xs1 + xs0)), some (qm_i x7), some (qm_i x8), some (qm_i x9), some (qm_i x10), some (qm_i x11)], [qm_i v2], h)) (G := qm_Gi) ho (fun v2 ho => ?_)
      refine qm_Ret.sts 3 (f' := (52, [some (qm_r 0 11 ad0), some (qm_i xd1), some (qm_i xd2), some (qm_i x3), some (qm_r 0 0 a4), some (qm_r 0 0 a5), some (qm_i (xs1 + xs0)), some (qm_i v2), some (qm_i x8), some (qm_i (x9 + (1 : Int32))), some (qm_i x10), some (qm_i x11)], [], h)) rfl ?_
      exact H52 ho
set_option maxRecDepth 20000 in
set_option maxHeartbeats 2000000 in
theorem rX11_unlike_77 {K42 : Int32 → Nat → Nat → Int32 → Int32 → Int32 → qm_H → Option (Int32 × qm_H)} {K52 : Int32 → Nat → Nat → Int32 → Int32 → Int32 → Int32 → qm_H → Option (Int32 × qm_H)} (H42 : ∀ {x3 : Int32} {a4 : Nat} {a5 : Nat} {x6 : Int32} {x7 : Int32} {x8 : Int32} {ad0 : Nat} {xd1 : Int32} {xd2 : Int32} {d9 : Option qm_V} {d10 : Option qm_V} {d11 : Option qm_V} {h : qm_H} {r : Int32 × qm_H}, K42 x3 a4 a5 x6 x7 x8 h = some r → qm_Ret mX11_unlike (42, [some (qm_r 0 11 ad0), some (qm_i xd1), some (qm_i xd2), some (qm_i x3), some (qm_r 0 0 a4), some (qm_r 0 0 a5), some (qm_i x6), some (qm_i x7), some (qm_i x8), d9, d10, d11], [], h) (qm_Gi r)) (H52 : ∀ {x3 : Int32} {a4 : Nat} {a5 : Nat} {x6 : Int32} {x7 : Int32} {x8 : Int32} {x9 : Int32} {ad0 : Nat} {xd1 : Int32} {xd2 : Int32} {d10 : Option qm_V} {d11 : Option qm_V} {h : qm_H} {r : Int32 × qm_H}, K52 x3 a4 a5 x6 x7 x8 x9 h = some r → qm_Ret mX11_unlike (52, [some (qm_r 0 11 ad0), some (qm_i xd1), some (qm_i xd2), some (qm_i x3), some (qm_r 0 0 a4), some (qm_r 0 0 a5), some (qm_i x6), some (qm_i x7), some (qm_i x8), some (qm_i x9), d10, d11], [], h) (qm_Gi r)) {x3 : Int32} {a4 : Nat} {a5 : Nat} {x6 : Int32} {x7 : Int32} {x8 : Int32} {x9 : Int32} {xs0 : Int32} {ad0 : Nat} {xd1 : Int32} {xd2 : Int32} {d10 : Option qm_V} {d11 : Option qm_V} {h : qm_H} {r : Int32 × qm_H} (ho : qX11_unlike_77 K42 K52 x3 a4 a5 x6 x7 x8 x9 xs0 h = some r) : qm_Ret mX11_unlike (77, [some (qm_r 0 11 ad0), some (qm_i xd1), some (qm_i xd2), some (qm_i x3), some (qm_r 0 0 a4), some (qm_r 0 0 a5), some (qm_i x6), some (qm_i x7), some (qm_i x8), some (qm_i x9), d10, d11], [qm_i xs0], h) (qm_Gi r) := by
  unfold qX11_unlike_77 at ho
  refine qm_Ret.sts 4 (f' := (85, [some (qm_r 0 11 ad0), some (qm_i xd1), some (qm_i xd2), some (qm_i x3), some (qm_r 0 0 a4), some (qm_r 0 0 a5), some (qm_i x6), some (qm_i x7), some (qm_i x8), some (qm_i x9), some (qm_i xs0), d11], [qm_i x9, qm_i x8, qm_r 0 0 a5], h)) rfl ?_
  obtain ⟨r2, h1, hr, ho⟩ := qm_b2e ho
  refine qm_Ret.call (X := wX0_gapFor [qm_r 0 0 a5, qm_i x8, qm_i x9] h) (o1 := (some (qm_i r2), h1)) (qm_mp (G := qm_Gi) hr) rfl ?_
  show qm_Ret _ (88, [some (qm_r 0 11 ad0), some (qm_i xd1), some (qm_i xd2), some (qm_i x3), some (qm_r 0 0 a4), some (qm_r 0 0 a5), some (qm_i x6), some (qm_i x7), some (qm_i x8), some (qm_i x9), some (qm_i xs0), d11], [qm_i r2], h1) _
  refine qm_Ret.sts 1 (f' := (89, [some (qm_r 0 11 ad0), some (qm_i xd1), some (qm_i xd2), some (qm_i x3), some (qm_r 0 0 a4), some (qm_r 0 0 a5), some (qm_i x6), some (qm_i x7), some (qm_i x8), some (qm_i x9), some (qm_i xs0), d11], [qm_i (-1 : Int32), qm_i r2], h1)) rfl ?_
  refine qm_Ret.eq (t := 96) (e := 92) rfl (fun hc => ?_) (fun hc => ?_)
  · rw [if_pos hc] at ho
    refine qm_Ret.sts 4 (f' := (103, [some (qm_r 0 11 ad0), some (qm_i xd1), some (qm_i xd2), some (qm_i x3), some (qm_r 0 0 a4), some (qm_r 0 0 a5), some (qm_i x6), some (qm_i x7), some (qm_i x8), some (qm_i x9), some (qm_i xs0), some (qm_i (0 : Int32))], [qm_i xs0, qm_i x6], h1)) rfl ?_
    refine qm_Ret.eq (t := 115) (e := 106) rfl (fun hc => ?_) (fun hc => ?_)
    · rw [if_pos hc] at ho
      refine qm_Ret.sts 1 (f' := (116, [some (qm_r 0 11 ad0), some (qm_i xd1), some (qm_i xd2), some (qm_i x3), some (qm_r 0 0 a4), some (qm_r 0 0 a5), some (qm_i x6), some (qm_i x7), some (qm_i x8), some (qm_i x9), some (qm_i xs0), some (qm_i (0 : Int32))], [qm_i (0 : Int32), qm_i x6], h1)) rfl ?_
      exact rX11_unlike_116 H42 H52 ho
    · rw [if_neg hc] at ho
      refine qm_Ret.sts 1 (f' := (108, [some (qm_r 0 11 ad0), some (qm_i xd1), some (qm_i xd2), some (qm_i x3), some (qm_r 0 0 a4), some (qm_r 0 0 a5), some (qm_i x6), some (qm_i x7), some (qm_i x8), some (qm_i x9), some (qm_i xs0), some (qm_i (0 : Int32))], [qm_i (0 : Int32), qm_i x6], h1)) rfl ?_
      refine qm_Ret.ne (t := 115) (e := 111) rfl (fun hc => ?_) (fun hc => ?_)
      · rw [if_pos hc] at ho
        refine qm_Ret.sts 2 (f' := (116, [some (qm_r 0 11 ad0), some (qm_i xd1), some (qm_i xd2), some (qm_i x3), some (qm_r 0 0 a4), some (qm_r 0 0 a5), some (qm_i x6), some (qm_i x7), some (qm_i x8), some (qm_i x9), some (qm_i xs0), some (qm_i (0 : Int32))], [qm_i (1 : Int32), qm_i x6], h1)) rfl ?_
        exact rX11_unlike_116 H42 H52 ho
      · rw [if_neg hc] at ho
        refine qm_Ret.sts 1 (f' := (116, [some (qm_r 0 11 ad0), some (qm_i xd1), some (qm_i xd2), some (qm_i x3), some (qm_r 0 0 a4), some (qm_r 0 0 a5), some (qm_i x6), some (qm_i x7), some (qm_i x8), some (qm_i x9), some (qm_i xs0), some (qm_i (0 : Int32))], [qm_i (0 : Int32), qm_i x6], h1)) rfl ?_
        exact rX11_unlike_116 H42 H52 ho
  · rw [if_neg hc] at ho
    refine qm_Ret.sts 5 (f' := (103, [some (qm_r 0 11 ad0), some (qm_i xd1), some (qm_i xd2), some (qm_i x3), some (qm_r 0 0 a4), some (qm_r 0 0 a5), some (qm_i x6), some (qm_i x7), some (qm_i x8), some (qm_i x9), some (qm_i xs0), some (qm_i (1 : Int32))], [qm_i xs0, qm_i x6], h1)) rfl ?_
    refine qm_Ret.eq (t := 115) (e := 106) rfl (fun hc => ?_) (fun hc => ?_)
    · rw [if_pos hc] at ho
      refine qm_Ret.sts 1 (f' := (116, [some (qm_r 0 11 ad0), some (qm_i xd1), some (qm_i xd2), some (qm_i x3), some (qm_r 0 0 a4), some (qm_r 0 0 a5), some (qm_i x6), some (qm_i x7), some (qm_i x8), some (qm_i x9), some (qm_i xs0), some (qm_i (1 : Int32))], [qm_i (0 : Int32), qm_i x6], h1)) rfl ?_
      exact rX11_unlike_116 H42 H52 ho
    · rw [if_neg hc] at ho
      refine qm_Ret.sts 1 (f' := (108, [some (qm_r 0 11 ad0), some (qm_i xd1), some (qm_i xd2), some (qm_i x3), some (qm_r 0 0 a4), some (qm_r 0 0 a5), some (qm_i x6), some (qm_i x7), some (qm_i x8), some (qm_i x9), some (qm_i xs0), some (qm_i (1 : Int32))], [qm_i (1 : Int32), qm_i x6], h1)) rfl ?_
      refine qm_Ret.ne (t := 115) (e := 111) rfl (fun hc => ?_) (fun hc => ?_)
      · rw [if_pos hc] at ho
        refine qm_Ret.sts 2 (f' := (116, [some (qm_r 0 11 ad0), some (qm_i xd1), some (qm_i xd2), some (qm_i x3), some (qm_r 0 0 a4), some (qm_r 0 0 a5), some (qm_i x6), some (qm_i x7), some (qm_i x8), some (qm_i x9), some (qm_i xs0), some (qm_i (1 : Int32))], [qm_i (1 : Int32), qm_i x6], h1)) rfl ?_
        exact rX11_unlike_116 H42 H52 ho
      · rw [if_neg hc] at ho
        refine qm_Ret.sts 1 (f' := (116, [some (qm_r 0 11 ad0), some (qm_i xd1), some (qm_i xd2), some (qm_i x3), some (qm_r 0 0 a4), some (qm_r 0 0 a5), some (qm_i x6), some (qm_i x7), some (qm_i x8), some (qm_i x9), some (qm_i xs0), some (qm_i (1 : Int32))], [qm_i (0 : Int32), qm_i x6], h1)) rfl ?_
        exact rX11_unlike_116 H42 H52 ho
set_option maxRecDepth 20000 in
set_option maxHeartbeats 2000000 in
theorem rX11_unlike_52 {K42 : Int32 → Nat → Nat → Int32 → Int32 → Int32 → qm_H → Option (Int32 × qm_H)} (H42 : ∀ {x3 : Int32} {a4 : Nat} {a5 : Nat} {x6 : Int32} {x7 : Int32} {x8 : Int32} {ad0 : Nat} {xd1 : Int32} {xd2 : Int32} {d9 : Option qm_V} {d10 : Option qm_V} {d11 : Option qm_V} {h : qm_H} {r : Int32 × qm_H}, K42 x3 a4 a5 x6 x7 x8 h = some r → qm_Ret mX11_unlike (42, [some (qm_r 0 11 ad0), some (qm_i xd1), some (qm_i xd2), some (qm_i x3), some (qm_r 0 0 a4), some (qm_r 0 0 a5), some (qm_i x6), some (qm_i x7), some (qm_i x8), d9, d10, d11], [], h) (qm_Gi r)) : ∀ {fuel : Nat} {x3 : Int32} {a4 : Nat} {a5 : Nat} {x6 : Int32} {x7 : Int32} {x8 : Int32} {x9 : Int32} {ad0 : Nat} {xd1 : Int32} {xd2 : Int32} {d10 : Option qm_V} {d11 : Option qm_V} {h : qm_H} {r : Int32 × qm_H}, qX11_unlike_52 K42 fuel x3 a4 a5 x6 x7 x8 x9 h = some r → qm_Ret mX11_unlike (52, [some (qm_r 0 11 ad0), some (qm_i xd1), some (qm_i xd2), some (qm_i x3), some (qm_r 0 0 a4), some (qm_r 0 0 a5), some (qm_i x6), some (qm_i x7), some (qm_i x8), some (qm_i x9), d10, d11], [], h) (qm_Gi r) := by
  intro fuel
  induction fuel with
  | zero => intros; rename_i ho; cases ho
  | succ n ih =>
    intro x3 a4 a5 x6 x7 x8 x9 ad0 xd1 xd2 d10 d11 h r ho
    unfold qX11_unlike_52 at ho
    refine qm_Ret.sts 2 (f' := (56, [some (qm_r 0 11 ad0), some (qm_i xd1), some (qm_i xd2), some (qm_i x3), some (qm_r 0 0 a4), some (qm_r 0 0 a5), some (qm_i x6), some (qm_i x7), some (qm_i x8), some (qm_i x9), d10, d11], [qm_i (8 : Int32), qm_i x9], h)) rfl ?_
    refine qm_Ret.gt (t := 145) (e := 59) rfl (fun hc => ?_) (fun hc => ?_)
    · rw [if_pos hc] at ho
      refine qm_Ret.sts 2 (f' := (42, [some (qm_r 0 11 ad0), some (qm_i xd1), some (qm_i xd2), some (qm_i x3), some (qm_r 0 0 a4), some (qm_r 0 0 a5), some (qm_i x6), some (qm_i x7), some (qm_i (x8 + (1 : Int32))), some (qm_i x9), d10, d11], [], h)) rfl ?_
      exact H42 ho
    · rw [if_neg hc] at ho
      refine qm_Ret.sts 3 (f' := (65, [some (qm_r 0 11 ad0), some (qm_i xd1), some (qm_i xd2), some (qm_i x3), some (qm_r 0 0 a4), some (qm_r 0 0 a5), some (qm_i x6), some (qm_i x7), some (qm_i x8), some (qm_i x9), d10, d11], [qm_i x9, qm_i x8, qm_r 0 0 a4], h)) rfl ?_
      obtain ⟨r2, h1, hr, ho⟩ := qm_b2e ho
      refine qm_Ret.call (X := wX0_gapFor [qm_r 0 0 a4, qm_i x8, qm_i x9] h) (o1 := (some (qm_i r2), h1)) (qm_mp (G := qm_Gi) hr) rfl ?_
      show qm_Ret _ (68, [some (qm_r 0 11 ad0), some (qm_i xd1), some (qm_i xd2), some (qm_i x3), some (qm_r 0 0 a4), some (qm_r 0 0 a5), some (qm_i x6), some (qm_i x7), some (qm_i x8), some (qm_i x9), d10, d11], [qm_i r2], h1) _
      refine qm_Ret.sts 1 (f' := (69, [some (qm_r 0 11 ad0), some (qm_i xd1), some (qm_i xd2), some (qm_i x3), some (qm_r 0 0 a4), some (qm_r 0 0 a5), some (qm_i x6), some (qm_i x7), some (qm_i x8), some (qm_i x9), d10, d11], [qm_i (-1 : Int32), qm_i r2], h1)) rfl ?_
      refine qm_Ret.eq (t := 76) (e := 72) rfl (fun hc => ?_) (fun hc => ?_)
      · rw [if_pos hc] at ho
        refine qm_Ret.sts 1 (f' := (77, [some (qm_r 0 11 ad0), some (qm_i xd1), some (qm_i xd2), some (qm_i x3), some (qm_r 0 0 a4), some (qm_r 0 0 a5), some (qm_i x6), some (qm_i x7), some (qm_i x8), some (qm_i x9), d10, d11], [qm_i (0 : Int32)], h1)) rfl ?_
        exact rX11_unlike_77 H42 (ih) ho
      · rw [if_neg hc] at ho
        refine qm_Ret.sts 2 (f' := (77, [some (qm_r 0 11 ad0), some (qm_i xd1), some (qm_i xd2), some (qm_i x3), some (qm_r 0 0 a4), some (qm_r 0 0 a5), some (qm_i x6), some (qm_i x7), some (qm_i x8), some (qm_i x9), d10, d11], [qm_i (1 : Int32)], h1)) rfl ?_
        exact rX11_unlike_77 H42 (ih) ho
set_option maxRecDepth 20000 in
set_option maxHeartbeats 2000000 in
theorem rX11_unlike_42   : ∀ {fuel : Nat} {x3 : Int32} {a4 : Nat} {a5 : Nat} {x6 : Int32} {x7 : Int32} {x8 : Int32} {ad0 : Nat} {xd1 : Int32} {xd2 : Int32} {d9 : Option qm_V} {d10 : Option qm_V} {d11 : Option qm_V} {h : qm_H} {r : Int32 × qm_H}, qX11_unlike_42  fuel x3 a4 a5 x6 x7 x8 h = some r → qm_Ret mX11_unlike (42, [some (qm_r 0 11 ad0), some (qm_i xd1), some (qm_i xd2), some (qm_i x3), some (qm_r 0 0 a4), some (qm_r 0 0 a5), some (qm_i x6), some (qm_i x7), some (qm_i x8), d9, d10, d11], [], h) (qm_Gi r) := by
  intro fuel
  induction fuel with
  | zero => intros; rename_i ho; cases ho
  | succ n ih =>
    intro x3 a4 a5 x6 x7 x8 ad0 xd1 xd2 d9 d10 d11 h r ho
    unfold qX11_unlike_42 at ho
    refine qm_Ret.sts 2 (f' := (46, [some (qm_r 0 11 ad0), some (qm_i xd1), some (qm_i xd2), some (qm_i x3), some (qm_r 0 0 a4), some (qm_r 0 0 a5), some (qm_i x6), some (qm_i x7), some (qm_i x8), d9, d10, d11], [qm_i (8 : Int32), qm_i x8], h)) rfl ?_
    refine qm_Ret.gt (t := 151) (e := 49) rfl (fun hc => ?_) (fun hc => ?_)
    · rw [if_pos hc] at ho
      refine qm_Ret.sts 1 (f' := (152, [some (qm_r 0 11 ad0), some (qm_i xd1), some (qm_i xd2), some (qm_i x3), some (qm_r 0 0 a4), some (qm_r 0 0 a5), some (qm_i x6), some (qm_i x7), some (qm_i x8), d9, d10, d11], [qm_i x3], h)) rfl ?_
      refine qm_Ret.eq (t := 165) (e := 155) rfl (fun hc => ?_) (fun hc => ?_)
      · rw [if_pos hc] at ho
        cases ho
        exact qm_Ret.ret 4 rfl
      · rw [if_neg hc] at ho
        refine qm_Ret.sts 2 (f' := (159, [some (qm_r 0 11 ad0), some (qm_i xd1), some (qm_i xd2), some (qm_i x3), some (qm_r 0 0 a4), some (qm_r 0 0 a5), some (qm_i x6), some (qm_i x7), some (qm_i x8), d9, d10, d11], [qm_i x7, qm_i x6], h)) rfl ?_
        obtain ⟨r2, h1, hr, ho⟩ := qm_b2e ho
        refine qm_Ret.call (X := wX11_strictness [qm_i x6, qm_i x7] h) (o1 := (some (qm_i r2), h1)) (qm_mp (G := qm_Gi) hr) rfl ?_
        show qm_Ret _ (162, [some (qm_r 0 11 ad0), some (qm_i xd1), some (qm_i xd2), some (qm_i x3), some (qm_r 0 0 a4), some (qm_r 0 0 a5), some (qm_i x6), some (qm_i x7), some (qm_i x8), d9, d10, d11], [qm_i r2], h1) _
        cases ho
        exact qm_Ret.ret 2 rfl
    · rw [if_neg hc] at ho
      refine qm_Ret.sts 2 (f' := (52, [some (qm_r 0 11 ad0), some (qm_i xd1), some (qm_i xd2), some (qm_i x3), some (qm_r 0 0 a4), some (qm_r 0 0 a5), some (qm_i x6), some (qm_i x7), some (qm_i x8), some (qm_i (1 : Int32)), d10, d11], [], h)) rfl ?_
      exact rX11_unlike_52 (ih) ho
set_option maxRecDepth 20000 in
set_option maxHeartbeats 2000000 in
theorem rX11_unlike_0   {a0 : Nat} {x1 : Int32} {x2 : Int32} {x3 : Int32} {h : qm_H} {r : Int32 × qm_H} (ho : qX11_unlike  a0 x1 x2 x3 h = some r) : qm_Ret mX11_unlike (0, [some (qm_r 0 11 a0), some (qm_i x1), some (qm_i x2), some (qm_i x3), none, none, none, none, none, none, none, none], [], h) (qm_Gi r) := by
  unfold qX11_unlike at ho
  refine qm_Ret.sts 3 (f' := (5, [some (qm_r 0 11 a0), some (qm_i x1), some (qm_i x2), some (qm_i x3), none, none, none, none, none, none, none, none], [qm_i x1, qm_r 0 9 (a0 + 1)], h)) rfl ?_
  obtain ⟨r2, h1, hr, ho⟩ := qm_b2e ho
  refine qm_Ret.call (X := wX9_basketAt [qm_r 0 9 (a0 + 1), qm_i x1] h) (o1 := (some (qm_oo 0 r2), h1)) (qm_mp (G := (qm_Go 0)) hr) rfl ?_
  show qm_Ret _ (8, [some (qm_r 0 11 a0), some (qm_i x1), some (qm_i x2), some (qm_i x3), none, none, none, none, none, none, none, none], [qm_oo 0 r2], h1) _
  refine qm_Ret.sts 4 (f' := (15, [some (qm_r 0 11 a0), some (qm_i x1), some (qm_i x2), some (qm_i x3), some (qm_oo 0 r2), none, none, none, none, none, none, none], [qm_i x2, qm_r 0 9 (a0 + 1)], h1)) rfl ?_
  obtain ⟨r4, h3, hr, ho⟩ := qm_b2e ho
  refine qm_Ret.call (X := wX9_basketAt [qm_r 0 9 (a0 + 1), qm_i x2] h1) (o1 := (some (qm_oo 0 r4), h3)) (qm_mp (G := (qm_Go 0)) hr) rfl ?_
  show qm_Ret _ (18, [some (qm_r 0 11 a0), some (qm_i x1), some (qm_i x2), some (qm_i x3), some (qm_oo 0 r2), none, none, none, none, none, none, none], [qm_oo 0 r4], h3) _
  refine qm_Ret.sts 2 (f' := (22, [some (qm_r 0 11 a0), some (qm_i x1), some (qm_i x2), some (qm_i x3), some (qm_oo 0 r2), some (qm_oo 0 r4), none, none, none, none, none, none], [qm_oo 0 r2], h3)) rfl ?_
  cases r2 with
  | none =>
    simp only [qm_om] at ho
    cases ho
    exact qm_Ret.ret 3 rfl
  | some b5 =>
    simp only [qm_om] at ho
    refine qm_Ret.sts 2 (f' := (27, [some (qm_r 0 11 a0), some (qm_i x1), some (qm_i x2), some (qm_i x3), some (qm_r 0 0 b5), some (qm_oo 0 r4), none, none, none, none, none, none], [qm_oo 0 r4], h3)) rfl ?_
    cases r4 with
    | none =>
      simp only [qm_om] at ho
      cases ho
      exact qm_Ret.ret 3 rfl
    | some b6 =>
      simp only [qm_om] at ho
      refine qm_Ret.sts 7 (f' := (42, [some (qm_r 0 11 a0), some (qm_i x1), some (qm_i x2), some (qm_i x3), some (qm_r 0 0 b5), some (qm_r 0 0 b6), some (qm_i (0 : Int32)), some (qm_i (0 : Int32)), some (qm_i (1 : Int32)), none, none, none], [], h3)) rfl ?_
      exact rX11_unlike_42 ho
theorem cX11_unlike_ok : ∀ q ∈ ([(131, 0, 3, wX0_gapFor), (204, 2, 2, wX11_strictness), (93, 0, 2, wX9_basketAt)] : List (Nat × Nat × Nat × qm_C)), qm_CallOK RX11 3 80 q.2.1 q.1 q.2.2.1 q.2.2.2 := List.forall_mem_cons.mpr ⟨Or.inl ⟨yX0_gapFor, cX0_gapFor, 3, (some .int), 2, 58, _, sX0_gapFor, ⟨by decide, by decide⟩, ⟨jX0_gapFor, kRX11_131, uRX0⟩, ⟨by decide, by decide, rfl⟩, Or.inl ⟨rfl, rfl, iX0_gapFor, recvX0_gapFor⟩⟩, List.forall_mem_cons.mpr ⟨Or.inl ⟨yX11_strictness, cX11_strictness, 2, (some .int), 0, 0, _, sX11_strictness, ⟨by decide, by decide⟩, ⟨jX11_strictness, kRX11_204, uRX11⟩, ⟨by decide, by decide, rfl⟩, Or.inr (Or.inl ⟨rfl, rfl, iX11_strictness⟩)⟩, List.forall_mem_cons.mpr ⟨Or.inl ⟨yX9_basketAt, cX9_basketAt, 2, (some (.object "WillowLaw$Basket")), 0, 0, _, sX9_basketAt, ⟨by decide, by decide⟩, ⟨jX9_basketAt, kRX11_93, uRX9⟩, ⟨by decide, by decide, rfl⟩, Or.inl ⟨rfl, rfl, iX9_basketAt, recvX9_basketAt⟩⟩, fun _ h => absurd h List.not_mem_nil⟩⟩⟩
theorem sX11_unlike : qm_Snd yX11_unlike cX11_unlike 12 (some .int) 3 80 wX11_unlike := qm_met (fld := fun k => qm_lk k pfRX11) (con := fun k => qm_lk k pcRX11) (call := fun k => qm_lk k [(131, 0, 3, wX0_gapFor), (204, 2, 2, wX11_strictness), (93, 0, 2, wX9_basketAt)]) (tab := qm_tab aX11_unlike) (plainFor_of_name (by decide)) (qm_fld_ok pfRX11_ok) (qm_con_ok pcRX11_ok) (fun idx kd n f hc => cX11_unlike_ok (idx, kd, n, f) (qm_lk_mem hc)) (qm_tab_ok aX11_unlike_ok) (fun vs h o hw => by
  unfold wX11_unlike at hw
  split at hw
  · obtain ⟨r, hr, rfl⟩ := Option.map_eq_some_iff.mp hw
    exact ⟨Nat.le_of_ble_eq_true rfl, rX11_unlike_0 (hr)⟩
  · cases hw)
theorem recvX11_unlike : ∀ vs h o, wX11_unlike vs h = some o → ∃ ci a rest, vs = qm_r 0 ci a :: rest ∧ qm_R ci = yX11_unlike.cls := by
  intro vs h o hw
  unfold wX11_unlike at hw
  split at hw
  · exact ⟨_, _, _, rfl, rfl⟩
  · cases hw
-- RX11 stout(IIIZ)I
theorem jX11_stout : Jvm.Cond.code yX11_stout cX11_stout 10 (some .int) ∈ qm_all := List.mem_filter.mpr ⟨by decide +kernel, rfl⟩
theorem iX11_stout : Jvm.Cond.instanceMethod yX11_stout ∈ qm_all ∧ Jvm.Cond.selects yX11_stout.cls yX11_stout yX11_stout ∈ qm_all := ⟨List.mem_filter.mpr ⟨by decide +kernel, rfl⟩, List.mem_filter.mpr ⟨by decide +kernel, rfl⟩⟩
def wX11_stout : qm_C := fun vs h => match vs with
  | [.inr (.inr (some (0, 11, p0))), .inl p1, .inl p2, .inl p3, .inl p4] => (qX11_stout p0 p1 p2 p3 p4 h).map qm_Gi
  | _ => none
def aX11_stout : List (Option (Instr × Nat)) := [some (.aload_n 0, 1), some (.getfield 10, 3), none, none, some (.iload_n 1, 1), some (.invokevirtual 93, 3), none, none, some (.astore 5, 2), none, some (.aload 5, 2), none, some (.ifnull 11, 3), none, none, some (.iload_n 2, 1), some (.iload_n 3, 1), some (.invokestatic 123, 3), none, none, some (.ifCond .ne 5, 3), none, none, some (.iconst (-1), 1), some (.ireturn, 1), some (.iconst (-1), 1), some (.istore 6, 2), none, some (.iconst (-1), 1), some (.istore 7, 2), none, some (.iconst 0, 1), some (.istore 8, 2), none, some (.iload 8, 2), none, some (.bipush 16, 2), none, some (.if_icmp .ge 35, 3), none, none, some (.aload 5, 2), none, some (.iload 8, 2), none, some (.iload_n 2, 1), some (.iload_n 3, 1), some (.invokevirtual 207, 3), none, none, some (.istore 9, 2), none, some (.iload 9, 2), none, some (.iload 7, 2), none, some (.if_icmp .le 11, 3), none, none, some (.iload 8, 2), none, some (.istore 6, 2), none, some (.iload 9, 2), none, some (.istore 7, 2), none, some (.iinc 8 1, 3), none, none, some (.goto (-36), 3), none, none, some (.iload 4, 2), none, some (.ifCond .eq 8, 3), none, none, some (.iload 7, 2), none, some (.goto 5, 3), none, none, some (.iload 6, 2), none, some (.ireturn, 1)]
theorem aX11_stout_ok : qm_tabok cX11_stout aX11_stout = true := by decide +kernel
def mX11_stout : qm_M := ((some .int), (fun k => qm_lk k pfRX11), (fun k => qm_lk k pcRX11), (fun k => qm_lk k [(207, 0, 4, wX0_holdIfThicker), (93, 0, 2, wX9_basketAt), (123, 2, 2, wX11_isSize)]), qm_tab aX11_stout)
set_option maxRecDepth 20000 in
set_option maxHeartbeats 2000000 in
theorem rX11_stout_34   : ∀ {fuel : Nat} {x2 : Int32} {x3 : Int32} {x4 : Int32} {a5 : Nat} {x6 : Int32} {x7 : Int32} {x8 : Int32} {ad0 : Nat} {xd1 : Int32} {d9 : Option qm_V} {h : qm_H} {r : Int32 × qm_H}, qX11_stout_34  fuel x2 x3 x4 a5 x6 x7 x8 h = some r → qm_Ret mX11_stout (34, [some (qm_r 0 11 ad0), some (qm_i xd1), some (qm_i x2), some (qm_i x3), some (qm_i x4), some (qm_r 0 0 a5), some (qm_i x6), some (qm_i x7), some (qm_i x8), d9], [], h) (qm_Gi r) := by
  intro fuel
  induction fuel with
  | zero => intros; rename_i ho; cases ho
  | succ n ih =>
    intro x2 x3 x4 a5 x6 x7 x8 ad0 xd1 d9 h r ho
    unfold qX11_stout_34 at ho
    refine qm_Ret.sts 2 (f' := (38, [some (qm_r 0 11 ad0), some (qm_i xd1), some (qm_i x2), some (qm_i x3), some (qm_i x4), some (qm_r 0 0 a5), some (qm_i x6), some (qm_i x7), some (qm_i x8), d9], [qm_i (16 : Int32), qm_i x8], h)) rfl ?_
    refine qm_Ret.ge (t := 73) (e := 41) rfl (fun hc => ?_) (fun hc => ?_)
    · rw [if_pos hc] at ho
      refine qm_Ret.sts 4 (f' := (47, [some (qm_r 0 11 ad0), some (qm_i xd1), some (qm_i x2), some (qm_i x3), some (qm_i x4), some (qm_r 0 0 a5), some (qm_i x6), some (qm_i x7), some (qm_i x8), d9], [qm_i x3, qm_i x2, qm_i x8, qm_r 0 0 a5], h)) rfl ?_
      obtain ⟨r2, h1, hr, ho⟩ := qm_b2e ho
      refine qm_Ret.call (X := wX0_holdIfThicker [qm_r 0 0 a5, qm_i x8, qm_i x2, qm_i x3] h) (o1 := (some (qm_i r2), h1)) (qm_mp (G := qm_Gi) hr) rfl ?_
      show qm_Ret _ (50, [some (qm_r 0 11 ad0), some (qm_i xd1), some (qm_i x2), some (qm_i x3), some (qm_i x4), some (qm_r 0 0 a5), some (qm_i x6), some (qm_i x7), some (qm_i x8), d9], [qm_i r2], h1) _
      refine qm_Ret.sts 3 (f' := (56, [some (qm_r 0 11 ad0), some (qm_i xd1), some (qm_i x2), some (qm_i x3), some (qm_i x4), some (qm_r 0 0 a5), some (qm_i x6), some (qm_i x7), some (qm_i x8), some (qm_i r2)], [qm_i x7, qm_i r2], h1)) rfl ?_
      refine qm_Ret.le (t := 67) (e := 59) rfl (fun hc => ?_) (fun hc => ?_)
      · rw [if_pos hc] at ho
        refine qm_Ret.sts 6 (f' := (34, [some (qm_r 0 11 ad0), some (qm_i xd1), some (qm_i x2), some (qm_i x3), some (qm_i x4), some (qm_r 0 0 a5), some (qm_i x8), some (qm_i r2), some (qm_i (x8 + (1 : Int32))), some (qm_i r2)], [], h1)) rfl ?_
        exact ih ho
      · rw [if_neg hc] at ho
        refine qm_Ret.sts 2 (f' := (34, [some (qm_r 0 11 ad0), some (qm_i xd1), some (qm_i x2), some (qm_i x3), some (qm_i x4), some (qm_r 0 0 a5), some (qm_i x6), some (qm_i x7), some (qm_i (x8 + (1 : Int32))), some (qm_i r2)], [], h1)) rfl ?_
        exact ih ho
    · rw [if_neg hc] at ho
      refine qm_Ret.sts 1 (f' := (75, [some (qm_r 0 11 ad0), some (qm_i xd1), some (qm_i x2), some (qm_i x3), some (qm_i x4), some (qm_r 0 0 a5), some (qm_i x6), some (qm_i x7), some (qm_i x8), d9], [qm_i x4], h)) rfl ?_
      refine qm_Ret.eq (t := 83) (e := 78) rfl (fun hc => ?_) (fun hc => ?_)
      · rw [if_pos hc] at ho
        cases ho
        exact qm_Ret.ret 2 rfl
      · rw [if_neg hc] at ho
        cases ho
        exact qm_Ret.ret 3 rfl
set_option maxRecDepth 20000 in
set_option maxHeartbeats 2000000 in
theorem rX11_stout_0   {a0 : Nat} {x1 : Int32} {x2 : Int32} {x3 : Int32} {x4 : Int32} {h : qm_H} {r : Int32 × qm_H} (ho : qX11_stout  a0 x1 x2 x3 x4 h = some r) : qm_Ret mX11_stout (0, [some (qm_r 0 11 a0), some (qm_i x1), some (qm_i x2), some (qm_i x3), some (qm_i x4), none, none, none, none, none], [], h) (qm_Gi r) := by
  unfold qX11_stout at ho
  refine qm_Ret.sts 3 (f' := (5, [some (qm_r 0 11 a0), some (qm_i x1), some (qm_i x2), some (qm_i x3), some (qm_i x4), none, none, none, none, none], [qm_i x1, qm_r 0 9 (a0 + 1)], h)) rfl ?_
  obtain ⟨r2, h1, hr, ho⟩ := qm_b2e ho
  refine qm_Ret.call (X := wX9_basketAt [qm_r 0 9 (a0 + 1), qm_i x1] h) (o1 := (some (qm_oo 0 r2), h1)) (qm_mp (G := (qm_Go 0)) hr) rfl ?_
  show qm_Ret _ (8, [some (qm_r 0 11 a0), some (qm_i x1), some (qm_i x2), some (qm_i x3), some (qm_i x4), none, none, none, none, none], [qm_oo 0 r2], h1) _
  refine qm_Ret.sts 2 (f' := (12, [some (qm_r 0 11 a0), some (qm_i x1), some (qm_i x2), some (qm_i x3), some (qm_i x4), some (qm_oo 0 r2), none, none, none, none], [qm_oo 0 r2], h1)) rfl ?_
  cases r2 with
  | none =>
    simp only [qm_om] at ho
    cases ho
    exact qm_Ret.ret 3 rfl
  | some b3 =>
    simp only [qm_om] at ho
    refine qm_Ret.sts 3 (f' := (17, [some (qm_r 0 11 a0), some (qm_i x1), some (qm_i x2), some (qm_i x3), some (qm_i x4), some (qm_r 0 0 b3), none, none, none, none], [qm_i x3, qm_i x2], h1)) rfl ?_
    obtain ⟨r5, h4, hr, ho⟩ := qm_b2e ho
    refine qm_Ret.call (X := wX11_isSize [qm_i x2, qm_i x3] h1) (o1 := (some (qm_i r5), h4)) (qm_mp (G := qm_Gi) hr) rfl ?_
    show qm_Ret _ (20, [some (qm_r 0 11 a0), some (qm_i x1), some (qm_i x2), some (qm_i x3), some (qm_i x4), some (qm_r 0 0 b3), none, none, none, none], [qm_i r5], h4) _
    refine qm_Ret.ne (t := 25) (e := 23) rfl (fun hc => ?_) (fun hc => ?_)
    · rw [if_pos hc] at ho
      cases ho
      exact qm_Ret.ret 2 rfl
    · rw [if_neg hc] at ho
      refine qm_Ret.sts 6 (f' := (34, [some (qm_r 0 11 a0), some (qm_i x1), some (qm_i x2), some (qm_i x3), some (qm_i x4), some (qm_r 0 0 b3), some (qm_i (-1 : Int32)), some (qm_i (-1 : Int32)), some (qm_i (0 : Int32)), none], [], h4)) rfl ?_
      exact rX11_stout_34 ho
theorem cX11_stout_ok : ∀ q ∈ ([(207, 0, 4, wX0_holdIfThicker), (93, 0, 2, wX9_basketAt), (123, 2, 2, wX11_isSize)] : List (Nat × Nat × Nat × qm_C)), qm_CallOK RX11 6 143 q.2.1 q.1 q.2.2.1 q.2.2.2 := List.forall_mem_cons.mpr ⟨Or.inl ⟨yX0_holdIfThicker, cX0_holdIfThicker, 5, (some .int), 5, 119, _, sX0_holdIfThicker, ⟨by decide, by decide⟩, ⟨jX0_holdIfThicker, kRX11_207, uRX0⟩, ⟨by decide, by decide, rfl⟩, Or.inl ⟨rfl, rfl, iX0_holdIfThicker, recvX0_holdIfThicker⟩⟩, List.forall_mem_cons.mpr ⟨Or.inl ⟨yX9_basketAt, cX9_basketAt, 2, (some (.object "WillowLaw$Basket")), 0, 0, _, sX9_basketAt, ⟨by decide, by decide⟩, ⟨jX9_basketAt, kRX11_93, uRX9⟩, ⟨by decide, by decide, rfl⟩, Or.inl ⟨rfl, rfl, iX9_basketAt, recvX9_basketAt⟩⟩, List.forall_mem_cons.mpr ⟨Or.inl ⟨yX11_isSize, cX11_isSize, 2, (some .boolean), 0, 0, _, sX11_isSize, ⟨by decide, by decide⟩, ⟨jX11_isSize, kRX11_123, uRX11⟩, ⟨by decide, by decide, rfl⟩, Or.inr (Or.inl ⟨rfl, rfl, iX11_isSize⟩)⟩, fun _ h => absurd h List.not_mem_nil⟩⟩⟩
theorem sX11_stout : qm_Snd yX11_stout cX11_stout 10 (some .int) 6 143 wX11_stout := qm_met (fld := fun k => qm_lk k pfRX11) (con := fun k => qm_lk k pcRX11) (call := fun k => qm_lk k [(207, 0, 4, wX0_holdIfThicker), (93, 0, 2, wX9_basketAt), (123, 2, 2, wX11_isSize)]) (tab := qm_tab aX11_stout) (plainFor_of_name (by decide)) (qm_fld_ok pfRX11_ok) (qm_con_ok pcRX11_ok) (fun idx kd n f hc => cX11_stout_ok (idx, kd, n, f) (qm_lk_mem hc)) (qm_tab_ok aX11_stout_ok) (fun vs h o hw => by
  unfold wX11_stout at hw
  split at hw
  · obtain ⟨r, hr, rfl⟩ := Option.map_eq_some_iff.mp hw
    exact ⟨Nat.le_of_ble_eq_true rfl, rX11_stout_0 (hr)⟩
  · cases hw)
theorem recvX11_stout : ∀ vs h o, wX11_stout vs h = some o → ∃ ci a rest, vs = qm_r 0 ci a :: rest ∧ qm_R ci = yX11_stout.cls := by
  intro vs h o hw
  unfold wX11_stout at hw
  split at hw
  · exact ⟨_, _, _, rfl, rfl⟩
  · cases hw
-- RX11 soft(IIZ)I
theorem jX11_soft : Jvm.Cond.code yX11_soft cX11_soft 10 (some .int) ∈ qm_all := List.mem_filter.mpr ⟨by decide +kernel, rfl⟩
theorem iX11_soft : Jvm.Cond.instanceMethod yX11_soft ∈ qm_all ∧ Jvm.Cond.selects yX11_soft.cls yX11_soft yX11_soft ∈ qm_all := ⟨List.mem_filter.mpr ⟨by decide +kernel, rfl⟩, List.mem_filter.mpr ⟨by decide +kernel, rfl⟩⟩
def wX11_soft : qm_C := fun vs h => match vs with
  | [.inr (.inr (some (0, 11, p0))), .inl p1, .inl p2, .inl p3] => (qX11_soft p0 p1 p2 p3 h).map qm_Gi
  | _ => none
def aX11_soft : List (Option (Instr × Nat)) := [some (.aload_n 0, 1), some (.getfield 10, 3), none, none, some (.iload_n 1, 1), some (.invokevirtual 93, 3), none, none, some (.astore 4, 2), none, some (.aload 4, 2), none, some (.ifnull 14, 3), none, none, some (.iload_n 2, 1), some (.iconst 1, 1), some (.if_icmp .lt 9, 3), none, none, some (.iload_n 2, 1), some (.bipush 64, 2), none, some (.if_icmp .le 5, 3), none, none, some (.iconst (-1), 1), some (.ireturn, 1), some (.iconst (-1), 1), some (.istore 5, 2), none, some (.iconst (-1), 1), some (.istore 6, 2), none, some (.iconst 1, 1), some (.istore 7, 2), none, some (.iload 7, 2), none, some (.bipush 8, 2), none, some (.if_icmp .gt 85, 3), none, none, some (.iload_n 2, 1), some (.iload 7, 2), none, some (.idiv, 1), some (.istore 8, 2), none, some (.iload 8, 2), none, some (.iconst 1, 1), some (.if_icmp .lt 31, 3), none, none, some (.iload 8, 2), none, some (.bipush 8, 2), none, some (.if_icmp .gt 24, 3), none, none, some (.iload 7, 2), none, some (.iload 8, 2), none, some (.imul, 1), some (.iload_n 2, 1), some (.if_icmp .ne 15, 3), none, none, some (.aload 4, 2), none, some (.iload 7, 2), none, some (.iload 8, 2), none, some (.invokevirtual 127, 3), none, none, some (.goto 4, 3), none, none, some (.iconst (-1), 1), some (.istore 9, 2), none, some (.iload 9, 2), none, some (.iconst (-1), 1), some (.if_icmp .eq 30, 3), none, none, some (.iload 5, 2), none, some (.iconst (-1), 1), some (.if_icmp .eq 10, 3), none, none, some (.iload 9, 2), none, some (.iload 6, 2), none, some (.if_icmp .ge 17, 3), none, none, some (.bipush 10, 2), none, some (.iload 7, 2), none, some (.imul, 1), some (.iload 8, 2), none, some (.iadd, 1), some (.istore 5, 2), none, some (.iload 9, 2), none, some (.istore 6, 2), none, some (.iinc 7 1, 3), none, none, some (.goto (-86), 3), none, none, some (.iload_n 3, 1), some (.ifCond .eq 8, 3), none, none, some (.iload 6, 2), none, some (.goto 5, 3), none, none, some (.iload 5, 2), none, some (.ireturn, 1)]
theorem aX11_soft_ok : qm_tabok cX11_soft aX11_soft = true := by decide +kernel
def mX11_soft : qm_M := ((some .int), (fun k => qm_lk k pfRX11), (fun k => qm_lk k pcRX11), (fun k => qm_lk k [(127, 0, 3, wX0_holdOf), (93, 0, 2, wX9_basketAt)]), qm_tab aX11_soft)
set_option maxRecDepth 20000 in
set_option maxHeartbeats 2000000 in
theorem rX11_soft_85 {K37 : Int32 → Int32 → Nat → Int32 → Int32 → Int32 → qm_H → Option (Int32 × qm_H)} (H37 : ∀ {x2 : Int32} {x3 : Int32} {a4 : Nat} {x5 : Int32} {x6 : Int32} {x7 : Int32} {ad0 : Nat} {xd1 : Int32} {d8 : Option qm_V} {d9 : Option qm_V} {h : qm_H} {r : Int32 × qm_H}, K37 x2 x3 a4 x5 x6 x7 h = some r → qm_Ret mX11_soft (37, [some (qm_r 0 11 ad0), some (qm_i xd1), some (qm_i x2), some (qm_i x3), some (qm_r 0 0 a4), some (qm_i x5), some (qm_i x6), some (qm_i x7), d8, d9], [], h) (qm_Gi r)) {x2 : Int32} {x3 : Int32} {a4 : Nat} {x5 : Int32} {x6 : Int32} {x7 : Int32} {x8 : Int32} {xs0 : Int32} {ad0 : Nat} {xd1 : Int32} {d9 : Option qm_V} {h : qm_H} {r : Int32 × qm_H} (ho : qX11_soft_85 K37 x2 x3 a4 x5 x6 x7 x8 xs0 h = some r) : qm_Ret mX11_soft (85, [some (qm_r 0 11 ad0), some (qm_i xd1), some (qm_i x2), some (qm_i x3), some (qm_r 0 0 a4), some (qm_i x5), some (qm_i x6), some (qm_i x7), some (qm_i x8), d9], [qm_i xs0], h) (qm_Gi r) := by
  unfold qX11_soft_85 at ho
  refine qm_Ret.sts 3 (f' := (90, [some (qm_r 0 11 ad0), some (qm_i xd1), some (qm_i x2), some (qm_i x3), some (qm_r 0 0 a4), some (qm_i x5), some (qm_i x6), some (qm_i x7), some (qm_i x8), some (qm_i xs0)], [qm_i (-1 : Int32), qm_i xs0], h)) rfl ?_
  refine qm_Ret.eq (t := 120) (e := 93) rfl (fun hc => ?_) (fun hc => ?_)
  · rw [if_pos hc] at ho
    refine qm_Ret.sts 2 (f' := (37, [some (qm_r 0 11 ad0), some (qm_i xd1), some (qm_i x2), some (qm_i x3), some (qm_r 0 0 a4), some (qm_i x5), some (qm_i x6), some (qm_i (x7 + (1 : Int32))), some (qm_i x8), some (qm_i xs0)], [], h)) rfl ?_
    exact H37 ho
  · rw [if_neg hc] at ho
    refine qm_Ret.sts 2 (f' := (96, [some (qm_r 0 11 ad0), some (qm_i xd1), some (qm_i x2), some (qm_i x3), some (qm_r 0 0 a4), some (qm_i x5), some (qm_i x6), some (qm_i x7), some (qm_i x8), some (qm_i xs0)], [qm_i (-1 : Int32), qm_i x5], h)) rfl ?_
    refine qm_Ret.eq (t := 106) (e := 99) rfl (fun hc => ?_) (fun hc => ?_)
    · rw [if_pos hc] at ho
      refine qm_Ret.sts 5 (f' := (114, [some (qm_r 0 11 ad0), some (qm_i xd1), some (qm_i x2), some (qm_i x3), some (qm_r 0 0 a4), some (qm_i x5), some (qm_i x6), some (qm_i x7), some (qm_i x8), some (qm_i xs0)], [qm_i (((10 : Int32) * x7) + x8)], h)) rfl ?_
      refine qm_Ret.lets (F := fun v1 => (114, [some (qm_r 0 11 ad0), some (qm_i xd1), some (qm_i x2), some (qm_i x3), some (qm_r 0 0 a4), some (qm_i x5), some (qm_i x6), some (qm_i x7), some (qm_i x8), some (qm_i xs0)], [qm_i v1], h)) (G := qm_Gi) ho (fun v1 ho => ?_)
      refine qm_Ret.sts 5 (f' := (37, [some (qm_r 0 11 ad0), some (qm_i xd1), some (qm_i x2), some (qm_i x3), some (qm_r 0 0 a4), some (qm_i v1), some (qm_i xs0), some (qm_i (x7 + (1 : Int32))), some (qm_i x8), some (qm_i xs0)], [], h)) rfl ?_
      exact H37 ho
    · rw [if_neg hc] at ho
      refine qm_Ret.sts 2 (f' := (103, [some (qm_r 0 11 ad0), some (qm_i xd1), some (qm_i x2), some (qm_i x3), some (qm_r 0 0 a4), some (qm_i x5), some (qm_i x6), some (qm_i x7), some (qm_i x8), some (qm_i xs0)], [qm_i x6, qm_i xs0], h)) rfl ?_
      refine qm_Ret.ge (t := 120) (e := 106) rfl (fun hc => ?_) (fun hc => ?_)
      · rw [if_pos hc] at ho
        refine qm_Ret.sts 5 (f' := (114, [some (qm_r 0 11 ad0), some (qm_i xd1), some (qm_i x2), some (qm_i x3), some (qm_r 0 0 a4), some (qm_i x5), some (qm_i x6), some (qm_i x7), some (qm_i x8), some (qm_i xs0)], [qm_i (((10 : Int32) * x7) + x8)], h)) rfl ?_
        refine qm_Ret.lets (F := fun v2 => (114, [some (qm_r 0 11 ad0), some (qm_i xd1), some (qm_i x2), some (qm_i x3), some (qm_r 0 0 a4), some (qm_i x5), some (qm_i x6), some (qm_i x7), some (qm_i x8), some (qm_i xs0)], [qm_i v2], h)) (G := qm_Gi) ho (fun v2 ho => ?_)
        refine qm_Ret.sts 5 (f' := (37, [some (qm_r 0 11 ad0), some (qm_i xd1), some (qm_i x2), some (qm_i x3), some (qm_r 0 0 a4), some (qm_i v2), some (qm_i xs0), some (qm_i (x7 + (1 : Int32))), some (qm_i x8), some (qm_i xs0)], [], h)) rfl ?_
        exact H37 ho
      · rw [if_neg hc] at ho
        refine qm_Ret.sts 2 (f' := (37, [some (qm_r 0 11 ad0), some (qm_i xd1), some (qm_i x2), some (qm_i x3), some (qm_r 0 0 a4), some (qm_i x5), some (qm_i x6), some (qm_i (x7 + (1 : Int32))), some (qm_i x8), some (qm_i xs0)], [], h)) rfl ?_
        exact H37 ho
set_option maxRecDepth 20000 in
set_option maxHeartbeats 2000000 in
theorem rX11_soft_37   : ∀ {fuel : Nat} {x2 : Int32} {x3 : Int32} {a4 : Nat} {x5 : Int32} {x6 : Int32} {x7 : Int32} {ad0 : Nat} {xd1 : Int32} {d8 : Option qm_V} {d9 : Option qm_V} {h : qm_H} {r : Int32 × qm_H}, qX11_soft_37  fuel x2 x3 a4 x5 x6 x7 h = some r → qm_Ret mX11_soft (37, [some (qm_r 0 11 ad0), some (qm_i xd1), some (qm_i x2), some (qm_i x3), some (qm_r 0 0 a4), some (qm_i x5), some (qm_i x6), some (qm_i x7), d8, d9], [], h) (qm_Gi r) := by
  intro fuel
  induction fuel with
  | zero => intros; rename_i ho; cases ho
  | succ n ih =>
    intro x2 x3 a4 x5 x6 x7 ad0 xd1 d8 d9 h r ho
    unfold qX11_soft_37 at ho
    refine qm_Ret.sts 2 (f' := (41, [some (qm_r 0 11 ad0), some (qm_i xd1), some (qm_i x2), some (qm_i x3), some (qm_r 0 0 a4), some (qm_i x5), some (qm_i x6), some (qm_i x7), d8, d9], [qm_i (8 : Int32), qm_i x7], h)) rfl ?_
    refine qm_Ret.gt (t := 126) (e := 44) rfl (fun hc => ?_) (fun hc => ?_)
    · rw [if_pos hc] at ho
      refine qm_Ret.sts 1 (f' := (127, [some (qm_r 0 11 ad0), some (qm_i xd1), some (qm_i x2), some (qm_i x3), some (qm_r 0 0 a4), some (qm_i x5), some (qm_i x6), some (qm_i x7), d8, d9], [qm_i x3], h)) rfl ?_
      refine qm_Ret.eq (t := 135) (e := 130) rfl (fun hc => ?_) (fun hc => ?_)
      · rw [if_pos hc] at ho
        cases ho
        exact qm_Ret.ret 2 rfl
      · rw [if_neg hc] at ho
        cases ho
        exact qm_Ret.ret 3 rfl
    · rw [if_neg hc] at ho
      refine qm_Ret.sts 2 (f' := (47, [some (qm_r 0 11 ad0), some (qm_i xd1), some (qm_i x2), some (qm_i x3), some (qm_r 0 0 a4), some (qm_i x5), some (qm_i x6), some (qm_i x7), d8, d9], [qm_i x7, qm_i x2], h)) rfl ?_
      obtain ⟨hg, ho⟩ := qm_ifn ho
      refine qm_Ret.gn (f1 := (48, [some (qm_r 0 11 ad0), some (qm_i xd1), some (qm_i x2), some (qm_i x3), some (qm_r 0 0 a4), some (qm_i x5), some (qm_i x6), some (qm_i x7), d8, d9], [qm_i (x2 / x7)], h)) hg rfl ?_
      refine qm_Ret.sts 3 (f' := (53, [some (qm_r 0 11 ad0), some (qm_i xd1), some (qm_i x2), some (qm_i x3), some (qm_r 0 0 a4), some (qm_i x5), some (qm_i x6), some (qm_i x7), some (qm_i (x2 / x7)), d9], [qm_i (1 : Int32), qm_i (x2 / x7)], h)) rfl ?_
      refine qm_Ret.lt (t := 84) (e := 56) rfl (fun hc => ?_) (fun hc => ?_)
      · rw [if_pos hc] at ho
        refine qm_Ret.sts 1 (f' := (85, [some (qm_r 0 11 ad0), some (qm_i xd1), some (qm_i x2), some (qm_i x3), some (qm_r 0 0 a4), some (qm_i x5), some (qm_i x6), some (qm_i x7), some (qm_i (x2 / x7)), d9], [qm_i (-1 : Int32)], h)) rfl ?_
        exact rX11_soft_85 (ih) ho
      · rw [if_neg hc] at ho
        refine qm_Ret.sts 2 (f' := (60, [some (qm_r 0 11 ad0), some (qm_i xd1), some (qm_i x2), some (qm_i x3), some (qm_r 0 0 a4), some (qm_i x5), some (qm_i x6), some (qm_i x7), some (qm_i (x2 / x7)), d9], [qm_i (8 : Int32), qm_i (x2 / x7)], h)) rfl ?_
        refine qm_Ret.gt (t := 84) (e := 63) rfl (fun hc => ?_) (fun hc => ?_)
        · rw [if_pos hc] at ho
          refine qm_Ret.sts 1 (f' := (85, [some (qm_r 0 11 ad0), some (qm_i xd1), some (qm_i x2), some (qm_i x3), some (qm_r 0 0 a4), some (qm_i x5), some (qm_i x6), some (qm_i x7), some (qm_i (x2 / x7)), d9], [qm_i (-1 : Int32)], h)) rfl ?_
          exact rX11_soft_85 (ih) ho
        · rw [if_neg hc] at ho
          refine qm_Ret.sts 4 (f' := (69, [some (qm_r 0 11 ad0), some (qm_i xd1), some (qm_i x2), some (qm_i x3), some (qm_r 0 0 a4), some (qm_i x5), some (qm_i x6), some (qm_i x7), some (qm_i (x2 / x7)), d9], [qm_i x2, qm_i (x7 * (x2 / x7))], h)) rfl ?_
          refine qm_Ret.ne (t := 84) (e := 72) rfl (fun hc => ?_) (fun hc => ?_)
          · rw [if_pos hc] at ho
            refine qm_Ret.sts 3 (f' := (78, [some (qm_r 0 11 ad0), some (qm_i xd1), some (qm_i x2), some (qm_i x3), some (qm_r 0 0 a4), some (qm_i x5), some (qm_i x6), some (qm_i x7), some (qm_i (x2 / x7)), d9], [qm_i (x2 / x7), qm_i x7, qm_r 0 0 a4], h)) rfl ?_
            obtain ⟨r2, h1, hr, ho⟩ := qm_b2e ho
            refine qm_Ret.call (X := wX0_holdOf [qm_r 0 0 a4, qm_i x7, qm_i (x2 / x7)] h) (o1 := (some (qm_i r2), h1)) (qm_mp (G := qm_Gi) hr) rfl ?_
            show qm_Ret _ (81, [some (qm_r 0 11 ad0), some (qm_i xd1), some (qm_i x2), some (qm_i x3), some (qm_r 0 0 a4), some (qm_i x5), some (qm_i x6), some (qm_i x7), some (qm_i (x2 / x7)), d9], [qm_i r2], h1) _
            refine qm_Ret.sts 1 (f' := (85, [some (qm_r 0 11 ad0), some (qm_i xd1), some (qm_i x2), some (qm_i x3), some (qm_r 0 0 a4), some (qm_i x5), some (qm_i x6), some (qm_i x7), some (qm_i (x2 / x7)), d9], [qm_i r2], h1)) rfl ?_
            exact rX11_soft_85 (ih) ho
          · rw [if_neg hc] at ho
            refine qm_Ret.sts 1 (f' := (85, [some (qm_r 0 11 ad0), some (qm_i xd1), some (qm_i x2), some (qm_i x3), some (qm_r 0 0 a4), some (qm_i x5), some (qm_i x6), some (qm_i x7), some (qm_i (x2 / x7)), d9], [qm_i (-1 : Int32)], h)) rfl ?_
            exact rX11_soft_85 (ih) ho
set_option maxRecDepth 20000 in
set_option maxHeartbeats 2000000 in
theorem rX11_soft_0   {a0 : Nat} {x1 : Int32} {x2 : Int32} {x3 : Int32} {h : qm_H} {r : Int32 × qm_H} (ho : qX11_soft  a0 x1 x2 x3 h = some r) : qm_Ret mX11_soft (0, [some (qm_r 0 11 a0), some (qm_i x1), some (qm_i x2), some (qm_i x3), none, none, none, none, none, none], [], h) (qm_Gi r) := by
  unfold qX11_soft at ho
  refine qm_Ret.sts 3 (f' := (5, [some (qm_r 0 11 a0), some (qm_i x1), some (qm_i x2), some (qm_i x3), none, none, none, none, none, none], [qm_i x1, qm_r 0 9 (a0 + 1)], h)) rfl ?_
  obtain ⟨r2, h1, hr, ho⟩ := qm_b2e ho
  refine qm_Ret.call (X := wX9_basketAt [qm_r 0 9 (a0 + 1), qm_i x1] h) (o1 := (some (qm_oo 0 r2), h1)) (qm_mp (G := (qm_Go 0)) hr) rfl ?_
  show qm_Ret _ (8, [some (qm_r 0 11 a0), some (qm_i x1), some (qm_i x2), some (qm_i x3), none, none, none, none, none, none], [qm_oo 0 r2], h1) _
  refine qm_Ret.sts 2 (f' := (12, [some (qm_r 0 11 a0), some (qm_i x1), some (qm_i x2), some (qm_i x3), some (qm_oo 0 r2), none, none, none, none, none], [qm_oo 0 r2], h1)) rfl ?_
  cases r2 with
  | none =>
    simp only [qm_om] at ho
    cases ho
    exact qm_Ret.ret 3 rfl
  | some b3 =>
    simp only [qm_om] at ho
    refine qm_Ret.sts 3 (f' := (17, [some (qm_r 0 11 a0), some (qm_i x1), some (qm_i x2), some (qm_i x3), some (qm_r 0 0 b3), none, none, none, none, none], [qm_i (1 : Int32), qm_i x2], h1)) rfl ?_
    refine qm_Ret.lt (t := 26) (e := 20) rfl (fun hc => ?_) (fun hc => ?_)
    · rw [if_pos hc] at ho
      cases ho
      exact qm_Ret.ret 2 rfl
    · rw [if_neg hc] at ho
      refine qm_Ret.sts 2 (f' := (23, [some (qm_r 0 11 a0), some (qm_i x1), some (qm_i x2), some (qm_i x3), some (qm_r 0 0 b3), none, none, none, none, none], [qm_i (64 : Int32), qm_i x2], h1)) rfl ?_
      refine qm_Ret.le (t := 28) (e := 26) rfl (fun hc => ?_) (fun hc => ?_)
      · rw [if_pos hc] at ho
        cases ho
        exact qm_Ret.ret 2 rfl
      · rw [if_neg hc] at ho
        refine qm_Ret.sts 6 (f' := (37, [some (qm_r 0 11 a0), some (qm_i x1), some (qm_i x2), some (qm_i x3), some (qm_r 0 0 b3), some (qm_i (-1 : Int32)), some (qm_i (-1 : Int32)), some (qm_i (1 : Int32)), none, none], [], h1)) rfl ?_
        exact rX11_soft_37 ho
theorem cX11_soft_ok : ∀ q ∈ ([(127, 0, 3, wX0_holdOf), (93, 0, 2, wX9_basketAt)] : List (Nat × Nat × Nat × qm_C)), qm_CallOK RX11 5 119 q.2.1 q.1 q.2.2.1 q.2.2.2 := List.forall_mem_cons.mpr ⟨Or.inl ⟨yX0_holdOf, cX0_holdOf, 4, (some .int), 4, 96, _, sX0_holdOf, ⟨by decide, by decide⟩, ⟨jX0_holdOf, kRX11_127, uRX0⟩, ⟨by decide, by decide, rfl⟩, Or.inl ⟨rfl, rfl, iX0_holdOf, recvX0_holdOf⟩⟩, List.forall_mem_cons.mpr ⟨Or.inl ⟨yX9_basketAt, cX9_basketAt, 2, (some (.object "WillowLaw$Basket")), 0, 0, _, sX9_basketAt, ⟨by decide, by decide⟩, ⟨jX9_basketAt, kRX11_93, uRX9⟩, ⟨by decide, by decide, rfl⟩, Or.inl ⟨rfl, rfl, iX9_basketAt, recvX9_basketAt⟩⟩, fun _ h => absurd h List.not_mem_nil⟩⟩
theorem sX11_soft : qm_Snd yX11_soft cX11_soft 10 (some .int) 5 119 wX11_soft := qm_met (fld := fun k => qm_lk k pfRX11) (con := fun k => qm_lk k pcRX11) (call := fun k => qm_lk k [(127, 0, 3, wX0_holdOf), (93, 0, 2, wX9_basketAt)]) (tab := qm_tab aX11_soft) (plainFor_of_name (by decide)) (qm_fld_ok pfRX11_ok) (qm_con_ok pcRX11_ok) (fun idx kd n f hc => cX11_soft_ok (idx, kd, n, f) (qm_lk_mem hc)) (qm_tab_ok aX11_soft_ok) (fun vs h o hw => by
  unfold wX11_soft at hw
  split at hw
  · obtain ⟨r, hr, rfl⟩ := Option.map_eq_some_iff.mp hw
    exact ⟨Nat.le_of_ble_eq_true rfl, rX11_soft_0 (hr)⟩
  · cases hw)
theorem recvX11_soft : ∀ vs h o, wX11_soft vs h = some o → ∃ ci a rest, vs = qm_r 0 ci a :: rest ∧ qm_R ci = yX11_soft.cls := by
  intro vs h o hw
  unfold wX11_soft at hw
  split at hw
  · exact ⟨_, _, _, rfl, rfl⟩
  · cases hw
-- RX11 mirrored(II)I
theorem jX11_mirrored : Jvm.Cond.code yX11_mirrored cX11_mirrored 4 (some .int) ∈ qm_all := List.mem_filter.mpr ⟨by decide +kernel, rfl⟩
theorem iX11_mirrored : Jvm.Cond.instanceMethod yX11_mirrored ∈ qm_all ∧ Jvm.Cond.selects yX11_mirrored.cls yX11_mirrored yX11_mirrored ∈ qm_all := ⟨List.mem_filter.mpr ⟨by decide +kernel, rfl⟩, List.mem_filter.mpr ⟨by decide +kernel, rfl⟩⟩
def wX11_mirrored : qm_C := fun vs h => match vs with
  | [.inr (.inr (some (0, 11, p0))), .inl p1, .inl p2] => (qX11_mirrored p0 p1 p2 h).map qm_Gi
  | _ => none
def aX11_mirrored : List (Option (Instr × Nat)) := [some (.aload_n 0, 1), some (.getfield 10, 3), none, none, some (.iload_n 1, 1), some (.invokevirtual 93, 3), none, none, some (.astore_n 3, 1), some (.aload_n 3, 1), some (.ifnonnull 5, 3), none, none, some (.iconst (-1), 1), some (.ireturn, 1), some (.iload_n 2, 1), some (.tableswitch 43 0 2 #[28, 33, 38], 28), none, none, none, none, none, none, none, none, none, none, none, none, none, none, none, none, none, none, none, none, none, none, none, none, none, none, none, some (.aload_n 3, 1), some (.invokevirtual 210, 3), none, none, some (.ireturn, 1), some (.aload_n 3, 1), some (.invokevirtual 213, 3), none, none, some (.ireturn, 1), some (.aload_n 3, 1), some (.invokevirtual 216, 3), none, none, some (.ireturn, 1), some (.iconst (-1), 1), some (.ireturn, 1)]
theorem aX11_mirrored_ok : qm_tabok cX11_mirrored aX11_mirrored = true := by decide +kernel
def mX11_mirrored : qm_M := ((some .int), (fun k => qm_lk k pfRX11), (fun k => qm_lk k pcRX11), (fun k => qm_lk k [(93, 0, 2, wX9_basketAt), (210, 0, 1, wX0_mirrors), (213, 0, 1, wX0_crowdedRow), (216, 0, 1, wX0_crowdedColumn)]), qm_tab aX11_mirrored)
set_option maxRecDepth 20000 in
set_option maxHeartbeats 2000000 in
theorem rX11_mirrored_0   {a0 : Nat} {x1 : Int32} {x2 : Int32} {h : qm_H} {r : Int32 × qm_H} (ho : qX11_mirrored  a0 x1 x2 h = some r) : qm_Ret mX11_mirrored (0, [some (qm_r 0 11 a0), some (qm_i x1), some (qm_i x2), none], [], h) (qm_Gi r) := by
  unfold qX11_mirrored at ho
  refine qm_Ret.sts 3 (f' := (5, [some (qm_r 0 11 a0), some (qm_i x1), some (qm_i x2), none], [qm_i x1, qm_r 0 9 (a0 + 1)], h)) rfl ?_
  obtain ⟨r2, h1, hr, ho⟩ := qm_b2e ho
  refine qm_Ret.call (X := wX9_basketAt [qm_r 0 9 (a0 + 1), qm_i x1] h) (o1 := (some (qm_oo 0 r2), h1)) (qm_mp (G := (qm_Go 0)) hr) rfl ?_
  show qm_Ret _ (8, [some (qm_r 0 11 a0), some (qm_i x1), some (qm_i x2), none], [qm_oo 0 r2], h1) _
  refine qm_Ret.sts 2 (f' := (10, [some (qm_r 0 11 a0), some (qm_i x1), some (qm_i x2), some (qm_oo 0 r2)], [qm_oo 0 r2], h1)) rfl ?_
  cases r2 with
  | none =>
    simp only [qm_om] at ho
    cases ho
    exact qm_Ret.ret 3 rfl
  | some b3 =>
    simp only [qm_om] at ho
    refine qm_Ret.sts 2 (f' := (16, [some (qm_r 0 11 a0), some (qm_i x1), some (qm_i x2), some (qm_r 0 0 b3)], [qm_i x2], h1)) rfl ?_
    by_cases hc0 : x2 = (0 : Int32)
    · rw [if_pos hc0] at ho
      refine qm_Ret.sw (z := (0 : Int32)) (f1 := (44, [some (qm_r 0 11 a0), some (qm_i x1), some (qm_i x2), some (qm_r 0 0 b3)], [], h1)) hc0 rfl rfl ?_
      refine qm_Ret.sts 1 (f' := (45, [some (qm_r 0 11 a0), some (qm_i x1), some (qm_i x2), some (qm_r 0 0 b3)], [qm_r 0 0 b3], h1)) rfl ?_
      obtain ⟨r5, h4, hr, ho⟩ := qm_b2e ho
      refine qm_Ret.call (X := wX0_mirrors [qm_r 0 0 b3] h1) (o1 := (some (qm_i r5), h4)) (qm_mp (G := qm_Gi) hr) rfl ?_
      show qm_Ret _ (48, [some (qm_r 0 11 a0), some (qm_i x1), some (qm_i x2), some (qm_r 0 0 b3)], [qm_i r5], h4) _
      cases ho
      exact qm_Ret.ret 1 rfl
    · rw [if_neg hc0] at ho
      by_cases hc1 : x2 = (1 : Int32)
      · rw [if_pos hc1] at ho
        refine qm_Ret.sw (z := (1 : Int32)) (f1 := (49, [some (qm_r 0 11 a0), some (qm_i x1), some (qm_i x2), some (qm_r 0 0 b3)], [], h1)) hc1 rfl rfl ?_
        refine qm_Ret.sts 1 (f' := (50, [some (qm_r 0 11 a0), some (qm_i x1), some (qm_i x2), some (qm_r 0 0 b3)], [qm_r 0 0 b3], h1)) rfl ?_
        obtain ⟨r7, h6, hr, ho⟩ := qm_b2e ho
        refine qm_Ret.call (X := wX0_crowdedRow [qm_r 0 0 b3] h1) (o1 := (some (qm_i r7), h6)) (qm_mp (G := qm_Gi) hr) rfl ?_
        show qm_Ret _ (53, [some (qm_r 0 11 a0), some (qm_i x1), some (qm_i x2), some (qm_r 0 0 b3)], [qm_i r7], h6) _
        cases ho
        exact qm_Ret.ret 1 rfl
      · rw [if_neg hc1] at ho
        by_cases hc2 : x2 = (2 : Int32)
        · rw [if_pos hc2] at ho
          refine qm_Ret.sw (z := (2 : Int32)) (f1 := (54, [some (qm_r 0 11 a0), some (qm_i x1), some (qm_i x2), some (qm_r 0 0 b3)], [], h1)) hc2 rfl rfl ?_
          refine qm_Ret.sts 1 (f' := (55, [some (qm_r 0 11 a0), some (qm_i x1), some (qm_i x2), some (qm_r 0 0 b3)], [qm_r 0 0 b3], h1)) rfl ?_
          obtain ⟨r9, h8, hr, ho⟩ := qm_b2e ho
          refine qm_Ret.call (X := wX0_crowdedColumn [qm_r 0 0 b3] h1) (o1 := (some (qm_i r9), h8)) (qm_mp (G := qm_Gi) hr) rfl ?_
          show qm_Ret _ (58, [some (qm_r 0 11 a0), some (qm_i x1), some (qm_i x2), some (qm_r 0 0 b3)], [qm_i r9], h8) _
          cases ho
          exact qm_Ret.ret 1 rfl
        · rw [if_neg hc2] at ho
          have nhc0 := lv_neT hc0 (show (0 : Int32).toInt = 0 by decide)
          have nhc1 := lv_neT hc1 (show (1 : Int32).toInt = 1 by decide)
          have nhc2 := lv_neT hc2 (show (2 : Int32).toInt = 2 by decide)
          refine qm_Ret.swd (d := 43) (lo := 0) (hi := 2) (pc := 16) (by omega) (by decide) rfl ?_
          show qm_Ret _ (59, [some (qm_r 0 11 a0), some (qm_i x1), some (qm_i x2), some (qm_r 0 0 b3)], [], h1) _
          cases ho
          exact qm_Ret.ret 2 rfl
theorem cX11_mirrored_ok : ∀ q ∈ ([(93, 0, 2, wX9_basketAt), (210, 0, 1, wX0_mirrors), (213, 0, 1, wX0_crowdedRow), (216, 0, 1, wX0_crowdedColumn)] : List (Nat × Nat × Nat × qm_C)), qm_CallOK RX11 3 68 q.2.1 q.1 q.2.2.1 q.2.2.2 := List.forall_mem_cons.mpr ⟨Or.inl ⟨yX9_basketAt, cX9_basketAt, 2, (some (.object "WillowLaw$Basket")), 0, 0, _, sX9_basketAt, ⟨by decide, by decide⟩, ⟨jX9_basketAt, kRX11_93, uRX9⟩, ⟨by decide, by decide, rfl⟩, Or.inl ⟨rfl, rfl, iX9_basketAt, recvX9_basketAt⟩⟩, List.forall_mem_cons.mpr ⟨Or.inl ⟨yX0_mirrors, cX0_mirrors, 6, (some .int), 2, 43, _, sX0_mirrors, ⟨by decide, by decide⟩, ⟨jX0_mirrors, kRX11_210, uRX0⟩, ⟨by decide, by decide, rfl⟩, Or.inl ⟨rfl, rfl, iX0_mirrors, recvX0_mirrors⟩⟩, List.forall_mem_cons.mpr ⟨Or.inl ⟨yX0_crowdedRow, cX0_crowdedRow, 3, (some .int), 2, 43, _, sX0_crowdedRow, ⟨by decide, by decide⟩, ⟨jX0_crowdedRow, kRX11_213, uRX0⟩, ⟨by decide, by decide, rfl⟩, Or.inl ⟨rfl, rfl, iX0_crowdedRow, recvX0_crowdedRow⟩⟩, List.forall_mem_cons.mpr ⟨Or.inl ⟨yX0_crowdedColumn, cX0_crowdedColumn, 3, (some .int), 2, 43, _, sX0_crowdedColumn, ⟨by decide, by decide⟩, ⟨jX0_crowdedColumn, kRX11_216, uRX0⟩, ⟨by decide, by decide, rfl⟩, Or.inl ⟨rfl, rfl, iX0_crowdedColumn, recvX0_crowdedColumn⟩⟩, fun _ h => absurd h List.not_mem_nil⟩⟩⟩⟩
theorem sX11_mirrored : qm_Snd yX11_mirrored cX11_mirrored 4 (some .int) 3 68 wX11_mirrored := qm_met (fld := fun k => qm_lk k pfRX11) (con := fun k => qm_lk k pcRX11) (call := fun k => qm_lk k [(93, 0, 2, wX9_basketAt), (210, 0, 1, wX0_mirrors), (213, 0, 1, wX0_crowdedRow), (216, 0, 1, wX0_crowdedColumn)]) (tab := qm_tab aX11_mirrored) (plainFor_of_name (by decide)) (qm_fld_ok pfRX11_ok) (qm_con_ok pcRX11_ok) (fun idx kd n f hc => cX11_mirrored_ok (idx, kd, n, f) (qm_lk_mem hc)) (qm_tab_ok aX11_mirrored_ok) (fun vs h o hw => by
  unfold wX11_mirrored at hw
  split at hw
  · obtain ⟨r, hr, rfl⟩ := Option.map_eq_some_iff.mp hw
    exact ⟨Nat.le_of_ble_eq_true rfl, rX11_mirrored_0 (hr)⟩
  · cases hw)
theorem recvX11_mirrored : ∀ vs h o, wX11_mirrored vs h = some o → ∃ ci a rest, vs = qm_r 0 ci a :: rest ∧ qm_R ci = yX11_mirrored.cls := by
  intro vs h o hw
  unfold wX11_mirrored at hw
  split at hw
  · exact ⟨_, _, _, rfl, rfl⟩
  · cases hw
-- RX11 deed(III)I
theorem jX11_deed : Jvm.Cond.code yX11_deed cX11_deed 5 (some .int) ∈ qm_all := List.mem_filter.mpr ⟨by decide +kernel, rfl⟩
theorem iX11_deed : Jvm.Cond.instanceMethod yX11_deed ∈ qm_all ∧ Jvm.Cond.selects yX11_deed.cls yX11_deed yX11_deed ∈ qm_all := ⟨List.mem_filter.mpr ⟨by decide +kernel, rfl⟩, List.mem_filter.mpr ⟨by decide +kernel, rfl⟩⟩
def wX11_deed : qm_C := fun vs h => match vs with
  | [.inr (.inr (some (0, 11, p0))), .inl p1, .inl p2, .inl p3] => (qX11_deed p0 p1 p2 p3 h).map qm_Gi
  | _ => none
def aX11_deed : List (Option (Instr × Nat)) := [some (.aload_n 0, 1), some (.getfield 10, 3), none, none, some (.iload_n 1, 1), some (.invokevirtual 219, 3), none, none, some (.astore 4, 2), none, some (.aload 4, 2), none, some (.ifnonnull 6, 3), none, none, some (.bipush (-2), 2), none, some (.ireturn, 1), some (.iload_n 2, 1), some (.iconst (-1), 1), some (.if_icmp .ne 13, 3), none, none, some (.iload_n 3, 1), some (.ifCond .ne 9, 3), none, none, some (.aload 4, 2), none, some (.getfield 223, 3), none, none, some (.ireturn, 1), some (.aload 4, 2), none, some (.iload_n 2, 1), some (.invokevirtual 227, 3), none, none, some (.ifCond .eq 22, 3), none, none, some (.iload_n 3, 1), some (.ifCond .lt 18, 3), none, none, some (.iload_n 3, 1), some (.iconst 4, 1), some (.if_icmp .ge 13, 3), none, none, some (.aload 4, 2), none, some (.iload_n 2, 1), some (.iload_n 3, 1), some (.invokevirtual 230, 3), none, none, some (.goto 5, 3), none, none, some (.bipush (-2), 2), none, some (.ireturn, 1)]
theorem aX11_deed_ok : qm_tabok cX11_deed aX11_deed = true := by decide +kernel
def mX11_deed : qm_M := ((some .int), (fun k => qm_lk k pfRX11), (fun k => qm_lk k pcRX11), (fun k => qm_lk k [(227, 0, 2, wX10_has), (230, 0, 3, wX10_part), (219, 0, 2, wX9_yearAt)]), qm_tab aX11_deed)
set_option maxRecDepth 20000 in
set_option maxHeartbeats 2000000 in
theorem rX11_deed_33   {x2 : Int32} {x3 : Int32} {a4 : Nat} {ad0 : Nat} {xd1 : Int32} {h : qm_H} {r : Int32 × qm_H} (ho : qX11_deed_33  x2 x3 a4 h = some r) : qm_Ret mX11_deed (33, [some (qm_r 0 11 ad0), some (qm_i xd1), some (qm_i x2), some (qm_i x3), some (qm_r 0 10 a4)], [], h) (qm_Gi r) := by
  unfold qX11_deed_33 at ho
  refine qm_Ret.sts 2 (f' := (36, [some (qm_r 0 11 ad0), some (qm_i xd1), some (qm_i x2), some (qm_i x3), some (qm_r 0 10 a4)], [qm_i x2, qm_r 0 10 a4], h)) rfl ?_
  obtain ⟨r2, h1, hr, ho⟩ := qm_b2e ho
  refine qm_Ret.call (X := wX10_has [qm_r 0 10 a4, qm_i x2] h) (o1 := (some (qm_i r2), h1)) (qm_mp (G := qm_Gi) hr) rfl ?_
  show qm_Ret _ (39, [some (qm_r 0 11 ad0), some (qm_i xd1), some (qm_i x2), some (qm_i x3), some (qm_r 0 10 a4)], [qm_i r2], h1) _
  refine qm_Ret.eq (t := 61) (e := 42) rfl (fun hc => ?_) (fun hc => ?_)
  · rw [if_pos hc] at ho
    cases ho
    exact qm_Ret.ret 2 rfl
  · rw [if_neg hc] at ho
    refine qm_Ret.sts 1 (f' := (43, [some (qm_r 0 11 ad0), some (qm_i xd1), some (qm_i x2), some (qm_i x3), some (qm_r 0 10 a4)], [qm_i x3], h1)) rfl ?_
    refine qm_Ret.lt (t := 61) (e := 46) rfl (fun hc => ?_) (fun hc => ?_)
    · rw [if_pos hc] at ho
      cases ho
      exact qm_Ret.ret 2 rfl
    · rw [if_neg hc] at ho
      refine qm_Ret.sts 2 (f' := (48, [some (qm_r 0 11 ad0), some (qm_i xd1), some (qm_i x2), some (qm_i x3), some (qm_r 0 10 a4)], [qm_i (4 : Int32), qm_i x3], h1)) rfl ?_
      refine qm_Ret.ge (t := 61) (e := 51) rfl (fun hc => ?_) (fun hc => ?_)
      · rw [if_pos hc] at ho
        refine qm_Ret.sts 3 (f' := (55, [some (qm_r 0 11 ad0), some (qm_i xd1), some (qm_i x2), some (qm_i x3), some (qm_r 0 10 a4)], [qm_i x3, qm_i x2, qm_r 0 10 a4], h1)) rfl ?_
        obtain ⟨r4, h3, hr, ho⟩ := qm_b2e ho
        refine qm_Ret.call (X := wX10_part [qm_r 0 10 a4, qm_i x2, qm_i x3] h1) (o1 := (some (qm_i r4), h3)) (qm_mp (G := qm_Gi) hr) rfl ?_
        show qm_Ret _ (58, [some (qm_r 0 11 ad0), some (qm_i xd1), some (qm_i x2), some (qm_i x3), some (qm_r 0 10 a4)], [qm_i r4], h3) _
        cases ho
        exact qm_Ret.ret 2 rfl
      · rw [if_neg hc] at ho
        cases ho
        exact qm_Ret.ret 2 rfl
set_option maxRecDepth 20000 in
set_option maxHeartbeats 2000000 in
theorem rX11_deed_0   {a0 : Nat} {x1 : Int32} {x2 : Int32} {x3 : Int32} {h : qm_H} {r : Int32 × qm_H} (ho : qX11_deed  a0 x1 x2 x3 h = some r) : qm_Ret mX11_deed (0, [some (qm_r 0 11 a0), some (qm_i x1), some (qm_i x2), some (qm_i x3), none], [], h) (qm_Gi r) := by
  unfold qX11_deed at ho
  refine qm_Ret.sts 3 (f' := (5, [some (qm_r 0 11 a0), some (qm_i x1), some (qm_i x2), some (qm_i x3), none], [qm_i x1, qm_r 0 9 (a0 + 1)], h)) rfl ?_
  obtain ⟨r2, h1, hr, ho⟩ := qm_b2e ho
  refine qm_Ret.call (X := wX9_yearAt [qm_r 0 9 (a0 + 1), qm_i x1] h) (o1 := (some (qm_oo 10 r2), h1)) (qm_mp (G := (qm_Go 10)) hr) rfl ?_
  show qm_Ret _ (8, [some (qm_r 0 11 a0), some (qm_i x1), some (qm_i x2), some (qm_i x3), none], [qm_oo 10 r2], h1) _
  refine qm_Ret.sts 2 (f' := (12, [some (qm_r 0 11 a0), some (qm_i x1), some (qm_i x2), some (qm_i x3), some (qm_oo 10 r2)], [qm_oo 10 r2], h1)) rfl ?_
  cases r2 with
  | none =>
    simp only [qm_om] at ho
    cases ho
    exact qm_Ret.ret 3 rfl
  | some b3 =>
    simp only [qm_om] at ho
    refine qm_Ret.sts 3 (f' := (20, [some (qm_r 0 11 a0), some (qm_i x1), some (qm_i x2), some (qm_i x3), some (qm_r 0 10 b3)], [qm_i (-1 : Int32), qm_i x2], h1)) rfl ?_
    refine qm_Ret.ne (t := 33) (e := 23) rfl (fun hc => ?_) (fun hc => ?_)
    · rw [if_pos hc] at ho
      refine qm_Ret.sts 1 (f' := (24, [some (qm_r 0 11 a0), some (qm_i x1), some (qm_i x2), some (qm_i x3), some (qm_r 0 10 b3)], [qm_i x3], h1)) rfl ?_
      refine qm_Ret.ne (t := 33) (e := 27) rfl (fun hc => ?_) (fun hc => ?_)
      · rw [if_pos hc] at ho
        cases ho
        exact qm_Ret.ret 3 rfl
      · rw [if_neg hc] at ho
        exact rX11_deed_33 ho
    · rw [if_neg hc] at ho
      exact rX11_deed_33 ho
theorem cX11_deed_ok : ∀ q ∈ ([(227, 0, 2, wX10_has), (230, 0, 3, wX10_part), (219, 0, 2, wX9_yearAt)] : List (Nat × Nat × Nat × qm_C)), qm_CallOK RX11 1 23 q.2.1 q.1 q.2.2.1 q.2.2.2 := List.forall_mem_cons.mpr ⟨Or.inl ⟨yX10_has, cX10_has, 2, (some .boolean), 0, 0, _, sX10_has, ⟨by decide, by decide⟩, ⟨jX10_has, kRX11_227, uRX10⟩, ⟨by decide, by decide, rfl⟩, Or.inl ⟨rfl, rfl, iX10_has, recvX10_has⟩⟩, List.forall_mem_cons.mpr ⟨Or.inl ⟨yX10_part, cX10_part, 4, (some .int), 0, 0, _, sX10_part, ⟨by decide, by decide⟩, ⟨jX10_part, kRX11_230, uRX10⟩, ⟨by decide, by decide, rfl⟩, Or.inl ⟨rfl, rfl, iX10_part, recvX10_part⟩⟩, List.forall_mem_cons.mpr ⟨Or.inl ⟨yX9_yearAt, cX9_yearAt, 2, (some (.object "WillowLaw$Year")), 0, 0, _, sX9_yearAt, ⟨by decide, by decide⟩, ⟨jX9_yearAt, kRX11_219, uRX9⟩, ⟨by decide, by decide, rfl⟩, Or.inl ⟨rfl, rfl, iX9_yearAt, recvX9_yearAt⟩⟩, fun _ h => absurd h List.not_mem_nil⟩⟩⟩
theorem sX11_deed : qm_Snd yX11_deed cX11_deed 5 (some .int) 1 23 wX11_deed := qm_met (fld := fun k => qm_lk k pfRX11) (con := fun k => qm_lk k pcRX11) (call := fun k => qm_lk k [(227, 0, 2, wX10_has), (230, 0, 3, wX10_part), (219, 0, 2, wX9_yearAt)]) (tab := qm_tab aX11_deed) (plainFor_of_name (by decide)) (qm_fld_ok pfRX11_ok) (qm_con_ok pcRX11_ok) (fun idx kd n f hc => cX11_deed_ok (idx, kd, n, f) (qm_lk_mem hc)) (qm_tab_ok aX11_deed_ok) (fun vs h o hw => by
  unfold wX11_deed at hw
  split at hw
  · obtain ⟨r, hr, rfl⟩ := Option.map_eq_some_iff.mp hw
    exact ⟨Nat.le_of_ble_eq_true rfl, rX11_deed_0 (hr)⟩
  · cases hw)
theorem recvX11_deed : ∀ vs h o, wX11_deed vs h = some o → ∃ ci a rest, vs = qm_r 0 ci a :: rest ∧ qm_R ci = yX11_deed.cls := by
  intro vs h o hw
  unfold wX11_deed at hw
  split at hw
  · exact ⟨_, _, _, rfl, rfl⟩
  · cases hw
