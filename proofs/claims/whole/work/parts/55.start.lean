theorem qs_arrO {args : Array Value} {s : State} {C : String} (h : (Jvm.Cond.arrayOver (.object C)).before args s = true) : ∃ cA : ClassId, ArrOfT s cA (.object C) ∧ va_RA s cA (.object C) := by
  obtain ⟨comp, c, k, h1, -, h3, h4, h5⟩ := Cond.arrayOver_spec h
  exact ⟨c, fun n z => ⟨fun k h => (by cases h), k, h3, comp, h4⟩, k, comp, h3, h4, h1, h5⟩
theorem qs_arrs {args : Array Value} {s : State} (hts : ∀ w ∈ lw_tbl, w.before args s = true) : ∀ k, ∃ cA : ClassId, 1 ≤ k → k ≤ 9 → ArrOfT s cA (qm_ety k) ∧ va_RA s cA (qm_ety k) := by
  intro k
  match k with
  | 0 => exact ⟨0, fun h => absurd h (by omega)⟩
  | 1 =>
    obtain ⟨c, k, comp, h1, h2, h3⟩ := Cond.arrayClass_spec (hts _ qs_prim.1)
    exact ⟨c, fun _ _ => ⟨fun n z => ⟨fun k h => (by cases h), k, h2, comp, h3⟩, h1⟩⟩
  | 2 =>
    obtain ⟨c, k, comp, h1, h2, h3⟩ := Cond.arrayClass_spec (hts _ qs_prim.2.1)
    exact ⟨c, fun _ _ => ⟨fun n z => ⟨fun k h => (by cases h), k, h2, comp, h3⟩, h1⟩⟩
  | 3 =>
    obtain ⟨c, k, comp, h1, h2, h3⟩ := Cond.arrayClass_spec (hts _ qs_prim.2.2.1)
    exact ⟨c, fun _ _ => ⟨fun n z => ⟨fun k h => (by cases h), k, h2, comp, h3⟩, h1⟩⟩
  | 4 =>
    obtain ⟨c, k, comp, h1, h2, h3⟩ := Cond.arrayClass_spec (hts _ qs_prim.2.2.2)
    exact ⟨c, fun _ _ => ⟨fun n z => ⟨fun k h => (by cases h), k, h2, comp, h3⟩, h1⟩⟩
  | 5 =>
    obtain ⟨c, h⟩ := qs_arrO (hts _ (qs_over RX0 (by simp)))
    exact ⟨c, fun _ _ => h⟩
  | 6 =>
    obtain ⟨c, h⟩ := qs_arrO (hts _ (qs_over RX1 (by simp)))
    exact ⟨c, fun _ _ => h⟩
  | 7 =>
    obtain ⟨c, h⟩ := qs_arrO (hts _ (qs_over RX2 (by simp)))
    exact ⟨c, fun _ _ => h⟩
  | 8 =>
    obtain ⟨c, h⟩ := qs_arrO (hts _ (qs_over RX9 (by simp)))
    exact ⟨c, fun _ _ => h⟩
  | 9 =>
    obtain ⟨c, h⟩ := qs_arrO (hts _ (qs_over RX10 (by simp)))
    exact ⟨c, fun _ _ => h⟩
  | k + 10 => exact ⟨0, fun _ h => absurd h (by omega)⟩
section QST
variable {p : Program} {l : Launch} {e : Env} {s : State} {m : MethodId} {below : List Frame} {meth : Method} {c : Code} {b L : Nat} {xs : Nat → Int32}
/-- the world of the start -/
theorem qs_world (C0 : lw_At p s m meth c b L xs) : ∃ (D : va_G) (dA : Nat → ClassId) (aS : Nat → Nat), ∀ ai, qL_ai s.heap.size ai → qL_C p s m meth c b L xs (qL_g D dA aS s.heap.size s.heap ai) := by
  have C1 := C0
  obtain ⟨hx, hb, hr, hml, hown, hts, hX, hbl, hlocks, hgv⟩ := C0
  have hs := flat_of_before _ hgv
  have hD : ∀ ci : Nat, ∃ q : ClassId × (Nat → Nat), ∀ r, vwCl[ci]? = some r → u_Kn s r.1 r.2.1 r.2.2 q.1 q.2 := by
    intro ci
    by_cases h : ci < 13
    · obtain ⟨cC, iS, hk⟩ := u_known (ws := lw_tbl) (C := qm_R ci) (T := qm_T ci) (N := qm_nf ci) (n := qm_nf ci) hts (fun w hw => (qm_all_in (qm_u_in ci h w hw)).1) (hts _ (qs_inst ci h))
      exact ⟨(cC, iS), fun r hr => by rw [qm_cl ci h] at hr; cases hr; exact hk⟩
    · refine ⟨(0, fun _ => 0), fun r hr => ?_⟩
      have : ci < 13 := (List.getElem?_eq_some_iff.mp hr).1
      exact absurd this h
  obtain ⟨fD, hD⟩ := Classical.axiomOfChoice hD
  obtain ⟨dA, hA⟩ := Classical.axiomOfChoice (qs_arrs hts)
  have hfree : ∀ a : Nat, a < s.heap.size → ¬ (s.heap.size ≤ a) := fun a h => Nat.not_le.mpr h
  obtain ⟨aS, adV, hS, hev⟩ := vk_Sof (args := #[Value.ref b]) (s := s) (N := 16) (tm := fun i => .string RX3 (qm_sx i)) (len := qm_slen) (byt := qm_sbyt) (A := fun q => s.heap.size ≤ q) (by decide) (fun i hi => hs _ (qs_str1 i hi).1) (fun i hi => hs _ (qs_str1 i hi).2.1) (fun i hi => hs _ (qs_str1 i hi).2.2.1) (fun i hi => hs _ (qs_str1 i hi).2.2.2) (fun i hi j hj => hs _ (qs_str2 i hi j hj)) (fun i j hi hj hne => (qs_str3 i hi j hj hne).elim (fun h => Or.inl (hs _ h)) (fun h => Or.inr (hs _ h))) hfree
  refine ⟨(fun ci => (fD ci).1, fun ci => (fD ci).2), dA, aS, fun ai hai => ⟨C1, qL_GO hai, ⟨fun ci r hr => hD ci r hr, fun k q hq => ?_⟩, ⟨fun n hn => vk_R.of (hts _ (qs_str4 n hn)) (hev n hn), ⟨adV, hS⟩, va_Zof (hts _ qs_stat.1) (hts _ qs_stat.2.1) (va_eqi (hs _ qs_stat2.1)) hfree, va_Zqof (hts _ qs_stat.2.2.1) (hts _ qs_stat.2.2.2) (hs _ qs_stat2.2) hfree, rfl⟩, ⟨fun w hw => va_tabs (qs_nest w hw).2 rfl (hts w (qs_nest w hw).1), fun C hC => va_AO.of (hts _ (qs_over C hC))⟩, ⟨rfl, rfl⟩, qL_ok_11, qL_ok_12⟩⟩
  unfold qm_tys at hq
  rw [List.getElem?_map] at hq
  have hk : k < 9 := by
    by_cases hk : k < 9
    · exact hk
    · rw [List.getElem?_eq_none (by simp; omega)] at hq
      cases hq
  rw [List.getElem?_range hk] at hq
  cases hq
  exact hA (k + 1) (by omega) (by omega)
set_option maxRecDepth 100000 in
set_option maxHeartbeats 8000000 in
theorem qs_start {Rel : qm_H → Prop} (P : qP_all Rel) (R0 : Rel qL_h0) (hL : L ≤ 3072) (C0 : lw_At p s m meth c b L xs) : W p l e room_1 s m #[Value.ref b] below meth c s.heap [] 0 0 (lw_Z below #[Value.ref b] s) (entryFrame m ([Value.ref b] : List Value).toArray 4) := by
  obtain ⟨D, dA, aS, hC⟩ := qs_world C0
  have hai0 : qL_ai s.heap.size (fun _ => none) := ⟨fun _ _ h => (by cases h), fun _ _ _ _ _ h => (by cases h)⟩
  have C1 := hC _ hai0
  obtain ⟨⟨hx, hb, hr, hml, hown, hts, hX, hbl, hlocks, hgv⟩, hG, hK, hSR, hN, -, -, -⟩ := C1
  have tsa : ∀ w ∈ qm_all, w.before #[Value.ref b] s = true := fun w hw => hts w (qm_all_in hw).1
  have A : qz_At p s m #[Value.ref b] c code D (qm_tys (qL_g D dA aS s.heap.size s.heap fun _ => none)) R_law lw_tbl := ⟨hx, hb, hown, hts, hK, fun cl hcl w hw => (qm_all_in (qm_u_in cl hcl w hw)).1⟩
  have hl := lv_entry ([.ref b]) (n := 4) (Nat.le_of_ble_eq_true rfl)
  rw [lg_entry_eq]
  generalize (lg_sl ([.ref b]) ++ List.replicate (4 - (lg_sl ([.ref b])).length) Slot.unset).toArray = ls at hl ⊢
  have hl : lv_has ls 4 [(0, .ref b)] := hl
  have hh : qz_H D s.heap s.heap.size [] s.heap 0 [] := ⟨rfl, fun k q h => by simp at h, ⟨fun i j p q h => by simp at h, fun k q h => by simp at h⟩, fun _ _ _ => rfl, fun _ q => by cases q⟩
  refine qz_new A (ad := s.heap.size) (by omega) (ci := 11) (fs := [.null, .null, .null, .null, .null, .null, .null]) (by decide) cl_7 (qm_all_in zi_RX11).1 (qm_all_in uRX11).1 (by decide +kernel) hh (Nat.le_of_ble_eq_true rfl) (Nat.le_of_ble_eq_true rfl) dm_0 (fun H hh => ?_)
  refine lv_dup hx hb dm_3 rfl ?_
  refine qz_after (g := qL_g D dA aS s.heap.size s.heap fun _ => none) (q := s.heap.size) (i := 0) (w1 := zW11 (qL_g D dA aS s.heap.size s.heap fun _ => none) s.heap.size) hh rfl (by rw [hh.1]) (Or.inr (Nat.le_refl _)) (zW11_ad _ _) (va_runI (S := ⟨hx, hb, hml, hown, hts⟩) (hM := zX11_init l (qL_g D dA aS s.heap.size s.heap fun _ => none) H s.heap.size (by rw [hh.1])) (cw := ⟨callB_of 0 hts (qL_GoodIn zj_X11) rfl rfl rfl (tsa _ uRX11) (tsa _ kl_9) ⟨by decide, by decide, rfl⟩ ⟨Nat.le_of_ble_eq_true rfl, Nat.le_of_ble_eq_true rfl⟩, rfl, tsa _ zn_X11⟩) (As := []) (rest := [.ref s.heap.size]) (b := s.heap.size) ⟨qz_Pc_blind _ _ _ _ _, fun U hU hW => ⟨rfl, hU, hh.2.1 0 _ rfl, va_K.moved hW.alike hK, hN.warm hW⟩⟩ rfl rfl hl.1 rfl (lv_room (Nat.le_of_ble_eq_true rfl)) dm_4 ⟨Nat.le_of_ble_eq_true rfl, Nat.le_of_ble_eq_true rfl⟩) (fun H locs hh => ?_)
  have hh : qz_H D s.heap s.heap.size (zW11 (qL_g D dA aS s.heap.size s.heap fun _ => none) s.heap.size) H 62 locs := hh
  refine lv_astore_n (lv' := [(1, .ref s.heap.size), (0, .ref b)]) hx hb dm_7 rfl hl (by decide) rfl (fun ls hl => ?_)
  refine qz_new A (ad := s.heap.size + 62) rfl (ci := 12) (fs := qz_def 12) (by decide) cl_10 (qm_all_in zi_RX12).1 (qm_all_in uRX12).1 (by decide +kernel) hh (Nat.le_of_ble_eq_true rfl) (Nat.le_of_ble_eq_true rfl) dm_8 (fun H hh => ?_)
  refine lv_dup hx hb dm_11 rfl ?_
  refine qz_after (g := qL_g D dA aS s.heap.size s.heap fun _ => none) (q := s.heap.size + 62) (i := 62) (w1 := zW12 (qL_g D dA aS s.heap.size s.heap fun _ => none) (s.heap.size + 62)) hh rfl (by rw [hh.1]) (Or.inr (Nat.le_add_right _ _)) (zW12_ad _ _) (va_runI (S := ⟨hx, hb, hml, hown, hts⟩) (hM := zX12_init l (qL_g D dA aS s.heap.size s.heap fun _ => none) H (s.heap.size + 62) (by rw [hh.1])) (cw := ⟨callB_of 0 hts (qL_GoodIn zj_X12) rfl rfl rfl (tsa _ uRX12) (tsa _ kl_12) ⟨by decide, by decide, rfl⟩ ⟨Nat.le_of_ble_eq_true rfl, Nat.le_of_ble_eq_true rfl⟩, rfl, tsa _ zn_X12⟩) (As := []) (rest := [.ref (s.heap.size + 62)]) (b := s.heap.size + 62) ⟨qz_Pc_blind _ _ _ _ _, fun U hU hW => ⟨rfl, hU, hh.2.1 62 _ rfl, va_K.moved hW.alike hK, hN.warm hW⟩⟩ rfl rfl hl.1 rfl (lv_room (Nat.le_of_ble_eq_true rfl)) dm_12 ⟨Nat.le_of_ble_eq_true rfl, Nat.le_of_ble_eq_true rfl⟩) (fun H locs hh => ?_)
  have hh : qz_H D s.heap s.heap.size (zW11 (qL_g D dA aS s.heap.size s.heap fun _ => none) s.heap.size ++ zW12 (qL_g D dA aS s.heap.size s.heap fun _ => none) (s.heap.size + 62)) H 88 locs := hh
  refine lv_astore_n (lv' := [(2, .ref (s.heap.size + 62)), (1, .ref s.heap.size), (0, .ref b)]) hx hb dm_15 rfl hl (by decide) rfl (fun ls hl => ?_)
  refine lv_iconst (v := 0) hx hb dm_16 (by decide) ?_
  refine lv_istore_n (lv' := [(3, .int 0), (2, .ref (s.heap.size + 62)), (1, .ref s.heap.size), (0, .ref b)]) hx hb dm_17 rfl hl (by decide) rfl (fun ls hl => ?_)
  refine W.widen (k := 100 + 29 * 0) (n := 12000 + 1291 * 0) (Nat.le_of_ble_eq_true rfl) (Nat.le_of_ble_eq_true rfl) ?_
  refine law_loop (l := l) (e := e) (below := below) P hC hL (L + 6) (fun _ => none) 0 qL_h0 (by omega) hai0 (fun _ _ => rfl) R0 (by omega) ls H locs ⟨hl.1, hl.2.1, fun q hq => hl.2.2 q ?_⟩ (qL_HR0 hh.1 (fun q hq => hh.2.2.2.1 q hq (Nat.ne_of_lt hq)) hh.2.1) (fun q hq => ?_)
  · simp only [List.mem_cons, List.not_mem_nil, or_false] at hq ⊢
    rcases hq with h | h | h | h
    · exact Or.inr (Or.inr (Or.inr h))
    · exact Or.inr (Or.inr (Or.inl h))
    · exact Or.inr (Or.inl h)
    · exact Or.inl h
  · rcases hh.2.2.2.2 q hq with h | h
    · exact Nat.le_of_eq h.symm
    · exact h
end QST
