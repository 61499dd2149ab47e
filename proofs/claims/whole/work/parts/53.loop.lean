/-! THE LAW'S LOOP. -/
theorem dm_0 : decode code 0 = .ok (.new 7, 3) := by decide +kernel
theorem dm_3 : decode code 3 = .ok (.dup, 1) := by decide +kernel
theorem dm_4 : decode code 4 = .ok (.invokespecial 9, 3) := by decide +kernel
theorem dm_7 : decode code 7 = .ok (.astore_n 1, 1) := by decide +kernel
theorem dm_8 : decode code 8 = .ok (.new 10, 3) := by decide +kernel
theorem dm_11 : decode code 11 = .ok (.dup, 1) := by decide +kernel
theorem dm_12 : decode code 12 = .ok (.invokespecial 12, 3) := by decide +kernel
theorem dm_15 : decode code 15 = .ok (.astore_n 2, 1) := by decide +kernel
theorem dm_16 : decode code 16 = .ok (.iconst 0, 1) := by decide +kernel
theorem dm_17 : decode code 17 = .ok (.istore_n 3, 1) := by decide +kernel
theorem dm_18 : decode code 18 = .ok (.iload_n 3, 1) := by decide +kernel
theorem dm_19 : decode code 19 = .ok (.aload_n 0, 1) := by decide +kernel
theorem dm_20 : decode code 20 = .ok (.arraylength, 1) := by decide +kernel
theorem dm_21 : decode code 21 = .ok (.bipush 6, 2) := by decide +kernel
theorem dm_23 : decode code 23 = .ok (.isub, 1) := by decide +kernel
theorem dm_24 : decode code 24 = .ok (.if_icmp .gt 1563, 3) := by decide +kernel
theorem dm_27 : decode code 27 = .ok (.aload_n 0, 1) := by decide +kernel
theorem dm_28 : decode code 28 = .ok (.iload_n 3, 1) := by decide +kernel
theorem dm_29 : decode code 29 = .ok (.iaload, 1) := by decide +kernel
theorem dm_30 : decode code 30 = .ok (.bipush 31, 2) := by decide +kernel
theorem dm_32 : decode code 32 = .ok (.iand, 1) := by decide +kernel
theorem dm_33 : decode code 33 = .ok (.tableswitch 1548 0 31 #[143, 206, 229, 262, 285, 318, 387, 430, 463, 516, 585, 638, 701, 760, 793, 837, 896, 929, 962, 1037, 1070, 1103, 1156, 1209, 1278, 1337, 1380, 1413, 1456, 1479, 1502, 1525], 143) := by decide +kernel
theorem dm_1535 : decode code 1535 = .ok (.aload_n 1, 1) := by decide +kernel
theorem dm_1536 : decode code 1536 = .ok (.aload_n 0, 1) := by decide +kernel
theorem dm_1537 : decode code 1537 = .ok (.iload_n 3, 1) := by decide +kernel
theorem dm_1538 : decode code 1538 = .ok (.iconst 1, 1) := by decide +kernel
theorem dm_1539 : decode code 1539 = .ok (.iadd, 1) := by decide +kernel
theorem dm_1540 : decode code 1540 = .ok (.iaload, 1) := by decide +kernel
theorem dm_1541 : decode code 1541 = .ok (.invokevirtual 142, 3) := by decide +kernel
theorem dm_1544 : decode code 1544 = .ok (.aload_n 2, 1) := by decide +kernel
theorem dm_1545 : decode code 1545 = .ok (.aload_n 0, 1) := by decide +kernel
theorem dm_1546 : decode code 1546 = .ok (.iload_n 3, 1) := by decide +kernel
theorem dm_1547 : decode code 1547 = .ok (.iconst 1, 1) := by decide +kernel
theorem dm_1548 : decode code 1548 = .ok (.iadd, 1) := by decide +kernel
theorem dm_1549 : decode code 1549 = .ok (.iaload, 1) := by decide +kernel
theorem dm_1550 : decode code 1550 = .ok (.invokevirtual 146, 3) := by decide +kernel
theorem dm_1553 : decode code 1553 = .ok (.if_icmp .eq 28, 3) := by decide +kernel
theorem dm_1581 : decode code 1581 = .ok (.iinc 3 6, 3) := by decide +kernel
theorem dm_1584 : decode code 1584 = .ok (.goto (-1566), 3) := by decide +kernel
theorem dm_1587 : decode code 1587 = .ok (.iconst 1, 1) := by decide +kernel
theorem dm_1588 : decode code 1588 = .ok (.ireturn, 1) := by decide +kernel
def qP_0 (Rel : qm_H → Prop) : Prop := ∀ h, Rel h → ∀ x1 x2 x3 x4 x5 : Int32, ∃ (r : Int32) (h1 h2 : qm_H), qX11_feed 0 x1 x2 x3 x4 x5 h = some (r, h1) ∧ qX12_feed 62 x1 x2 x3 x4 x5 h1 = some (r, h2) ∧ Rel h2
def qP_1 (Rel : qm_H → Prop) : Prop := ∀ h, Rel h → ∀ x1 : Int32, ∃ (r : Int32) (h1 h2 : qm_H), qX11_end 0 x1 h = some (r, h1) ∧ qX12_end 62 x1 h1 = some (r, h2) ∧ Rel h2
def qP_2 (Rel : qm_H → Prop) : Prop := ∀ h, Rel h → ∀ x1 x2 : Int32, ∃ (r : Int32) (h1 h2 : qm_H), qX11_text 0 x1 x2 h = some (r, h1) ∧ qX12_text 62 x1 x2 h1 = some (r, h2) ∧ Rel h2
def qP_3 (Rel : qm_H → Prop) : Prop := ∀ h, Rel h → ∀ x1 : Int32, ∃ (r : Int32) (h1 h2 : qm_H), qX11_fault 0 x1 h = some (r, h1) ∧ qX12_fault 62 x1 h1 = some (r, h2) ∧ Rel h2
def qP_4 (Rel : qm_H → Prop) : Prop := ∀ h, Rel h → ∀ x1 x2 : Int32, ∃ (r : Int32) (h1 h2 : qm_H), qX11_basket 0 x1 x2 h = some (r, h1) ∧ qX12_basket 62 x1 x2 h1 = some (r, h2) ∧ Rel h2
def qP_5 (Rel : qm_H → Prop) : Prop := ∀ h, Rel h → ∀ x1 x2 x3 x4 : Int32, ∃ (r : Int32) (h1 h2 : qm_H), qX11_slips 0 x1 x2 x3 (qL_b x4) h = some (r, h1) ∧ qX12_slips 62 x1 x2 x3 (qL_b x4) h1 = some (r, h2) ∧ Rel h2
def qP_6 (Rel : qm_H → Prop) : Prop := ∀ h, Rel h → ∀ x1 x2 x3 : Int32, ∃ (r : Int32) (h1 h2 : qm_H), qX11_deed 0 x1 x2 x3 h = some (r, h1) ∧ qX12_deed 62 x1 x2 x3 h1 = some (r, h2) ∧ Rel h2
def qP_7 (Rel : qm_H → Prop) : Prop := ∀ h, Rel h → ∀ x1 x2 : Int32, ∃ (r : Int32) (h1 h2 : qm_H), qX11_till 0 x1 x2 h = some (r, h1) ∧ qX12_till 62 x1 x2 h1 = some (r, h2) ∧ Rel h2
def qP_8 (Rel : qm_H → Prop) : Prop := ∀ h, Rel h → ∀ x1 x2 x3 x4 : Int32, ∃ (r : Int32) (h1 h2 : qm_H), qX11_state 0 x1 x2 x3 x4 h = some (r, h1) ∧ qX12_state 62 x1 x2 x3 x4 h1 = some (r, h2) ∧ Rel h2
def qP_9 (Rel : qm_H → Prop) : Prop := ∀ h, Rel h → ∀ x1 x2 x3 x4 : Int32, ∃ (r : Int32) (h1 h2 : qm_H), qX11_opens 0 x1 x2 x3 (qL_b x4) h = some (r, h1) ∧ qX12_opens 62 x1 x2 x3 (qL_b x4) h1 = some (r, h2) ∧ Rel h2
def qP_10 (Rel : qm_H → Prop) : Prop := ∀ h, Rel h → ∀ x1 x2 x3 x4 : Int32, ∃ (r : Int32) (h1 h2 : qm_H), qX11_closes 0 x1 x2 x3 x4 h = some (r, h1) ∧ qX12_closes 62 x1 x2 x3 x4 h1 = some (r, h2) ∧ Rel h2
def qP_11 (Rel : qm_H → Prop) : Prop := ∀ h, Rel h → ∀ x1 x2 x3 x4 x5 : Int32, ∃ (r : Int32) (h1 h2 : qm_H), qX11_sieve 0 x1 x2 x3 x4 x5 h = some (r, h1) ∧ qX12_sieve 62 x1 x2 x3 x4 x5 h1 = some (r, h2) ∧ Rel h2
def qP_12 (Rel : qm_H → Prop) : Prop := ∀ h, Rel h → ∀ x1 x2 x3 : Int32, ∃ (r : Int32) (h1 h2 : qm_H), qX11_escape 0 x1 x2 (qL_b x3) h = some (r, h1) ∧ qX12_escape 62 x1 x2 (qL_b x3) h1 = some (r, h2) ∧ Rel h2
def qP_13 (Rel : qm_H → Prop) : Prop := ∀ h, Rel h → ∀ x1 x2 : Int32, ∃ (r : Int32) (h1 h2 : qm_H), qX11_holes 0 x1 x2 h = some (r, h1) ∧ qX12_holes 62 x1 x2 h1 = some (r, h2) ∧ Rel h2
def qP_14 (Rel : qm_H → Prop) : Prop := ∀ h, Rel h → ∀ x1 x2 x3 : Int32, ∃ (r : Int64) (h1 h2 : qm_H), qX11_last 0 x1 x2 x3 h = some (r, h1) ∧ qX12_last 62 x1 x2 x3 h1 = some (r, h2) ∧ Rel h2
def qP_15 (Rel : qm_H → Prop) : Prop := ∀ h, Rel h → ∀ x1 x2 x3 : Int32, ∃ (r : Int32) (h1 h2 : qm_H), qX11_unlike 0 x1 x2 (qL_b x3) h = some (r, h1) ∧ qX12_unlike 62 x1 x2 (qL_b x3) h1 = some (r, h2) ∧ Rel h2
def qP_16 (Rel : qm_H → Prop) : Prop := ∀ h, Rel h → ∀ x1 x2 : Int32, ∃ (r : Int32) (h1 h2 : qm_H), qX11_parish 0 x1 x2 h = some (r, h1) ∧ qX12_parish 62 x1 x2 h1 = some (r, h2) ∧ Rel h2
def qP_17 (Rel : qm_H → Prop) : Prop := ∀ h, Rel h → ∀ x1 x2 : Int32, ∃ (r : Int32) (h1 h2 : qm_H), qX11_cutting 0 x1 x2 h = some (r, h1) ∧ qX12_cutting 62 x1 x2 h1 = some (r, h2) ∧ Rel h2
def qP_18 (Rel : qm_H → Prop) : Prop := ∀ h, Rel h → ∀ x1 x2 x3 : Int32, ∃ (r : Int32) (h1 h2 : qm_H), qX11_game 0 x1 (qL_b x2) (qL_b x3) h = some (r, h1) ∧ qX12_game 62 x1 (qL_b x2) (qL_b x3) h1 = some (r, h2) ∧ Rel h2
def qP_19 (Rel : qm_H → Prop) : Prop := ∀ h, Rel h → ∀ x1 x2 : Int32, ∃ (r : Int32) (h1 h2 : qm_H), qX11_clues 0 x1 x2 h = some (r, h1) ∧ qX12_clues 62 x1 x2 h1 = some (r, h2) ∧ Rel h2
def qP_20 (Rel : qm_H → Prop) : Prop := ∀ h, Rel h → ∀ x1 x2 : Int32, ∃ (r : Int32) (h1 h2 : qm_H), qX11_gaps 0 x1 x2 h = some (r, h1) ∧ qX12_gaps 62 x1 x2 h1 = some (r, h2) ∧ Rel h2
def qP_21 (Rel : qm_H → Prop) : Prop := ∀ h, Rel h → ∀ x1 x2 x3 x4 : Int32, ∃ (r : Int32) (h1 h2 : qm_H), qX11_drawn 0 x1 x2 x3 x4 h = some (r, h1) ∧ qX12_drawn 62 x1 x2 x3 x4 h1 = some (r, h2) ∧ Rel h2
def qP_22 (Rel : qm_H → Prop) : Prop := ∀ h, Rel h → ∀ x1 x2 x3 x4 : Int32, ∃ (r : Int32) (h1 h2 : qm_H), qX11_precedent 0 x1 x2 x3 x4 h = some (r, h1) ∧ qX12_precedent 62 x1 x2 x3 x4 h1 = some (r, h2) ∧ Rel h2
def qP_23 (Rel : qm_H → Prop) : Prop := ∀ h, Rel h → ∀ x1 x2 x3 x4 : Int32, ∃ (r : Int32) (h1 h2 : qm_H), qX11_stout 0 x1 x2 x3 (qL_b x4) h = some (r, h1) ∧ qX12_stout 62 x1 x2 x3 (qL_b x4) h1 = some (r, h2) ∧ Rel h2
def qP_24 (Rel : qm_H → Prop) : Prop := ∀ h, Rel h → ∀ x1 x2 x3 : Int32, ∃ (r : Int32) (h1 h2 : qm_H), qX11_soft 0 x1 x2 (qL_b x3) h = some (r, h1) ∧ qX12_soft 62 x1 x2 (qL_b x3) h1 = some (r, h2) ∧ Rel h2
def qP_25 (Rel : qm_H → Prop) : Prop := ∀ h, Rel h → ∀ x1 x2 x3 : Int32, ∃ (r : Int32) (h1 h2 : qm_H), qX11_tunnel 0 x1 x2 x3 h = some (r, h1) ∧ qX12_tunnel 62 x1 x2 x3 h1 = some (r, h2) ∧ Rel h2
def qP_26 (Rel : qm_H → Prop) : Prop := ∀ h, Rel h → ∀ x1 x2 : Int32, ∃ (r : Int32) (h1 h2 : qm_H), qX11_mirrored 0 x1 x2 h = some (r, h1) ∧ qX12_mirrored 62 x1 x2 h1 = some (r, h2) ∧ Rel h2
def qP_27 (Rel : qm_H → Prop) : Prop := ∀ h, Rel h → ∀ x1 x2 x3 : Int32, ∃ (r : Int32) (h1 h2 : qm_H), qX11_divided 0 x1 x2 x3 h = some (r, h1) ∧ qX12_divided 62 x1 x2 x3 h1 = some (r, h2) ∧ Rel h2
def qP_28 (Rel : qm_H → Prop) : Prop := ∀ h, Rel h → ∀ x1 : Int32, ∃ (r : Int32) (h1 h2 : qm_H), qX11_kept 0 x1 h = some (r, h1) ∧ qX12_kept 62 x1 h1 = some (r, h2) ∧ Rel h2
def qP_29 (Rel : qm_H → Prop) : Prop := ∀ h, Rel h → ∀ x1 : Int32, ∃ (r : Int32) (h1 h2 : qm_H), qX11_count 0 x1 h = some (r, h1) ∧ qX12_count 62 x1 h1 = some (r, h2) ∧ Rel h2
def qP_30 (Rel : qm_H → Prop) : Prop := ∀ h, Rel h → ∀ x1 : Int32, ∃ (r : Int32) (h1 h2 : qm_H), qL_img x1 h = some (r, h1) ∧ qX12_image 62 x1 h1 = some (r, h2) ∧ Rel h2
def qP_31 (Rel : qm_H → Prop) : Prop := ∀ h, Rel h → ∀ x1 : Int32, ∃ (r : Int32) (h1 h2 : qm_H), qX11_again 0 x1 h = some (r, h1) ∧ qX12_again 62 x1 h1 = some (r, h2) ∧ Rel h2
def qP_all (Rel : qm_H → Prop) : Prop := qP_0 Rel ∧ qP_1 Rel ∧ qP_2 Rel ∧ qP_3 Rel ∧ qP_4 Rel ∧ qP_5 Rel ∧ qP_6 Rel ∧ qP_7 Rel ∧ qP_8 Rel ∧ qP_9 Rel ∧ qP_10 Rel ∧ qP_11 Rel ∧ qP_12 Rel ∧ qP_13 Rel ∧ qP_14 Rel ∧ qP_15 Rel ∧ qP_16 Rel ∧ qP_17 Rel ∧ qP_18 Rel ∧ qP_19 Rel ∧ qP_20 Rel ∧ qP_21 Rel ∧ qP_22 Rel ∧ qP_23 Rel ∧ qP_24 Rel ∧ qP_25 Rel ∧ qP_26 Rel ∧ qP_27 Rel ∧ qP_28 Rel ∧ qP_29 Rel ∧ qP_30 Rel ∧ qP_31 Rel
theorem kl_142 : Jvm.Cond.methodLink R_law 142 yX11_image ∈ qm_all := List.mem_filter.mpr ⟨by decide +kernel, rfl⟩
theorem kl_146 : Jvm.Cond.methodLink R_law 146 yX12_image ∈ qm_all := List.mem_filter.mpr ⟨by decide +kernel, rfl⟩
theorem im_X11 : Jvm.Cond.instanceMethod yX11_image ∈ qm_all ∧ Jvm.Cond.selects yX11_image.cls yX11_image yX11_image ∈ qm_all := ⟨List.mem_filter.mpr ⟨by decide +kernel, rfl⟩, List.mem_filter.mpr ⟨by decide +kernel, rfl⟩⟩
section QLL
variable {p : Program} {l : Launch} {e : Env} {s : State} {m : MethodId} {below : List Frame} {meth : Method} {c : Code} {b L : Nat} {xs : Nat → Int32} {g : qm_G} {cells slots i pc : Nat} {S : List qm_V} {h : qm_H}
variable {D : va_G} {dA : Nat → ClassId} {aS : Nat → Nat}
theorem qL_wid {cells' slots' : Nat} (h1 : cells ≤ cells') (h2 : slots ≤ slots') (k : qL_W p l e s m below meth c b g cells' slots' i pc S h) : qL_W p l e s m below meth c b g cells slots i pc S h := by
  intro ls H locs hl hH hlo
  exact W.widen h1 h2 (k ls H locs hl hH hlo)
theorem qL_next (C : qL_C p s m meth c b L xs g) (hL : L ≤ 3072) (hi : i + 6 ≤ L) (kk : qL_W p l e s m below meth c b g cells slots (i + 6) 18 [] h) : qL_W p l e s m below meth c b g cells slots i 1581 [] h := by
  intro ls H locs hl hH hlo
  refine lv_iinc (lv' := [(3, .int (nI (i + 6))), (0, .ref b), (1, .ref (qm_ad g 0)), (2, .ref (qm_ad g 62))]) (v := nI (i + 6)) (k := 3) C.1.1 C.1.2.1 dm_1581 hl rfl (nI_add i 6) (by decide) rfl (fun ls hl => ?_)
  refine lv_goto (tgt := 18) C.1.1 C.1.2.1 dm_1584 (by decide) ?_
  refine kk ls H locs ⟨hl.1, hl.2.1, fun q hq => hl.2.2 q ?_⟩ hH hlo
  simp only [List.mem_cons, List.not_mem_nil, or_false] at hq ⊢
  rcases hq with h | h | h | h
  · exact Or.inr (Or.inl h)
  · exact Or.inr (Or.inr (Or.inl h))
  · exact Or.inr (Or.inr (Or.inr h))
  · exact Or.inl h
theorem qL_end (C : qL_C p s m meth c b L xs g) (h1 : cells ≤ 600000) (h2 : slots ≤ 7302250) : qL_W p l e s m below meth c b g cells slots i 1587 [] h := by
  intro ls H locs hl hH hlo
  refine lv_iconst (v := 1) C.1.1 C.1.2.1 dm_1587 (by decide) ?_
  refine W.widen (k := 600000) (n := 7302250) h1 h2 ?_
  refine va_forget (fun q hq => ?_) ?_
  · rw [← C.2.2.2.2.2.1.1]
    exact hlo q hq
  · exact lw_ret C.1.1 C.1.2.1 C.1.2.2.1 C.1.2.2.2.2.2.2.2.2.1 dm_1588
theorem qL_head (C : qL_C p s m meth c b L xs g) (hL : L ≤ 3072) (hi : i ≤ 4000) (done : L < i + 6 → qL_W p l e s m below meth c b g cells slots i 1587 [] h) (go : i + 6 ≤ L → qL_W p l e s m below meth c b g cells slots i 33 [qm_i (xs i &&& 31)] h) : qL_W p l e s m below meth c b g cells slots i 18 [] h := by
  intro ls H locs hl hH hlo
  have hS := qL_S C hH hlo
  have C0 := C
  obtain ⟨⟨hx, hb, hr, hml, hown, hts, hX, hbl, hlocks, hgv⟩, -, -, -, -, ⟨e1, e2⟩, -⟩ := C
  have hnf : ¬ qm_free g b := by
    rw [← e1] at hbl
    exact Nat.not_le.mpr hbl
  refine lv_iload_n hx hb dm_18 rfl (lv_at hl 3 rfl) ?_
  refine lv_aload_n hx hb dm_19 rfl (lv_at hl 0 rfl) ?_
  refine va_slen hx hb hX hbl hnf hS dm_20 ?_
  refine lv_bipush (v := 6) hx hb dm_21 (by decide) ?_
  refine lv_isub hx hb dm_23 ?_
  have hlt : (Int32.ofNat L - 6 < nI i) ↔ L < i + 6 := by
    rw [Int32.lt_iff_toInt_lt, nI_toInt (by omega), Int32.toInt_sub, show (Int32.ofNat L).toInt = (L : Int) from nI_toInt (by omega), show (6 : Int32).toInt = 6 from rfl, Int.bmod_eq_of_le (by omega) (by omega)]
    omega
  refine lv_icmp_gt (tgt := 1587) hx hb dm_24 (by decide) (fun q => ?_) (fun q => ?_)
  · exact done (hlt.mp q) ls H locs hl hH hlo
  · have h6 : i + 6 ≤ L := Nat.not_lt.mp (fun z => q (hlt.mpr z))
    refine lv_aload_n hx hb dm_27 rfl (lv_at hl 0 rfl) ?_
    refine lv_iload_n hx hb dm_28 rfl (lv_at hl 3 rfl) ?_
    refine va_sld hx hb hX hbl hnf hS (vp_in_nI (show i < L by omega) (by omega)) dm_29 ?_
    rw [nI_clamp (by omega)]
    refine lv_bipush (v := 31) hx hb dm_30 (by decide) ?_
    refine lv_iand hx hb dm_32 ?_
    exact go h6 ls H locs hl hH hlo
/-- the call of image: the world may grow -/
theorem qL_imcall {ai : Nat → Option Nat} (C : qL_C p s m meth c b L xs (qL_g D dA aS s.heap.size s.heap ai)) (hai : qL_ai s.heap.size ai) (h3 : ∀ j, 3 ≤ j → ai j = none) {x r : Int32} {h1 : qm_H} (hf : qL_img x h = some (r, h1)) (hcs : cells + 29 ≤ 600000 ∧ slots + 1291 ≤ 7302250)
    (kk : ∀ ai', qL_ai s.heap.size ai' → (∀ j, 3 ≤ j → ai' j = none) → qL_W p l e s m below meth c b (qL_g D dA aS s.heap.size s.heap ai') (cells + 29) (slots + 1291) i 1544 [qm_i r] h1) : qL_W p l e s m below meth c b (qL_g D dA aS s.heap.size s.heap ai) cells slots i 1541 [qm_i x, qm_r 0 11 0] h := by
  intro ls H locs hl hH hlo
  obtain ⟨⟨hx, hb, hr, hml, hown, hts, hX, hbl, hlocks, hgv⟩, hG, hK, hSR, hNK, ⟨e1, e2⟩, hok, -⟩ := C
  have tsa : ∀ w ∈ qm_all, w.before #[Value.ref b] s = true := fun w hw => hts w (qm_all_in hw).1
  have hM := zX11_image l hai h3 x h H hf (D := D) (dA := dA) (aS := aS) (H0 := s.heap)
  have cb0 : CallB room_1 s #[Value.ref b] R_law 142 yX11_image cX11_image 3 (some .boolean) (Jvm.Cond.code yX11_image cX11_image 3 (some .boolean) :: qm_all) { frames := 3, cells := 29, slots := 1291, locals := 110 } 29 1291 1 := callB_of 1 hts (qL_GoodIn zj_image) rfl rfl rfl (tsa _ uRX11) (tsa _ kl_142) ⟨by decide, by decide, rfl⟩ ⟨Nat.le_of_ble_eq_true rfl, Nat.le_of_ble_eq_true rfl⟩
  have run := va_runV (p := p) (l := l) (e := e) (R := room_1) (below := below) (meth := meth) (H := H) (locs := locs) (cells := cells) (slots := slots) (S := ⟨hx, hb, hml, hown, hts⟩) (hM := hM) (cw := ⟨cb0, tsa _ im_X11.1, tsa _ im_X11.2⟩) (As := [.int x]) (rest := []) (b := s.heap.size) (g := F0 m 1541 ls [.int x, .ref s.heap.size]) ⟨(by
      intro a U fr mk q
      obtain ⟨q0, q1, q2, q3, q4, q5⟩ := q
      exact ⟨q0, q1, q2, va_K.moved (u := U) (U := U.calling fr mk a) (Vm.Alike.refl U.vm) q3, q4.same rfl, qz_NK.same (u := U) (U := U.calling fr mk a) rfl q5⟩), (by
      obtain ⟨cell, c1, c2, c3⟩ := va_recv (q0 := 0) hK (qm_P1 (hH.2.2.1 0 11 0 hok)) (qm_cl 11 (by decide)) rfl
      exact ⟨cell, c1, c2, c3⟩), fun U hU hW => ⟨rfl, hU, by rw [hU]; exact hH, va_K.moved hW.alike hK, hSR.warm hW, hNK.warm hW⟩⟩ rfl rfl hl.1 rfl (lv_room (Nat.le_of_ble_eq_true rfl)) dm_1541 hcs
  intro T hT X
  obtain ⟨v, st₀, t, T', L', g0, X', hL', e3, e4, ⟨hv, ai', hai', h3', hH'⟩, st⟩ := run T hT X
  have hv' : v = some (.int r) := Outcome.returned.inj hv
  subst hv'
  have k1 := kk ai' hai' h3' ls T'.heap (locs ++ L') hl (by rw [e3]; exact hH') (fun q hq => (List.mem_append.mp hq).elim (hlo q) (hL' q))
  obtain ⟨t2, a1, b1⟩ := k1 T' rfl X'
  exact ⟨t2, st t2 a1, b1⟩
theorem qL_C.grow {ai ai' : Nat → Option Nat} (C : qL_C p s m meth c b L xs (qL_g D dA aS s.heap.size s.heap ai)) (hai : qL_ai s.heap.size ai') : qL_C p s m meth c b L xs (qL_g D dA aS s.heap.size s.heap ai') := ⟨C.1, qL_GO hai, C.2.2.1, C.2.2.2.1, C.2.2.2.2.1, C.2.2.2.2.2.1, qL_ok_11, qL_ok_12⟩
set_option maxRecDepth 20000 in
theorem law_30 {ai : Nat → Option Nat} (C : qL_C p s m meth c b L xs (qL_g D dA aS s.heap.size s.heap ai)) (hai : qL_ai s.heap.size ai) (h3 : ∀ j, 3 ≤ j → ai j = none) (hL : L ≤ 3072) (hik : i + 6 ≤ L) (hcs : cells + 29 ≤ 600000 ∧ slots + 1291 ≤ 7302250) {r : Int32} {h1 h2 : qm_H} (q1 : qL_img (xs (i + 1)) h = some (r, h1)) (q2 : qX12_image 62 (xs (i + 1)) h1 = some (r, h2)) (kk : ∀ ai', qL_ai s.heap.size ai' → (∀ j, 3 ≤ j → ai' j = none) → qL_W p l e s m below meth c b (qL_g D dA aS s.heap.size s.heap ai') (cells + 29) (slots + 1291) i 1581 [] h2) : qL_W p l e s m below meth c b (qL_g D dA aS s.heap.size s.heap ai) cells slots i 1535 [] h := by
  refine qL_ldx C dm_1535 ?_
  refine qL_arg C (k := 1) (by decide) (by omega) hL dm_1536 dm_1537 dm_1538 dm_1539 dm_1540 ?_
  refine qL_imcall C hai h3 q1 hcs (fun ai' hai' h3' => ?_)
  have C' := C.grow hai'
  refine qL_ldm C' dm_1544 ?_
  refine qL_arg C' (k := 1) (by decide) (by omega) hL dm_1545 dm_1546 dm_1547 dm_1548 dm_1549 ?_
  refine qL_call C' (vs := [qm_i (xs (i + 1))]) (S := [qm_i r]) (ci := 12) (a := 62) (o := (some (qm_i r), h2)) sX12_image ⟨by decide, by decide⟩ jX12_image kl_146 uRX12 ⟨by decide, by decide, rfl⟩ iX12_image rfl C'.2.2.2.2.2.2.2 (qL_ints _ (by intro v hv; simp only [List.mem_cons, List.not_mem_nil, or_false] at hv; exact ⟨_, hv⟩)) rfl (qm_mp (G := qm_Gi) q2) (Nat.le_of_ble_eq_true rfl) dm_1550 ?_ hcs
  show qL_W p l e s m below meth c b _ (cells + 29) (slots + 1291) i 1553 [qm_i r, qm_i r] h2
  exact qL_cmp C' dm_1553 (tgt := 1581) (by decide) (kk ai' hai' h3')
set_option maxHeartbeats 4000000 in
theorem law_loop {Rel : qm_H → Prop} (P : qP_all Rel) (hC : ∀ ai, qL_ai s.heap.size ai → qL_C p s m meth c b L xs (qL_g D dA aS s.heap.size s.heap ai)) (hL : L ≤ 3072) : ∀ (n : Nat) (ai : Nat → Option Nat) (i : Nat) (h : qm_H), (L + 6 - i) ≤ n → qL_ai s.heap.size ai → (∀ j, 3 ≤ j → ai j = none) → Rel h → i ≤ 4000 → qL_W p l e s m below meth c b (qL_g D dA aS s.heap.size s.heap ai) (100 + 29 * i) (12000 + 1291 * i) i 18 [] h := by
  intro n
  induction n with
  | zero =>
    intro ai i h hn hai h3 hR hi
    exact qL_head (hC ai hai) hL hi (fun _ => qL_end (hC ai hai) (by omega) (by omega)) (fun q => by omega)
  | succ n ih0 =>
    intro ai i h hn hai h3 hR hi
    have C := hC ai hai
    refine qL_head C hL hi (fun _ => qL_end C (by omega) (by omega)) (fun hi6 => ?_)
    intro ls H locs hl hH hlo
    have ih : ∀ (ai : Nat → Option Nat) (i : Nat) (h : qm_H), (L + 6 - i) ≤ n ∧ i ≤ 4000 → qL_ai s.heap.size ai → (∀ j, 3 ≤ j → ai j = none) → Rel h → qL_W p l e s m below meth c b (qL_g D dA aS s.heap.size s.heap ai) (100 + 29 * i) (12000 + 1291 * i) i 18 [] h := fun ai i h q1 q2 q3 q4 => ih0 ai i h q1.1 q2 q3 q4 q1.2
    obtain ⟨j, hj, ej⟩ := pk_andE (xs i) (m := 31) 5 (by decide)
    show W p l e room_1 s m #[Value.ref b] below meth c H locs _ _ (lw_Z below #[Value.ref b] s) (F0 m 33 ls [.int (xs i &&& 31)])
    rw [ej]
    exact match j, hj with
      | 0, _ => by
        obtain ⟨r, h1, h2, q1, q2, q3⟩ := P.1 h hR (xs (i + 1)) (xs (i + 2)) (xs (i + 3)) (xs (i + 4)) (xs (i + 5))
        refine lv_tableIn (tgt := 176) C.1.1 C.1.2.1 dm_33 (by decide) (by decide) rfl (by decide) ?_
        exact law_0 C hL hi6 ⟨by omega, by omega⟩ q1 q2 (qL_next C hL hi6 (qL_wid (by omega) (by omega) (ih ai (i + 6) h2 (by omega) hai h3 q3))) ls H locs hl hH hlo
      | 1, _ => by
        obtain ⟨r, h1, h2, q1, q2, q3⟩ := P.2.1 h hR (xs (i + 1))
        refine lv_tableIn (tgt := 239) C.1.1 C.1.2.1 dm_33 (by decide) (by decide) rfl (by decide) ?_
        exact law_1 C hL hi6 ⟨by omega, by omega⟩ q1 q2 (qL_next C hL hi6 (qL_wid (by omega) (by omega) (ih ai (i + 6) h2 (by omega) hai h3 q3))) ls H locs hl hH hlo
      | 2, _ => by
        obtain ⟨r, h1, h2, q1, q2, q3⟩ := P.2.2.1 h hR (xs (i + 1)) (xs (i + 2))
        refine lv_tableIn (tgt := 262) C.1.1 C.1.2.1 dm_33 (by decide) (by decide) rfl (by decide) ?_
        exact law_2 C hL hi6 ⟨by omega, by omega⟩ q1 q2 (qL_next C hL hi6 (qL_wid (by omega) (by omega) (ih ai (i + 6) h2 (by omega) hai h3 q3))) ls H locs hl hH hlo
      | 3, _ => by
        obtain ⟨r, h1, h2, q1, q2, q3⟩ := P.2.2.2.1 h hR (xs (i + 1))
        refine lv_tableIn (tgt := 295) C.1.1 C.1.2.1 dm_33 (by decide) (by decide) rfl (by decide) ?_
        exact law_3 C hL hi6 ⟨by omega, by omega⟩ q1 q2 (qL_next C hL hi6 (qL_wid (by omega) (by omega) (ih ai (i + 6) h2 (by omega) hai h3 q3))) ls H locs hl hH hlo
      | 4, _ => by
        obtain ⟨r, h1, h2, q1, q2, q3⟩ := P.2.2.2.2.1 h hR (xs (i + 1)) (xs (i + 2))
        refine lv_tableIn (tgt := 318) C.1.1 C.1.2.1 dm_33 (by decide) (by decide) rfl (by decide) ?_
        exact law_4 C hL hi6 ⟨by omega, by omega⟩ q1 q2 (qL_next C hL hi6 (qL_wid (by omega) (by omega) (ih ai (i + 6) h2 (by omega) hai h3 q3))) ls H locs hl hH hlo
      | 5, _ => by
        obtain ⟨r, h1, h2, q1, q2, q3⟩ := P.2.2.2.2.2.1 h hR (xs (i + 1)) (xs (i + 2)) (xs (i + 3)) (xs (i + 4))
        refine lv_tableIn (tgt := 351) C.1.1 C.1.2.1 dm_33 (by decide) (by decide) rfl (by decide) ?_
        exact law_5 C hL hi6 ⟨by omega, by omega⟩ q1 q2 (qL_next C hL hi6 (qL_wid (by omega) (by omega) (ih ai (i + 6) h2 (by omega) hai h3 q3))) ls H locs hl hH hlo
      | 6, _ => by
        obtain ⟨r, h1, h2, q1, q2, q3⟩ := P.2.2.2.2.2.2.1 h hR (xs (i + 1)) (xs (i + 2)) (xs (i + 3))
        refine lv_tableIn (tgt := 420) C.1.1 C.1.2.1 dm_33 (by decide) (by decide) rfl (by decide) ?_
        exact law_6 C hL hi6 ⟨by omega, by omega⟩ q1 q2 (qL_next C hL hi6 (qL_wid (by omega) (by omega) (ih ai (i + 6) h2 (by omega) hai h3 q3))) ls H locs hl hH hlo
      | 7, _ => by
        obtain ⟨r, h1, h2, q1, q2, q3⟩ := P.2.2.2.2.2.2.2.1 h hR (xs (i + 1)) (xs (i + 2))
        refine lv_tableIn (tgt := 463) C.1.1 C.1.2.1 dm_33 (by decide) (by decide) rfl (by decide) ?_
        exact law_7 C hL hi6 ⟨by omega, by omega⟩ q1 q2 (qL_next C hL hi6 (qL_wid (by omega) (by omega) (ih ai (i + 6) h2 (by omega) hai h3 q3))) ls H locs hl hH hlo
      | 8, _ => by
        obtain ⟨r, h1, h2, q1, q2, q3⟩ := P.2.2.2.2.2.2.2.2.1 h hR (xs (i + 1)) (xs (i + 2)) (xs (i + 3)) (xs (i + 4))
        refine lv_tableIn (tgt := 496) C.1.1 C.1.2.1 dm_33 (by decide) (by decide) rfl (by decide) ?_
        exact law_8 C hL hi6 ⟨by omega, by omega⟩ q1 q2 (qL_next C hL hi6 (qL_wid (by omega) (by omega) (ih ai (i + 6) h2 (by omega) hai h3 q3))) ls H locs hl hH hlo
      | 9, _ => by
        obtain ⟨r, h1, h2, q1, q2, q3⟩ := P.2.2.2.2.2.2.2.2.2.1 h hR (xs (i + 1)) (xs (i + 2)) (xs (i + 3)) (xs (i + 4))
        refine lv_tableIn (tgt := 549) C.1.1 C.1.2.1 dm_33 (by decide) (by decide) rfl (by decide) ?_
        exact law_9 C hL hi6 ⟨by omega, by omega⟩ q1 q2 (qL_next C hL hi6 (qL_wid (by omega) (by omega) (ih ai (i + 6) h2 (by omega) hai h3 q3))) ls H locs hl hH hlo
      | 10, _ => by
        obtain ⟨r, h1, h2, q1, q2, q3⟩ := P.2.2.2.2.2.2.2.2.2.2.1 h hR (xs (i + 1)) (xs (i + 2)) (xs (i + 3)) (xs (i + 4))
        refine lv_tableIn (tgt := 618) C.1.1 C.1.2.1 dm_33 (by decide) (by decide) rfl (by decide) ?_
        exact law_10 C hL hi6 ⟨by omega, by omega⟩ q1 q2 (qL_next C hL hi6 (qL_wid (by omega) (by omega) (ih ai (i + 6) h2 (by omega) hai h3 q3))) ls H locs hl hH hlo
      | 11, _ => by
        obtain ⟨r, h1, h2, q1, q2, q3⟩ := P.2.2.2.2.2.2.2.2.2.2.2.1 h hR (xs (i + 1)) (xs (i + 2)) (xs (i + 3)) (xs (i + 4)) (xs (i + 5))
        refine lv_tableIn (tgt := 671) C.1.1 C.1.2.1 dm_33 (by decide) (by decide) rfl (by decide) ?_
        exact law_11 C hL hi6 ⟨by omega, by omega⟩ q1 q2 (qL_next C hL hi6 (qL_wid (by omega) (by omega) (ih ai (i + 6) h2 (by omega) hai h3 q3))) ls H locs hl hH hlo
      | 12, _ => by
        obtain ⟨r, h1, h2, q1, q2, q3⟩ := P.2.2.2.2.2.2.2.2.2.2.2.2.1 h hR (xs (i + 1)) (xs (i + 2)) (xs (i + 3))
        refine lv_tableIn (tgt := 734) C.1.1 C.1.2.1 dm_33 (by decide) (by decide) rfl (by decide) ?_
        exact law_12 C hL hi6 ⟨by omega, by omega⟩ q1 q2 (qL_next C hL hi6 (qL_wid (by omega) (by omega) (ih ai (i + 6) h2 (by omega) hai h3 q3))) ls H locs hl hH hlo
      | 13, _ => by
        obtain ⟨r, h1, h2, q1, q2, q3⟩ := P.2.2.2.2.2.2.2.2.2.2.2.2.2.1 h hR (xs (i + 1)) (xs (i + 2))
        refine lv_tableIn (tgt := 793) C.1.1 C.1.2.1 dm_33 (by decide) (by decide) rfl (by decide) ?_
        exact law_13 C hL hi6 ⟨by omega, by omega⟩ q1 q2 (qL_next C hL hi6 (qL_wid (by omega) (by omega) (ih ai (i + 6) h2 (by omega) hai h3 q3))) ls H locs hl hH hlo
      | 14, _ => by
        obtain ⟨r, h1, h2, q1, q2, q3⟩ := P.2.2.2.2.2.2.2.2.2.2.2.2.2.2.1 h hR (xs (i + 1)) (xs (i + 2)) (xs (i + 3))
        refine lv_tableIn (tgt := 826) C.1.1 C.1.2.1 dm_33 (by decide) (by decide) rfl (by decide) ?_
        exact law_14 C hL hi6 ⟨by omega, by omega⟩ q1 q2 (qL_next C hL hi6 (qL_wid (by omega) (by omega) (ih ai (i + 6) h2 (by omega) hai h3 q3))) ls H locs hl hH hlo
      | 15, _ => by
        obtain ⟨r, h1, h2, q1, q2, q3⟩ := P.2.2.2.2.2.2.2.2.2.2.2.2.2.2.2.1 h hR (xs (i + 1)) (xs (i + 2)) (xs (i + 3))
        refine lv_tableIn (tgt := 870) C.1.1 C.1.2.1 dm_33 (by decide) (by decide) rfl (by decide) ?_
        exact law_15 C hL hi6 ⟨by omega, by omega⟩ q1 q2 (qL_next C hL hi6 (qL_wid (by omega) (by omega) (ih ai (i + 6) h2 (by omega) hai h3 q3))) ls H locs hl hH hlo
      | 16, _ => by
        obtain ⟨r, h1, h2, q1, q2, q3⟩ := P.2.2.2.2.2.2.2.2.2.2.2.2.2.2.2.2.1 h hR (xs (i + 1)) (xs (i + 2))
        refine lv_tableIn (tgt := 929) C.1.1 C.1.2.1 dm_33 (by decide) (by decide) rfl (by decide) ?_
        exact law_16 C hL hi6 ⟨by omega, by omega⟩ q1 q2 (qL_next C hL hi6 (qL_wid (by omega) (by omega) (ih ai (i + 6) h2 (by omega) hai h3 q3))) ls H locs hl hH hlo
      | 17, _ => by
        obtain ⟨r, h1, h2, q1, q2, q3⟩ := P.2.2.2.2.2.2.2.2.2.2.2.2.2.2.2.2.2.1 h hR (xs (i + 1)) (xs (i + 2))
        refine lv_tableIn (tgt := 962) C.1.1 C.1.2.1 dm_33 (by decide) (by decide) rfl (by decide) ?_
        exact law_17 C hL hi6 ⟨by omega, by omega⟩ q1 q2 (qL_next C hL hi6 (qL_wid (by omega) (by omega) (ih ai (i + 6) h2 (by omega) hai h3 q3))) ls H locs hl hH hlo
      | 18, _ => by
        obtain ⟨r, h1, h2, q1, q2, q3⟩ := P.2.2.2.2.2.2.2.2.2.2.2.2.2.2.2.2.2.2.1 h hR (xs (i + 1)) (xs (i + 2)) (xs (i + 3))
        refine lv_tableIn (tgt := 995) C.1.1 C.1.2.1 dm_33 (by decide) (by decide) rfl (by decide) ?_
        exact law_18 C hL hi6 ⟨by omega, by omega⟩ q1 q2 (qL_next C hL hi6 (qL_wid (by omega) (by omega) (ih ai (i + 6) h2 (by omega) hai h3 q3))) ls H locs hl hH hlo
      | 19, _ => by
        obtain ⟨r, h1, h2, q1, q2, q3⟩ := P.2.2.2.2.2.2.2.2.2.2.2.2.2.2.2.2.2.2.2.1 h hR (xs (i + 1)) (xs (i + 2))
        refine lv_tableIn (tgt := 1070) C.1.1 C.1.2.1 dm_33 (by decide) (by decide) rfl (by decide) ?_
        exact law_19 C hL hi6 ⟨by omega, by omega⟩ q1 q2 (qL_next C hL hi6 (qL_wid (by omega) (by omega) (ih ai (i + 6) h2 (by omega) hai h3 q3))) ls H locs hl hH hlo
      | 20, _ => by
        obtain ⟨r, h1, h2, q1, q2, q3⟩ := P.2.2.2.2.2.2.2.2.2.2.2.2.2.2.2.2.2.2.2.2.1 h hR (xs (i + 1)) (xs (i + 2))
        refine lv_tableIn (tgt := 1103) C.1.1 C.1.2.1 dm_33 (by decide) (by decide) rfl (by decide) ?_
        exact law_20 C hL hi6 ⟨by omega, by omega⟩ q1 q2 (qL_next C hL hi6 (qL_wid (by omega) (by omega) (ih ai (i + 6) h2 (by omega) hai h3 q3))) ls H locs hl hH hlo
      | 21, _ => by
        obtain ⟨r, h1, h2, q1, q2, q3⟩ := P.2.2.2.2.2.2.2.2.2.2.2.2.2.2.2.2.2.2.2.2.2.1 h hR (xs (i + 1)) (xs (i + 2)) (xs (i + 3)) (xs (i + 4))
        refine lv_tableIn (tgt := 1136) C.1.1 C.1.2.1 dm_33 (by decide) (by decide) rfl (by decide) ?_
        exact law_21 C hL hi6 ⟨by omega, by omega⟩ q1 q2 (qL_next C hL hi6 (qL_wid (by omega) (by omega) (ih ai (i + 6) h2 (by omega) hai h3 q3))) ls H locs hl hH hlo
      | 22, _ => by
        obtain ⟨r, h1, h2, q1, q2, q3⟩ := P.2.2.2.2.2.2.2.2.2.2.2.2.2.2.2.2.2.2.2.2.2.2.1 h hR (xs (i + 1)) (xs (i + 2)) (xs (i + 3)) (xs (i + 4))
        refine lv_tableIn (tgt := 1189) C.1.1 C.1.2.1 dm_33 (by decide) (by decide) rfl (by decide) ?_
        exact law_22 C hL hi6 ⟨by omega, by omega⟩ q1 q2 (qL_next C hL hi6 (qL_wid (by omega) (by omega) (ih ai (i + 6) h2 (by omega) hai h3 q3))) ls H locs hl hH hlo
      | 23, _ => by
        obtain ⟨r, h1, h2, q1, q2, q3⟩ := P.2.2.2.2.2.2.2.2.2.2.2.2.2.2.2.2.2.2.2.2.2.2.2.1 h hR (xs (i + 1)) (xs (i + 2)) (xs (i + 3)) (xs (i + 4))
        refine lv_tableIn (tgt := 1242) C.1.1 C.1.2.1 dm_33 (by decide) (by decide) rfl (by decide) ?_
        exact law_23 C hL hi6 ⟨by omega, by omega⟩ q1 q2 (qL_next C hL hi6 (qL_wid (by omega) (by omega) (ih ai (i + 6) h2 (by omega) hai h3 q3))) ls H locs hl hH hlo
      | 24, _ => by
        obtain ⟨r, h1, h2, q1, q2, q3⟩ := P.2.2.2.2.2.2.2.2.2.2.2.2.2.2.2.2.2.2.2.2.2.2.2.2.1 h hR (xs (i + 1)) (xs (i + 2)) (xs (i + 3))
        refine lv_tableIn (tgt := 1311) C.1.1 C.1.2.1 dm_33 (by decide) (by decide) rfl (by decide) ?_
        exact law_24 C hL hi6 ⟨by omega, by omega⟩ q1 q2 (qL_next C hL hi6 (qL_wid (by omega) (by omega) (ih ai (i + 6) h2 (by omega) hai h3 q3))) ls H locs hl hH hlo
      | 25, _ => by
        obtain ⟨r, h1, h2, q1, q2, q3⟩ := P.2.2.2.2.2.2.2.2.2.2.2.2.2.2.2.2.2.2.2.2.2.2.2.2.2.1 h hR (xs (i + 1)) (xs (i + 2)) (xs (i + 3))
        refine lv_tableIn (tgt := 1370) C.1.1 C.1.2.1 dm_33 (by decide) (by decide) rfl (by decide) ?_
        exact law_25 C hL hi6 ⟨by omega, by omega⟩ q1 q2 (qL_next C hL hi6 (qL_wid (by omega) (by omega) (ih ai (i + 6) h2 (by omega) hai h3 q3))) ls H locs hl hH hlo
      | 26, _ => by
        obtain ⟨r, h1, h2, q1, q2, q3⟩ := P.2.2.2.2.2.2.2.2.2.2.2.2.2.2.2.2.2.2.2.2.2.2.2.2.2.2.1 h hR (xs (i + 1)) (xs (i + 2))
        refine lv_tableIn (tgt := 1413) C.1.1 C.1.2.1 dm_33 (by decide) (by decide) rfl (by decide) ?_
        exact law_26 C hL hi6 ⟨by omega, by omega⟩ q1 q2 (qL_next C hL hi6 (qL_wid (by omega) (by omega) (ih ai (i + 6) h2 (by omega) hai h3 q3))) ls H locs hl hH hlo
      | 27, _ => by
        obtain ⟨r, h1, h2, q1, q2, q3⟩ := P.2.2.2.2.2.2.2.2.2.2.2.2.2.2.2.2.2.2.2.2.2.2.2.2.2.2.2.1 h hR (xs (i + 1)) (xs (i + 2)) (xs (i + 3))
        refine lv_tableIn (tgt := 1446) C.1.1 C.1.2.1 dm_33 (by decide) (by decide) rfl (by decide) ?_
        exact law_27 C hL hi6 ⟨by omega, by omega⟩ q1 q2 (qL_next C hL hi6 (qL_wid (by omega) (by omega) (ih ai (i + 6) h2 (by omega) hai h3 q3))) ls H locs hl hH hlo
      | 28, _ => by
        obtain ⟨r, h1, h2, q1, q2, q3⟩ := P.2.2.2.2.2.2.2.2.2.2.2.2.2.2.2.2.2.2.2.2.2.2.2.2.2.2.2.2.1 h hR (xs (i + 1))
        refine lv_tableIn (tgt := 1489) C.1.1 C.1.2.1 dm_33 (by decide) (by decide) rfl (by decide) ?_
        exact law_28 C hL hi6 ⟨by omega, by omega⟩ q1 q2 (qL_next C hL hi6 (qL_wid (by omega) (by omega) (ih ai (i + 6) h2 (by omega) hai h3 q3))) ls H locs hl hH hlo
      | 29, _ => by
        obtain ⟨r, h1, h2, q1, q2, q3⟩ := P.2.2.2.2.2.2.2.2.2.2.2.2.2.2.2.2.2.2.2.2.2.2.2.2.2.2.2.2.2.1 h hR (xs (i + 1))
        refine lv_tableIn (tgt := 1512) C.1.1 C.1.2.1 dm_33 (by decide) (by decide) rfl (by decide) ?_
        exact law_29 C hL hi6 ⟨by omega, by omega⟩ q1 q2 (qL_next C hL hi6 (qL_wid (by omega) (by omega) (ih ai (i + 6) h2 (by omega) hai h3 q3))) ls H locs hl hH hlo
      | 30, _ => by
        obtain ⟨r, h1, h2, q1, q2, q3⟩ := P.2.2.2.2.2.2.2.2.2.2.2.2.2.2.2.2.2.2.2.2.2.2.2.2.2.2.2.2.2.2.1 h hR (xs (i + 1))
        refine lv_tableIn (tgt := 1535) C.1.1 C.1.2.1 dm_33 (by decide) (by decide) rfl (by decide) ?_
        exact law_30 C hai h3 hL hi6 ⟨by omega, by omega⟩ q1 q2 (fun ai' hai' h3' => qL_next (hC ai' hai') hL hi6 (qL_wid (by omega) (by omega) (ih ai' (i + 6) h2 (by omega) hai' h3' q3))) ls H locs hl hH hlo
      | 31, _ => by
        obtain ⟨r, h1, h2, q1, q2, q3⟩ := P.2.2.2.2.2.2.2.2.2.2.2.2.2.2.2.2.2.2.2.2.2.2.2.2.2.2.2.2.2.2.2 h hR (xs (i + 1))
        refine lv_tableIn (tgt := 1558) C.1.1 C.1.2.1 dm_33 (by decide) (by decide) rfl (by decide) ?_
        exact law_31 C hL hi6 ⟨by omega, by omega⟩ q1 q2 (qL_next C hL hi6 (qL_wid (by omega) (by omega) (ih ai (i + 6) h2 (by omega) hai h3 q3))) ls H locs hl hH hlo
      | j + 32, hj => absurd hj (by omega)
end QLL
