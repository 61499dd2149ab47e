def zW9 (g : qm_G) (th : Nat) : va_W := [(th, .inr (9, [.ref (th + 1), .ref (th + 2), .ref (th + 3), .ref (th + 4), .ref (th + 5), .ref (th + 6), .int 0, .int 0, .int (-1)])), (th + 1, .inl (qm_dA g 2, 600, .inl fun _ => 0)), (th + 2, .inl (qm_dA g 1, 4, .inl fun _ => 0)), (th + 3, .inl (qm_dA g 5, 2, .inr (.inr (.inr (.inr (va_up ((va_up (fun _ => none) 0 (some (th + 7)))) 1 (some (th + 18)))))))), (th + 4, .inl (qm_dA g 9, 2, .inr (.inr (.inr (.inr (va_up ((va_up (fun _ => none) 0 (some (th + 11)))) 1 (some (th + 22)))))))), (th + 5, .inl (qm_dA g 7, 2, .inr (.inr (.inr (.inr (va_up ((va_up (fun _ => none) 0 (some (th + 13)))) 1 (some (th + 24)))))))), (th + 6, .inl (qm_dA g 6, 2, .inr (.inr (.inr (.inr (va_up ((va_up (fun _ => none) 0 (some (th + 16)))) 1 (some (th + 27)))))))), (th + 7, .inr (0, [.ref (th + 8), .ref (th + 9), .ref (th + 10), .int 6, .int 6, .int 0, .long 0])), (th + 8, .inl (qm_dA g 1, 16, .inl fun _ => 0)), (th + 9, .inl (qm_dA g 1, 16, .inl fun _ => 0)), (th + 10, .inl (qm_dA g 1, 81, .inl fun _ => 0)), (th + 11, .inr (10, [.ref (th + 12), .int 0])), (th + 12, .inl (qm_dA g 1, 160, .inl fun _ => 0)), (th + 13, .inr (2, [.ref (th + 14), .ref (th + 15), .int 0, .int 0, .int 3])), (th + 14, .inl (qm_dA g 1, 6, .inl fun _ => 0)), (th + 15, .inl (qm_dA g 1, 8, .inl fun _ => 0)), (th + 16, .inr (1, [.ref (th + 17), .int 6, .int 6, .int 0])), (th + 17, .inl (qm_dA g 1, 30, .inl fun _ => 0)), (th + 18, .inr (0, [.ref (th + 19), .ref (th + 20), .ref (th + 21), .int 6, .int 6, .int 0, .long 0])), (th + 19, .inl (qm_dA g 1, 16, .inl fun _ => 0)), (th + 20, .inl (qm_dA g 1, 16, .inl fun _ => 0)), (th + 21, .inl (qm_dA g 1, 81, .inl fun _ => 0)), (th + 22, .inr (10, [.ref (th + 23), .int 0])), (th + 23, .inl (qm_dA g 1, 160, .inl fun _ => 0)), (th + 24, .inr (2, [.ref (th + 25), .ref (th + 26), .int 0, .int 0, .int 3])), (th + 25, .inl (qm_dA g 1, 6, .inl fun _ => 0)), (th + 26, .inl (qm_dA g 1, 8, .inl fun _ => 0)), (th + 27, .inr (1, [.ref (th + 28), .int 6, .int 6, .int 0])), (th + 28, .inl (qm_dA g 1, 30, .inl fun _ => 0))]
theorem zW9_ad (g : qm_G) (th : Nat) : ∀ y ∈ zW9 g th, th ≤ y.1 := by
  intro y hy
  simp only [zW9, List.mem_cons, List.not_mem_nil, or_false] at hy
  rcases hy with rfl | rfl | rfl | rfl | rfl | rfl | rfl | rfl | rfl | rfl | rfl | rfl | rfl | rfl | rfl | rfl | rfl | rfl | rfl | rfl | rfl | rfl | rfl | rfl | rfl | rfl | rfl | rfl | rfl <;> simp
theorem zj_X9 : Jvm.Cond.code yX9_init cX9_init 2 none ∈ qm_all := List.mem_filter.mpr ⟨by decide +kernel, rfl⟩
theorem zn_X9 : Jvm.Cond.instanceMethod yX9_init ∈ qm_all := List.mem_filter.mpr ⟨by decide +kernel, rfl⟩
theorem dX9_init_0 : decode cX9_init 0 = .ok (.aload_n 0, 1) := by decide +kernel
theorem dX9_init_1 : decode cX9_init 1 = .ok (.invokespecial 3, 3) := by decide +kernel
theorem dX9_init_4 : decode cX9_init 4 = .ok (.aload_n 0, 1) := by decide +kernel
theorem dX9_init_5 : decode cX9_init 5 = .ok (.sipush 600, 3) := by decide +kernel
theorem dX9_init_8 : decode cX9_init 8 = .ok (.newarray .byte, 2) := by decide +kernel
theorem dX9_init_10 : decode cX9_init 10 = .ok (.putfield 9, 3) := by decide +kernel
theorem dX9_init_13 : decode cX9_init 13 = .ok (.aload_n 0, 1) := by decide +kernel
theorem dX9_init_14 : decode cX9_init 14 = .ok (.iconst 4, 1) := by decide +kernel
theorem dX9_init_15 : decode cX9_init 15 = .ok (.newarray .int, 2) := by decide +kernel
theorem dX9_init_17 : decode cX9_init 17 = .ok (.putfield 15, 3) := by decide +kernel
theorem dX9_init_20 : decode cX9_init 20 = .ok (.aload_n 0, 1) := by decide +kernel
theorem dX9_init_21 : decode cX9_init 21 = .ok (.iconst 2, 1) := by decide +kernel
theorem dX9_init_22 : decode cX9_init 22 = .ok (.anewarray 19, 3) := by decide +kernel
theorem dX9_init_25 : decode cX9_init 25 = .ok (.putfield 21, 3) := by decide +kernel
theorem dX9_init_28 : decode cX9_init 28 = .ok (.aload_n 0, 1) := by decide +kernel
theorem dX9_init_29 : decode cX9_init 29 = .ok (.iconst 2, 1) := by decide +kernel
theorem dX9_init_30 : decode cX9_init 30 = .ok (.anewarray 25, 3) := by decide +kernel
theorem dX9_init_33 : decode cX9_init 33 = .ok (.putfield 27, 3) := by decide +kernel
theorem dX9_init_36 : decode cX9_init 36 = .ok (.aload_n 0, 1) := by decide +kernel
theorem dX9_init_37 : decode cX9_init 37 = .ok (.iconst 2, 1) := by decide +kernel
theorem dX9_init_38 : decode cX9_init 38 = .ok (.anewarray 31, 3) := by decide +kernel
theorem dX9_init_41 : decode cX9_init 41 = .ok (.putfield 33, 3) := by decide +kernel
theorem dX9_init_44 : decode cX9_init 44 = .ok (.aload_n 0, 1) := by decide +kernel
theorem dX9_init_45 : decode cX9_init 45 = .ok (.iconst 2, 1) := by decide +kernel
theorem dX9_init_46 : decode cX9_init 46 = .ok (.anewarray 37, 3) := by decide +kernel
theorem dX9_init_49 : decode cX9_init 49 = .ok (.putfield 39, 3) := by decide +kernel
theorem dX9_init_52 : decode cX9_init 52 = .ok (.aload_n 0, 1) := by decide +kernel
theorem dX9_init_53 : decode cX9_init 53 = .ok (.iconst (-1), 1) := by decide +kernel
theorem dX9_init_54 : decode cX9_init 54 = .ok (.putfield 43, 3) := by decide +kernel
theorem dX9_init_57 : decode cX9_init 57 = .ok (.iconst 0, 1) := by decide +kernel
theorem dX9_init_58 : decode cX9_init 58 = .ok (.istore_n 1, 1) := by decide +kernel
theorem dX9_init_59 : decode cX9_init 59 = .ok (.iload_n 1, 1) := by decide +kernel
theorem dX9_init_60 : decode cX9_init 60 = .ok (.iconst 2, 1) := by decide +kernel
theorem dX9_init_61 : decode cX9_init 61 = .ok (.if_icmp .ge 61, 3) := by decide +kernel
theorem dX9_init_64 : decode cX9_init 64 = .ok (.aload_n 0, 1) := by decide +kernel
theorem dX9_init_65 : decode cX9_init 65 = .ok (.getfield 21, 3) := by decide +kernel
theorem dX9_init_68 : decode cX9_init 68 = .ok (.iload_n 1, 1) := by decide +kernel
theorem dX9_init_69 : decode cX9_init 69 = .ok (.new 19, 3) := by decide +kernel
theorem dX9_init_72 : decode cX9_init 72 = .ok (.dup, 1) := by decide +kernel
theorem dX9_init_73 : decode cX9_init 73 = .ok (.invokespecial 47, 3) := by decide +kernel
theorem dX9_init_76 : decode cX9_init 76 = .ok (.aastore, 1) := by decide +kernel
theorem dX9_init_77 : decode cX9_init 77 = .ok (.aload_n 0, 1) := by decide +kernel
theorem dX9_init_78 : decode cX9_init 78 = .ok (.getfield 27, 3) := by decide +kernel
theorem dX9_init_81 : decode cX9_init 81 = .ok (.iload_n 1, 1) := by decide +kernel
theorem dX9_init_82 : decode cX9_init 82 = .ok (.new 25, 3) := by decide +kernel
theorem dX9_init_85 : decode cX9_init 85 = .ok (.dup, 1) := by decide +kernel
theorem dX9_init_86 : decode cX9_init 86 = .ok (.invokespecial 48, 3) := by decide +kernel
theorem dX9_init_89 : decode cX9_init 89 = .ok (.aastore, 1) := by decide +kernel
theorem dX9_init_90 : decode cX9_init 90 = .ok (.aload_n 0, 1) := by decide +kernel
theorem dX9_init_91 : decode cX9_init 91 = .ok (.getfield 33, 3) := by decide +kernel
theorem dX9_init_94 : decode cX9_init 94 = .ok (.iload_n 1, 1) := by decide +kernel
theorem dX9_init_95 : decode cX9_init 95 = .ok (.new 31, 3) := by decide +kernel
theorem dX9_init_98 : decode cX9_init 98 = .ok (.dup, 1) := by decide +kernel
theorem dX9_init_99 : decode cX9_init 99 = .ok (.invokespecial 49, 3) := by decide +kernel
theorem dX9_init_102 : decode cX9_init 102 = .ok (.aastore, 1) := by decide +kernel
theorem dX9_init_103 : decode cX9_init 103 = .ok (.aload_n 0, 1) := by decide +kernel
theorem dX9_init_104 : decode cX9_init 104 = .ok (.getfield 39, 3) := by decide +kernel
theorem dX9_init_107 : decode cX9_init 107 = .ok (.iload_n 1, 1) := by decide +kernel
theorem dX9_init_108 : decode cX9_init 108 = .ok (.new 37, 3) := by decide +kernel
theorem dX9_init_111 : decode cX9_init 111 = .ok (.dup, 1) := by decide +kernel
theorem dX9_init_112 : decode cX9_init 112 = .ok (.invokespecial 50, 3) := by decide +kernel
theorem dX9_init_115 : decode cX9_init 115 = .ok (.aastore, 1) := by decide +kernel
theorem dX9_init_116 : decode cX9_init 116 = .ok (.iinc 1 1, 3) := by decide +kernel
theorem dX9_init_119 : decode cX9_init 119 = .ok (.goto (-60), 3) := by decide +kernel
theorem dX9_init_122 : decode cX9_init 122 = .ok (.return_, 1) := by decide +kernel
set_option maxRecDepth 100000 in
set_option maxHeartbeats 8000000 in
theorem zX9_init (l : Launch) (g : qm_G) (H0 : Heap) (th : Nat) (hsz : H0.size = th + 1) : Met l yX9_init (Jvm.Cond.code yX9_init cX9_init 2 none :: qm_all) ({ frames := 2, cells := 28, slots := 1282, locals := 32 }) (qz_Pc g H0 th 9 [.ref th]) (qz_Qc g H0 th (zW9 g th) 28) 28 1282 (qz_fr H0 th) := by
  refine va_MetF (cc := cX9_init) (maxL := 2) (ret := none) (plainFor_of_name (by decide)) rfl ?_
  intro p e s m args below meth c s₁ B hml hv
  obtain ⟨rfl, rfl, hat, hK, hN⟩ := hv
  have hts := atoms_spec (ws := Jvm.Cond.code yX9_init cX9_init 2 none :: qm_all) B.pre
  have tsa : ∀ w ∈ qm_all, w.before _ s = true := fun w hw => hts w (List.mem_cons_of_mem _ hw)
  have A : qz_At p s m _ c cX9_init (qm_D g) (qm_tys g) RX9 (Jvm.Cond.code yX9_init cX9_init 2 none :: qm_all) := ⟨B.exec, B.bytes, findClass_of_methodNamed B.named, hts, hK, fun cl hcl w hw => List.mem_cons_of_mem _ (qm_u_in cl hcl w hw)⟩
  have hr := B.returns
  have hlocks := B.notSynchronized
  have hin : meth.name = "<init>" := (name_of_methodNamed B.named B.method).1
  have hh : qz_H (qm_D g) s.heap th [(th, .inr (9, [.null, .null, .null, .null, .null, .null, .int 0, .int 0, .int 0]))] s.heap 0 [] := qz_H0 hat
  have hl := lv_entry ([.ref th]) (n := 2) (Nat.le_of_ble_eq_true rfl)
  rw [lg_entry_eq]
  generalize (lg_sl ([.ref th]) ++ List.replicate (2 - (lg_sl ([.ref th])).length) Slot.unset).toArray = ls at hl ⊢
  have hl : lv_has ls 2 [(0, .ref (th))] := hl
  refine lv_aload_n A.1 A.2.1 dX9_init_0 rfl (lv_at hl 0 rfl) ?_
  refine W.objInit A.1 A.2.1 A.2.2.1 (tsa _ zo_RX9) (tsa _ zo_inst) (tsa _ zo_code) rfl (by rw [hml]; exact hl.1) rfl dX9_init_1 (Nat.le_of_ble_eq_true rfl) (Nat.le_of_ble_eq_true rfl) ?_
  refine W.eq (g2 := F0 m 4 ls []) rfl ?_
  refine lv_aload_n A.1 A.2.1 dX9_init_4 rfl (lv_at hl 0 rfl) ?_
  refine lv_sipush (v := 600) A.1 A.2.1 dX9_init_5 (by decide) ?_
  refine qz_newa A (ad := th + 1) (by omega) (atype := .byte) (ty := .byte) rfl (List.mem_cons_of_mem _ za_byte) (qm_tys_at g 2 (by omega) (by omega)) (fun q => q) (N := 600) (a0 := (600, .inl fun _ => 0)) rfl (by decide) (by decide) (Nat.le_of_ble_eq_true rfl) hh (Nat.le_of_ble_eq_true rfl) (Nat.le_of_ble_eq_true rfl) dX9_init_8 (fun H hh => ?_)
  have hh : qz_H (qm_D g) s.heap th [(th, .inr (9, [.null, .null, .null, .null, .null, .null, .int 0, .int 0, .int 0])), (th + 1, .inl (qm_dA g 2, 600, .inl fun _ => 0))] _ 1 _ := hh
  refine W.widen (k := 1) (n := 600) (Nat.le_of_ble_eq_true rfl) (Nat.le_of_ble_eq_true rfl) ?_
  refine qz_putF A hin (ci := 9) (j := 0) (i := 0) (v := .ref (th + 1)) (by decide) (by decide) rfl (List.mem_cons_of_mem _ (qm_fld_ok pfRX9_ok 9 9 0 rfl).2) (by decide +kernel) rfl rfl rfl hh rfl (Or.inl rfl) dX9_init_10 (fun H locs hh => ?_)
  have hh : qz_H (qm_D g) s.heap th [(th, .inr (9, [.ref (th + 1), .null, .null, .null, .null, .null, .int 0, .int 0, .int 0])), (th + 1, .inl (qm_dA g 2, 600, .inl fun _ => 0))] _ 1 _ := hh
  refine lv_aload_n A.1 A.2.1 dX9_init_13 rfl (lv_at hl 0 rfl) ?_
  refine lv_iconst (v := 4) A.1 A.2.1 dX9_init_14 (by decide) ?_
  refine qz_newa A (ad := th + 2) (by omega) (atype := .int) (ty := .int) rfl (List.mem_cons_of_mem _ za_int) (qm_tys_at g 1 (by omega) (by omega)) (fun q => q) (N := 4) (a0 := (4, .inl fun _ => 0)) rfl (by decide) (by decide) (Nat.le_of_ble_eq_true rfl) hh (Nat.le_of_ble_eq_true rfl) (Nat.le_of_ble_eq_true rfl) dX9_init_15 (fun H hh => ?_)
  have hh : qz_H (qm_D g) s.heap th [(th, .inr (9, [.ref (th + 1), .null, .null, .null, .null, .null, .int 0, .int 0, .int 0])), (th + 1, .inl (qm_dA g 2, 600, .inl fun _ => 0)), (th + 2, .inl (qm_dA g 1, 4, .inl fun _ => 0))] _ 2 _ := hh
  refine W.widen (k := 2) (n := 604) (Nat.le_of_ble_eq_true rfl) (Nat.le_of_ble_eq_true rfl) ?_
  refine qz_putF A hin (ci := 9) (j := 1) (i := 0) (v := .ref (th + 2)) (by decide) (by decide) rfl (List.mem_cons_of_mem _ (qm_fld_ok pfRX9_ok 15 9 1 rfl).2) (by decide +kernel) rfl rfl rfl hh rfl (Or.inl rfl) dX9_init_17 (fun H locs hh => ?_)
  have hh : qz_H (qm_D g) s.heap th [(th, .inr (9, [.ref (th + 1), .ref (th + 2), .null, .null, .null, .null, .int 0, .int 0, .int 0])), (th + 1, .inl (qm_dA g 2, 600, .inl fun _ => 0)), (th + 2, .inl (qm_dA g 1, 4, .inl fun _ => 0))] _ 2 _ := hh
  refine lv_aload_n A.1 A.2.1 dX9_init_20 rfl (lv_at hl 0 rfl) ?_
  refine lv_iconst (v := 2) A.1 A.2.1 dX9_init_21 (by decide) ?_
  refine qz_anew A (ad := th + 3) (by omega) (C := RX0) (List.mem_cons_of_mem _ zl_RX9_19) (hN.2 RX0 (by decide)) (qm_tys_at g 5 (by omega) (by omega)) (N := 2) (by decide) (by decide) (Nat.le_of_ble_eq_true rfl) hh (Nat.le_of_ble_eq_true rfl) (Nat.le_of_ble_eq_true rfl) dX9_init_22 (fun H hh => ?_)
  have hh : qz_H (qm_D g) s.heap th [(th, .inr (9, [.ref (th + 1), .ref (th + 2), .null, .null, .null, .null, .int 0, .int 0, .int 0])), (th + 1, .inl (qm_dA g 2, 600, .inl fun _ => 0)), (th + 2, .inl (qm_dA g 1, 4, .inl fun _ => 0)), (th + 3, .inl (qm_dA g 5, 2, .inr (.inr (.inr (.inr fun _ => none)))))] _ 3 _ := hh
  refine W.widen (k := 3) (n := 606) (Nat.le_of_ble_eq_true rfl) (Nat.le_of_ble_eq_true rfl) ?_
  refine qz_putF A hin (ci := 9) (j := 2) (i := 0) (v := .ref (th + 3)) (by decide) (by decide) rfl (List.mem_cons_of_mem _ (qm_fld_ok pfRX9_ok 21 9 2 rfl).2) (by decide +kernel) rfl rfl rfl hh rfl (Or.inl rfl) dX9_init_25 (fun H locs hh => ?_)
  have hh : qz_H (qm_D g) s.heap th [(th, .inr (9, [.ref (th + 1), .ref (th + 2), .ref (th + 3), .null, .null, .null, .int 0, .int 0, .int 0])), (th + 1, .inl (qm_dA g 2, 600, .inl fun _ => 0)), (th + 2, .inl (qm_dA g 1, 4, .inl fun _ => 0)), (th + 3, .inl (qm_dA g 5, 2, .inr (.inr (.inr (.inr fun _ => none)))))] _ 3 _ := hh
  refine lv_aload_n A.1 A.2.1 dX9_init_28 rfl (lv_at hl 0 rfl) ?_
  refine lv_iconst (v := 2) A.1 A.2.1 dX9_init_29 (by decide) ?_
  refine qz_anew A (ad := th + 4) (by omega) (C := RX10) (List.mem_cons_of_mem _ zl_RX9_25) (hN.2 RX10 (by decide)) (qm_tys_at g 9 (by omega) (by omega)) (N := 2) (by decide) (by decide) (Nat.le_of_ble_eq_true rfl) hh (Nat.le_of_ble_eq_true rfl) (Nat.le_of_ble_eq_true rfl) dX9_init_30 (fun H hh => ?_)
  have hh : qz_H (qm_D g) s.heap th [(th, .inr (9, [.ref (th + 1), .ref (th + 2), .ref (th + 3), .null, .null, .null, .int 0, .int 0, .int 0])), (th + 1, .inl (qm_dA g 2, 600, .inl fun _ => 0)), (th + 2, .inl (qm_dA g 1, 4, .inl fun _ => 0)), (th + 3, .inl (qm_dA g 5, 2, .inr (.inr (.inr (.inr fun _ => none))))), (th + 4, .inl (qm_dA g 9, 2, .inr (.inr (.inr (.inr fun _ => none)))))] _ 4 _ := hh
  refine W.widen (k := 4) (n := 608) (Nat.le_of_ble_eq_true rfl) (Nat.le_of_ble_eq_true rfl) ?_
  refine qz_putF A hin (ci := 9) (j := 3) (i := 0) (v := .ref (th + 4)) (by decide) (by decide) rfl (List.mem_cons_of_mem _ (qm_fld_ok pfRX9_ok 27 9 3 rfl).2) (by decide +kernel) rfl rfl rfl hh rfl (Or.inl rfl) dX9_init_33 (fun H locs hh => ?_)
  have hh : qz_H (qm_D g) s.heap th [(th, .inr (9, [.ref (th + 1), .ref (th + 2), .ref (th + 3), .ref (th + 4), .null, .null, .int 0, .int 0, .int 0])), (th + 1, .inl (qm_dA g 2, 600, .inl fun _ => 0)), (th + 2, .inl (qm_dA g 1, 4, .inl fun _ => 0)), (th + 3, .inl (qm_dA g 5, 2, .inr (.inr (.inr (.inr fun _ => none))))), (th + 4, .inl (qm_dA g 9, 2, .inr (.inr (.inr (.inr fun _ => none)))))] _ 4 _ := hh
  refine lv_aload_n A.1 A.2.1 dX9_init_36 rfl (lv_at hl 0 rfl) ?_
  refine lv_iconst (v := 2) A.1 A.2.1 dX9_init_37 (by decide) ?_
  refine qz_anew A (ad := th + 5) (by omega) (C := RX2) (List.mem_cons_of_mem _ zl_RX9_31) (hN.2 RX2 (by decide)) (qm_tys_at g 7 (by omega) (by omega)) (N := 2) (by decide) (by decide) (Nat.le_of_ble_eq_true rfl) hh (Nat.le_of_ble_eq_true rfl) (Nat.le_of_ble_eq_true rfl) dX9_init_38 (fun H hh => ?_)
  have hh : qz_H (qm_D g) s.heap th [(th, .inr (9, [.ref (th + 1), .ref (th + 2), .ref (th + 3), .ref (th + 4), .null, .null, .int 0, .int 0, .int 0])), (th + 1, .inl (qm_dA g 2, 600, .inl fun _ => 0)), (th + 2, .inl (qm_dA g 1, 4, .inl fun _ => 0)), (th + 3, .inl (qm_dA g 5, 2, .inr (.inr (.inr (.inr fun _ => none))))), (th + 4, .inl (qm_dA g 9, 2, .inr (.inr (.inr (.inr fun _ => none))))), (th + 5, .inl (qm_dA g 7, 2, .inr (.inr (.inr (.inr fun _ => none)))))] _ 5 _ := hh
  refine W.widen (k := 5) (n := 610) (Nat.le_of_ble_eq_true rfl) (Nat.le_of_ble_eq_true rfl) ?_
  refine qz_putF A hin (ci := 9) (j := 4) (i := 0) (v := .ref (th + 5)) (by decide) (by decide) rfl (List.mem_cons_of_mem _ (qm_fld_ok pfRX9_ok 33 9 4 rfl).2) (by decide +kernel) rfl rfl rfl hh rfl (Or.inl rfl) dX9_init_41 (fun H locs hh => ?_)
  have hh : qz_H (qm_D g) s.heap th [(th, .inr (9, [.ref (th + 1), .ref (th + 2), .ref (th + 3), .ref (th + 4), .ref (th + 5), .null, .int 0, .int 0, .int 0])), (th + 1, .inl (qm_dA g 2, 600, .inl fun _ => 0)), (th + 2, .inl (qm_dA g 1, 4, .inl fun _ => 0)), (th + 3, .inl (qm_dA g 5, 2, .inr (.inr (.inr (.inr fun _ => none))))), (th + 4, .inl (qm_dA g 9, 2, .inr (.inr (.inr (.inr fun _ => none))))), (th + 5, .inl (qm_dA g 7, 2, .inr (.inr (.inr (.inr fun _ => none)))))] _ 5 _ := hh
  refine lv_aload_n A.1 A.2.1 dX9_init_44 rfl (lv_at hl 0 rfl) ?_
  refine lv_iconst (v := 2) A.1 A.2.1 dX9_init_45 (by decide) ?_
  refine qz_anew A (ad := th + 6) (by omega) (C := RX1) (List.mem_cons_of_mem _ zl_RX9_37) (hN.2 RX1 (by decide)) (qm_tys_at g 6 (by omega) (by omega)) (N := 2) (by decide) (by decide) (Nat.le_of_ble_eq_true rfl) hh (Nat.le_of_ble_eq_true rfl) (Nat.le_of_ble_eq_true rfl) dX9_init_46 (fun H hh => ?_)
  have hh : qz_H (qm_D g) s.heap th [(th, .inr (9, [.ref (th + 1), .ref (th + 2), .ref (th + 3), .ref (th + 4), .ref (th + 5), .null, .int 0, .int 0, .int 0])), (th + 1, .inl (qm_dA g 2, 600, .inl fun _ => 0)), (th + 2, .inl (qm_dA g 1, 4, .inl fun _ => 0)), (th + 3, .inl (qm_dA g 5, 2, .inr (.inr (.inr (.inr fun _ => none))))), (th + 4, .inl (qm_dA g 9, 2, .inr (.inr (.inr (.inr fun _ => none))))), (th + 5, .inl (qm_dA g 7, 2, .inr (.inr (.inr (.inr fun _ => none))))), (th + 6, .inl (qm_dA g 6, 2, .inr (.inr (.inr (.inr fun _ => none)))))] _ 6 _ := hh
  refine W.widen (k := 6) (n := 612) (Nat.le_of_ble_eq_true rfl) (Nat.le_of_ble_eq_true rfl) ?_
  refine qz_putF A hin (ci := 9) (j := 5) (i := 0) (v := .ref (th + 6)) (by decide) (by decide) rfl (List.mem_cons_of_mem _ (qm_fld_ok pfRX9_ok 39 9 5 rfl).2) (by decide +kernel) rfl rfl rfl hh rfl (Or.inl rfl) dX9_init_49 (fun H locs hh => ?_)
  have hh : qz_H (qm_D g) s.heap th [(th, .inr (9, [.ref (th + 1), .ref (th + 2), .ref (th + 3), .ref (th + 4), .ref (th + 5), .ref (th + 6), .int 0, .int 0, .int 0])), (th + 1, .inl (qm_dA g 2, 600, .inl fun _ => 0)), (th + 2, .inl (qm_dA g 1, 4, .inl fun _ => 0)), (th + 3, .inl (qm_dA g 5, 2, .inr (.inr (.inr (.inr fun _ => none))))), (th + 4, .inl (qm_dA g 9, 2, .inr (.inr (.inr (.inr fun _ => none))))), (th + 5, .inl (qm_dA g 7, 2, .inr (.inr (.inr (.inr fun _ => none))))), (th + 6, .inl (qm_dA g 6, 2, .inr (.inr (.inr (.inr fun _ => none)))))] _ 6 _ := hh
  refine lv_aload_n A.1 A.2.1 dX9_init_52 rfl (lv_at hl 0 rfl) ?_
  refine lv_iconst (v := (-1)) A.1 A.2.1 dX9_init_53 (by decide) ?_
  refine qz_put A (ci := 9) (j := 8) (i := 0) (v := .int (-1)) (by decide) (by decide) rfl (List.mem_cons_of_mem _ (qm_fld_ok pfRX9_ok 43 9 8 rfl).2) (by decide +kernel) rfl rfl hh rfl (Or.inl rfl) dX9_init_54 (fun H locs hh => ?_)
  have hh : qz_H (qm_D g) s.heap th [(th, .inr (9, [.ref (th + 1), .ref (th + 2), .ref (th + 3), .ref (th + 4), .ref (th + 5), .ref (th + 6), .int 0, .int 0, .int (-1)])), (th + 1, .inl (qm_dA g 2, 600, .inl fun _ => 0)), (th + 2, .inl (qm_dA g 1, 4, .inl fun _ => 0)), (th + 3, .inl (qm_dA g 5, 2, .inr (.inr (.inr (.inr fun _ => none))))), (th + 4, .inl (qm_dA g 9, 2, .inr (.inr (.inr (.inr fun _ => none))))), (th + 5, .inl (qm_dA g 7, 2, .inr (.inr (.inr (.inr fun _ => none))))), (th + 6, .inl (qm_dA g 6, 2, .inr (.inr (.inr (.inr fun _ => none)))))] _ 6 _ := hh
  refine lv_iconst (v := 0) A.1 A.2.1 dX9_init_57 (by decide) ?_
  refine lv_istore_n (lv' := [(1, .int 0), (0, .ref (th))]) A.1 A.2.1 dX9_init_58 rfl hl (by decide) rfl (fun ls hl => ?_)
  refine lv_iload_n A.1 A.2.1 dX9_init_59 rfl (lv_at hl 0 rfl) ?_
  refine lv_iconst (v := 2) A.1 A.2.1 dX9_init_60 (by decide) ?_
  refine lv_icmp_ge (tgt := 122) A.1 A.2.1 dX9_init_61 (by decide) (fun q => absurd q (by decide)) (fun _ => ?_)
  refine lv_aload_n A.1 A.2.1 dX9_init_64 rfl (lv_at hl 1 rfl) ?_
  refine va_get (D := qm_D g) (cl := vwCl) (ci := 9) (C := qm_R 9) (T := qm_T 9) (N := qm_nf 9) (v := .ref (th + 3)) A.1 A.2.1 hts (A.2.2.2.2.2 9 (by decide)) A.2.2.1 hK hh.2.1 0 rfl rfl 2 (by decide) (hts _ (List.mem_cons_of_mem _ (qm_fld_ok pfRX9_ok 21 9 2 rfl).2)) (fun _ h9 => h9) rfl dX9_init_65 ?_
  refine lv_iload_n A.1 A.2.1 dX9_init_68 rfl (lv_at hl 0 rfl) ?_
  refine qz_new A (ad := th + 7) (by omega) (ci := 0) (fs := [.null, .null, .null, .int 0, .int 0, .int 0, .long 0]) (by decide) (List.mem_cons_of_mem _ zl_RX9_19) (List.mem_cons_of_mem _ zi_RX0) (List.mem_cons_of_mem _ uRX0) (by decide +kernel) hh (Nat.le_of_ble_eq_true rfl) (Nat.le_of_ble_eq_true rfl) dX9_init_69 (fun H hh => ?_)
  have hh : qz_H (qm_D g) s.heap th [(th, .inr (9, [.ref (th + 1), .ref (th + 2), .ref (th + 3), .ref (th + 4), .ref (th + 5), .ref (th + 6), .int 0, .int 0, .int (-1)])), (th + 1, .inl (qm_dA g 2, 600, .inl fun _ => 0)), (th + 2, .inl (qm_dA g 1, 4, .inl fun _ => 0)), (th + 3, .inl (qm_dA g 5, 2, .inr (.inr (.inr (.inr fun _ => none))))), (th + 4, .inl (qm_dA g 9, 2, .inr (.inr (.inr (.inr fun _ => none))))), (th + 5, .inl (qm_dA g 7, 2, .inr (.inr (.inr (.inr fun _ => none))))), (th + 6, .inl (qm_dA g 6, 2, .inr (.inr (.inr (.inr fun _ => none))))), (th + 7, .inr (0, [.null, .null, .null, .int 0, .int 0, .int 0, .long 0]))] _ 7 _ := hh
  refine W.widen (k := 7) (n := 619) (Nat.le_of_ble_eq_true rfl) (Nat.le_of_ble_eq_true rfl) ?_
  refine lv_dup A.1 A.2.1 dX9_init_72 rfl ?_
  refine qz_after (q := th + 7) (i := 7) (w1 := zW0 g (th + 7)) hh rfl (by rw [hh.1]; omega) (Or.inr (by omega)) (zW0_ad g (th + 7)) (va_runIN (S := ⟨A.1, A.2.1, hml, A.2.2.1, hts⟩) (hM := zX0_init l g H (th + 7) (by rw [hh.1]; omega)) (cw := ⟨va_cnB (host := "WillowLaw") 0 hts (qm_GoodIn zj_X0) rfl rfl rfl (hN.1 _ (by decide +kernel)) (tsa _ uRX0) ⟨by decide, by decide, rfl⟩ ⟨Nat.le_of_ble_eq_true rfl, Nat.le_of_ble_eq_true rfl⟩, rfl, tsa _ zn_X0⟩) (As := []) (rest := [.ref (th + 7), .int 0, .ref (th + 3)]) (b := th + 7) ⟨qz_Pc_blind _ _ _ _ _, fun U hU hW => ⟨rfl, hU, hh.2.1 7 _ rfl, va_K.moved hW.alike hK, hN.warm hW⟩⟩ rfl rfl hl.1 rfl (lv_room (Nat.le_of_ble_eq_true rfl)) dX9_init_73 ⟨Nat.le_of_ble_eq_true rfl, Nat.le_of_ble_eq_true rfl⟩) (fun H locs hh => ?_)
  have hh : qz_H (qm_D g) s.heap th [(th, .inr (9, [.ref (th + 1), .ref (th + 2), .ref (th + 3), .ref (th + 4), .ref (th + 5), .ref (th + 6), .int 0, .int 0, .int (-1)])), (th + 1, .inl (qm_dA g 2, 600, .inl fun _ => 0)), (th + 2, .inl (qm_dA g 1, 4, .inl fun _ => 0)), (th + 3, .inl (qm_dA g 5, 2, .inr (.inr (.inr (.inr fun _ => none))))), (th + 4, .inl (qm_dA g 9, 2, .inr (.inr (.inr (.inr fun _ => none))))), (th + 5, .inl (qm_dA g 7, 2, .inr (.inr (.inr (.inr fun _ => none))))), (th + 6, .inl (qm_dA g 6, 2, .inr (.inr (.inr (.inr fun _ => none))))), (th + 7, .inr (0, [.ref (th + 8), .ref (th + 9), .ref (th + 10), .int 6, .int 6, .int 0, .long 0])), (th + 8, .inl (qm_dA g 1, 16, .inl fun _ => 0)), (th + 9, .inl (qm_dA g 1, 16, .inl fun _ => 0)), (th + 10, .inl (qm_dA g 1, 81, .inl fun _ => 0))] _ 10 _ := hh
  refine W.widen (k := 10) (n := 732) (Nat.le_of_ble_eq_true rfl) (Nat.le_of_ble_eq_true rfl) ?_
  refine qz_aast A (t0 := 4) (i := 3) (qk := 7) (ci := 0) (N := 2) (r := (qm_R 0, qm_T 0, qm_nf 0)) hh rfl (qm_tys_at g 5 (by omega) (by omega)) rfl rfl (vp_in_nI (n := 0) (N := 2) (by decide) (by decide)) (Or.inr (by omega)) dX9_init_76 (fun H locs hh => ?_)
  have hh : qz_H (qm_D g) s.heap th [(th, .inr (9, [.ref (th + 1), .ref (th + 2), .ref (th + 3), .ref (th + 4), .ref (th + 5), .ref (th + 6), .int 0, .int 0, .int (-1)])), (th + 1, .inl (qm_dA g 2, 600, .inl fun _ => 0)), (th + 2, .inl (qm_dA g 1, 4, .inl fun _ => 0)), (th + 3, .inl (qm_dA g 5, 2, .inr (.inr (.inr (.inr (va_up (fun _ => none) 0 (some (th + 7)))))))), (th + 4, .inl (qm_dA g 9, 2, .inr (.inr (.inr (.inr fun _ => none))))), (th + 5, .inl (qm_dA g 7, 2, .inr (.inr (.inr (.inr fun _ => none))))), (th + 6, .inl (qm_dA g 6, 2, .inr (.inr (.inr (.inr fun _ => none))))), (th + 7, .inr (0, [.ref (th + 8), .ref (th + 9), .ref (th + 10), .int 6, .int 6, .int 0, .long 0])), (th + 8, .inl (qm_dA g 1, 16, .inl fun _ => 0)), (th + 9, .inl (qm_dA g 1, 16, .inl fun _ => 0)), (th + 10, .inl (qm_dA g 1, 81, .inl fun _ => 0))] _ 10 _ := hh
  refine lv_aload_n A.1 A.2.1 dX9_init_77 rfl (lv_at hl 1 rfl) ?_
  refine va_get (D := qm_D g) (cl := vwCl) (ci := 9) (C := qm_R 9) (T := qm_T 9) (N := qm_nf 9) (v := .ref (th + 4)) A.1 A.2.1 hts (A.2.2.2.2.2 9 (by decide)) A.2.2.1 hK hh.2.1 0 rfl rfl 3 (by decide) (hts _ (List.mem_cons_of_mem _ (qm_fld_ok pfRX9_ok 27 9 3 rfl).2)) (fun _ h9 => h9) rfl dX9_init_78 ?_
  refine lv_iload_n A.1 A.2.1 dX9_init_81 rfl (lv_at hl 0 rfl) ?_
  refine qz_new A (ad := th + 11) (by omega) (ci := 10) (fs := [.null, .int 0]) (by decide) (List.mem_cons_of_mem _ zl_RX9_25) (List.mem_cons_of_mem _ zi_RX10) (List.mem_cons_of_mem _ uRX10) (by decide +kernel) hh (Nat.le_of_ble_eq_true rfl) (Nat.le_of_ble_eq_true rfl) dX9_init_82 (fun H hh => ?_)
  have hh : qz_H (qm_D g) s.heap th [(th, .inr (9, [.ref (th + 1), .ref (th + 2), .ref (th + 3), .ref (th + 4), .ref (th + 5), .ref (th + 6), .int 0, .int 0, .int (-1)])), (th + 1, .inl (qm_dA g 2, 600, .inl fun _ => 0)), (th + 2, .inl (qm_dA g 1, 4, .inl fun _ => 0)), (th + 3, .inl (qm_dA g 5, 2, .inr (.inr (.inr (.inr (va_up (fun _ => none) 0 (some (th + 7)))))))), (th + 4, .inl (qm_dA g 9, 2, .inr (.inr (.inr (.inr fun _ => none))))), (th + 5, .inl (qm_dA g 7, 2, .inr (.inr (.inr (.inr fun _ => none))))), (th + 6, .inl (qm_dA g 6, 2, .inr (.inr (.inr (.inr fun _ => none))))), (th + 7, .inr (0, [.ref (th + 8), .ref (th + 9), .ref (th + 10), .int 6, .int 6, .int 0, .long 0])), (th + 8, .inl (qm_dA g 1, 16, .inl fun _ => 0)), (th + 9, .inl (qm_dA g 1, 16, .inl fun _ => 0)), (th + 10, .inl (qm_dA g 1, 81, .inl fun _ => 0)), (th + 11, .inr (10, [.null, .int 0]))] _ 11 _ := hh
  refine W.widen (k := 11) (n := 734) (Nat.le_of_ble_eq_true rfl) (Nat.le_of_ble_eq_true rfl) ?_
  refine lv_dup A.1 A.2.1 dX9_init_85 rfl ?_
  refine qz_after (q := th + 11) (i := 11) (w1 := zW10 g (th + 11)) hh rfl (by rw [hh.1]; omega) (Or.inr (by omega)) (zW10_ad g (th + 11)) (va_runIN (S := ⟨A.1, A.2.1, hml, A.2.2.1, hts⟩) (hM := zX10_init l g H (th + 11) (by rw [hh.1]; omega)) (cw := ⟨va_cnB (host := "WillowLaw") 0 hts (qm_GoodIn zj_X10) rfl rfl rfl (hN.1 _ (by decide +kernel)) (tsa _ uRX10) ⟨by decide, by decide, rfl⟩ ⟨Nat.le_of_ble_eq_true rfl, Nat.le_of_ble_eq_true rfl⟩, rfl, tsa _ zn_X10⟩) (As := []) (rest := [.ref (th + 11), .int 0, .ref (th + 4)]) (b := th + 11) ⟨qz_Pc_blind _ _ _ _ _, fun U hU hW => ⟨rfl, hU, hh.2.1 11 _ rfl, va_K.moved hW.alike hK, hN.warm hW⟩⟩ rfl rfl hl.1 rfl (lv_room (Nat.le_of_ble_eq_true rfl)) dX9_init_86 ⟨Nat.le_of_ble_eq_true rfl, Nat.le_of_ble_eq_true rfl⟩) (fun H locs hh => ?_)
  have hh : qz_H (qm_D g) s.heap th [(th, .inr (9, [.ref (th + 1), .ref (th + 2), .ref (th + 3), .ref (th + 4), .ref (th + 5), .ref (th + 6), .int 0, .int 0, .int (-1)])), (th + 1, .inl (qm_dA g 2, 600, .inl fun _ => 0)), (th + 2, .inl (qm_dA g 1, 4, .inl fun _ => 0)), (th + 3, .inl (qm_dA g 5, 2, .inr (.inr (.inr (.inr (va_up (fun _ => none) 0 (some (th + 7)))))))), (th + 4, .inl (qm_dA g 9, 2, .inr (.inr (.inr (.inr fun _ => none))))), (th + 5, .inl (qm_dA g 7, 2, .inr (.inr (.inr (.inr fun _ => none))))), (th + 6, .inl (qm_dA g 6, 2, .inr (.inr (.inr (.inr fun _ => none))))), (th + 7, .inr (0, [.ref (th + 8), .ref (th + 9), .ref (th + 10), .int 6, .int 6, .int 0, .long 0])), (th + 8, .inl (qm_dA g 1, 16, .inl fun _ => 0)), (th + 9, .inl (qm_dA g 1, 16, .inl fun _ => 0)), (th + 10, .inl (qm_dA g 1, 81, .inl fun _ => 0)), (th + 11, .inr (10, [.ref (th + 12), .int 0])), (th + 12, .inl (qm_dA g 1, 160, .inl fun _ => 0))] _ 12 _ := hh
  refine W.widen (k := 12) (n := 894) (Nat.le_of_ble_eq_true rfl) (Nat.le_of_ble_eq_true rfl) ?_
  refine qz_aast A (t0 := 8) (i := 4) (qk := 11) (ci := 10) (N := 2) (r := (qm_R 10, qm_T 10, qm_nf 10)) hh rfl (qm_tys_at g 9 (by omega) (by omega)) rfl rfl (vp_in_nI (n := 0) (N := 2) (by decide) (by decide)) (Or.inr (by omega)) dX9_init_89 (fun H locs hh => ?_)
  have hh : qz_H (qm_D g) s.heap th [(th, .inr (9, [.ref (th + 1), .ref (th + 2), .ref (th + 3), .ref (th + 4), .ref (th + 5), .ref (th + 6), .int 0, .int 0, .int (-1)])), (th + 1, .inl (qm_dA g 2, 600, .inl fun _ => 0)), (th + 2, .inl (qm_dA g 1, 4, .inl fun _ => 0)), (th + 3, .inl (qm_dA g 5, 2, .inr (.inr (.inr (.inr (va_up (fun _ => none) 0 (some (th + 7)))))))), (th + 4, .inl (qm_dA g 9, 2, .inr (.inr (.inr (.inr (va_up (fun _ => none) 0 (some (th + 11)))))))), (th + 5, .inl (qm_dA g 7, 2, .inr (.inr (.inr (.inr fun _ => none))))), (th + 6, .inl (qm_dA g 6, 2, .inr (.inr (.inr (.inr fun _ => none))))), (th + 7, .inr (0, [.ref (th + 8), .ref (th + 9), .ref (th + 10), .int 6, .int 6, .int 0, .long 0])), (th + 8, .inl (qm_dA g 1, 16, .inl fun _ => 0)), (th + 9, .inl (qm_dA g 1, 16, .inl fun _ => 0)), (th + 10, .inl (qm_dA g 1, 81, .inl fun _ => 0)), (th + 11, .inr (10, [.ref (th + 12), .int 0])), (th + 12, .inl (qm_dA g 1, 160, .inl fun _ => 0))] _ 12 _ := hh
  refine lv_aload_n A.1 A.2.1 dX9_init_90 rfl (lv_at hl 1 rfl) ?_
  refine va_get (D := qm_D g) (cl := vwCl) (ci := 9) (C := qm_R 9) (T := qm_T 9) (N := qm_nf 9) (v := .ref (th + 5)) A.1 A.2.1 hts (A.2.2.2.2.2 9 (by decide)) A.2.2.1 hK hh.2.1 0 rfl rfl 4 (by decide) (hts _ (List.mem_cons_of_mem _ (qm_fld_ok pfRX9_ok 33 9 4 rfl).2)) (fun _ h9 => h9) rfl dX9_init_91 ?_
  refine lv_iload_n A.1 A.2.1 dX9_init_94 rfl (lv_at hl 0 rfl) ?_
  refine qz_new A (ad := th + 13) (by omega) (ci := 2) (fs := [.null, .null, .int 0, .int 0, .int 0]) (by decide) (List.mem_cons_of_mem _ zl_RX9_31) (List.mem_cons_of_mem _ zi_RX2) (List.mem_cons_of_mem _ uRX2) (by decide +kernel) hh (Nat.le_of_ble_eq_true rfl) (Nat.le_of_ble_eq_true rfl) dX9_init_95 (fun H hh => ?_)
  have hh : qz_H (qm_D g) s.heap th [(th, .inr (9, [.ref (th + 1), .ref (th + 2), .ref (th + 3), .ref (th + 4), .ref (th + 5), .ref (th + 6), .int 0, .int 0, .int (-1)])), (th + 1, .inl (qm_dA g 2, 600, .inl fun _ => 0)), (th + 2, .inl (qm_dA g 1, 4, .inl fun _ => 0)), (th + 3, .inl (qm_dA g 5, 2, .inr (.inr (.inr (.inr (va_up (fun _ => none) 0 (some (th + 7)))))))), (th + 4, .inl (qm_dA g 9, 2, .inr (.inr (.inr (.inr (va_up (fun _ => none) 0 (some (th + 11)))))))), (th + 5, .inl (qm_dA g 7, 2, .inr (.inr (.inr (.inr fun _ => none))))), (th + 6, .inl (qm_dA g 6, 2, .inr (.inr (.inr (.inr fun _ => none))))), (th + 7, .inr (0, [.ref (th + 8), .ref (th + 9), .ref (th + 10), .int 6, .int 6, .int 0, .long 0])), (th + 8, .inl (qm_dA g 1, 16, .inl fun _ => 0)), (th + 9, .inl (qm_dA g 1, 16, .inl fun _ => 0)), (th + 10, .inl (qm_dA g 1, 81, .inl fun _ => 0)), (th + 11, .inr (10, [.ref (th + 12), .int 0])), (th + 12, .inl (qm_dA g 1, 160, .inl fun _ => 0)), (th + 13, .inr (2, [.null, .null, .int 0, .int 0, .int 0]))] _ 13 _ := hh
  refine W.widen (k := 13) (n := 899) (Nat.le_of_ble_eq_true rfl) (Nat.le_of_ble_eq_true rfl) ?_
  refine lv_dup A.1 A.2.1 dX9_init_98 rfl ?_
  refine qz_after (q := th + 13) (i := 13) (w1 := zW2 g (th + 13)) hh rfl (by rw [hh.1]; omega) (Or.inr (by omega)) (zW2_ad g (th + 13)) (va_runIN (S := ⟨A.1, A.2.1, hml, A.2.2.1, hts⟩) (hM := zX2_init l g H (th + 13) (by rw [hh.1]; omega)) (cw := ⟨va_cnB (host := "WillowLaw") 0 hts (qm_GoodIn zj_X2) rfl rfl rfl (hN.1 _ (by decide +kernel)) (tsa _ uRX2) ⟨by decide, by decide, rfl⟩ ⟨Nat.le_of_ble_eq_true rfl, Nat.le_of_ble_eq_true rfl⟩, rfl, tsa _ zn_X2⟩) (As := []) (rest := [.ref (th + 13), .int 0, .ref (th + 5)]) (b := th + 13) ⟨qz_Pc_blind _ _ _ _ _, fun U hU hW => ⟨rfl, hU, hh.2.1 13 _ rfl, va_K.moved hW.alike hK, hN.warm hW⟩⟩ rfl rfl hl.1 rfl (lv_room (Nat.le_of_ble_eq_true rfl)) dX9_init_99 ⟨Nat.le_of_ble_eq_true rfl, Nat.le_of_ble_eq_true rfl⟩) (fun H locs hh => ?_)
  have hh : qz_H (qm_D g) s.heap th [(th, .inr (9, [.ref (th + 1), .ref (th + 2), .ref (th + 3), .ref (th + 4), .ref (th + 5), .ref (th + 6), .int 0, .int 0, .int (-1)])), (th + 1, .inl (qm_dA g 2, 600, .inl fun _ => 0)), (th + 2, .inl (qm_dA g 1, 4, .inl fun _ => 0)), (th + 3, .inl (qm_dA g 5, 2, .inr (.inr (.inr (.inr (va_up (fun _ => none) 0 (some (th + 7)))))))), (th + 4, .inl (qm_dA g 9, 2, .inr (.inr (.inr (.inr (va_up (fun _ => none) 0 (some (th + 11)))))))), (th + 5, .inl (qm_dA g 7, 2, .inr (.inr (.inr (.inr fun _ => none))))), (th + 6, .inl (qm_dA g 6, 2, .inr (.inr (.inr (.inr fun _ => none))))), (th + 7, .inr (0, [.ref (th + 8), .ref (th + 9), .ref (th + 10), .int 6, .int 6, .int 0, .long 0])), (th + 8, .inl (qm_dA g 1, 16, .inl fun _ => 0)), (th + 9, .inl (qm_dA g 1, 16, .inl fun _ => 0)), (th + 10, .inl (qm_dA g 1, 81, .inl fun _ => 0)), (th + 11, .inr (10, [.ref (th + 12), .int 0])), (th + 12, .inl (qm_dA g 1, 160, .inl fun _ => 0)), (th + 13, .inr (2, [.ref (th + 14), .ref (th + 15), .int 0, .int 0, .int 3])), (th + 14, .inl (qm_dA g 1, 6, .inl fun _ => 0)), (th + 15, .inl (qm_dA g 1, 8, .inl fun _ => 0))] _ 15 _ := hh
  refine W.widen (k := 15) (n := 913) (Nat.le_of_ble_eq_true rfl) (Nat.le_of_ble_eq_true rfl) ?_
  refine qz_aast A (t0 := 6) (i := 5) (qk := 13) (ci := 2) (N := 2) (r := (qm_R 2, qm_T 2, qm_nf 2)) hh rfl (qm_tys_at g 7 (by omega) (by omega)) rfl rfl (vp_in_nI (n := 0) (N := 2) (by decide) (by decide)) (Or.inr (by omega)) dX9_init_102 (fun H locs hh => ?_)
  have hh : qz_H (qm_D g) s.heap th [(th, .inr (9, [.ref (th + 1), .ref (th + 2), .ref (th + 3), .ref (th + 4), .ref (th + 5), .ref (th + 6), .int 0, .int 0, .int (-1)])), (th + 1, .inl (qm_dA g 2, 600, .inl fun _ => 0)), (th + 2, .inl (qm_dA g 1, 4, .inl fun _ => 0)), (th + 3, .inl (qm_dA g 5, 2, .inr (.inr (.inr (.inr (va_up (fun _ => none) 0 (some (th + 7)))))))), (th + 4, .inl (qm_dA g 9, 2, .inr (.inr (.inr (.inr (va_up (fun _ => none) 0 (some (th + 11)))))))), (th + 5, .inl (qm_dA g 7, 2, .inr (.inr (.inr (.inr (va_up (fun _ => none) 0 (some (th + 13)))))))), (th + 6, .inl (qm_dA g 6, 2, .inr (.inr (.inr (.inr fun _ => none))))), (th + 7, .inr (0, [.ref (th + 8), .ref (th + 9), .ref (th + 10), .int 6, .int 6, .int 0, .long 0])), (th + 8, .inl (qm_dA g 1, 16, .inl fun _ => 0)), (th + 9, .inl (qm_dA g 1, 16, .inl fun _ => 0)), (th + 10, .inl (qm_dA g 1, 81, .inl fun _ => 0)), (th + 11, .inr (10, [.ref (th + 12), .int 0])), (th + 12, .inl (qm_dA g 1, 160, .inl fun _ => 0)), (th + 13, .inr (2, [.ref (th + 14), .ref (th + 15), .int 0, .int 0, .int 3])), (th + 14, .inl (qm_dA g 1, 6, .inl fun _ => 0)), (th + 15, .inl (qm_dA g 1, 8, .inl fun _ => 0))] _ 15 _ := hh
  refine lv_aload_n A.1 A.2.1 dX9_init_103 rfl (lv_at hl 1 rfl) ?_
  refine va_get (D := qm_D g) (cl := vwCl) (ci := 9) (C := qm_R 9) (T := qm_T 9) (N := qm_nf 9) (v := .ref (th + 6)) A.1 A.2.1 hts (A.2.2.2.2.2 9 (by decide)) A.2.2.1 hK hh.2.1 0 rfl rfl 5 (by decide) (hts _ (List.mem_cons_of_mem _ (qm_fld_ok pfRX9_ok 39 9 5 rfl).2)) (fun _ h9 => h9) rfl dX9_init_104 ?_
  refine lv_iload_n A.1 A.2.1 dX9_init_107 rfl (lv_at hl 0 rfl) ?_
  refine qz_new A (ad := th + 16) (by omega) (ci := 1) (fs := [.null, .int 0, .int 0, .int 0]) (by decide) (List.mem_cons_of_mem _ zl_RX9_37) (List.mem_cons_of_mem _ zi_RX1) (List.mem_cons_of_mem _ uRX1) (by decide +kernel) hh (Nat.le_of_ble_eq_true rfl) (Nat.le_of_ble_eq_true rfl) dX9_init_108 (fun H hh => ?_)
  have hh : qz_H (qm_D g) s.heap th [(th, .inr (9, [.ref (th + 1), .ref (th + 2), .ref (th + 3), .ref (th + 4), .ref (th + 5), .ref (th + 6), .int 0, .int 0, .int (-1)])), (th + 1, .inl (qm_dA g 2, 600, .inl fun _ => 0)), (th + 2, .inl (qm_dA g 1, 4, .inl fun _ => 0)), (th + 3, .inl (qm_dA g 5, 2, .inr (.inr (.inr (.inr (va_up (fun _ => none) 0 (some (th + 7)))))))), (th + 4, .inl (qm_dA g 9, 2, .inr (.inr (.inr (.inr (va_up (fun _ => none) 0 (some (th + 11)))))))), (th + 5, .inl (qm_dA g 7, 2, .inr (.inr (.inr (.inr (va_up (fun _ => none) 0 (some (th + 13)))))))), (th + 6, .inl (qm_dA g 6, 2, .inr (.inr (.inr (.inr fun _ => none))))), (th + 7, .inr (0, [.ref (th + 8), .ref (th + 9), .ref (th + 10), .int 6, .int 6, .int 0, .long 0])), (th + 8, .inl (qm_dA g 1, 16, .inl fun _ => 0)), (th + 9, .inl (qm_dA g 1, 16, .inl fun _ => 0)), (th + 10, .inl (qm_dA g 1, 81, .inl fun _ => 0)), (th + 11, .inr (10, [.ref (th + 12), .int 0])), (th + 12, .inl (qm_dA g 1, 160, .inl fun _ => 0)), (th + 13, .inr (2, [.ref (th + 14), .ref (th + 15), .int 0, .int 0, .int 3])), (th + 14, .inl (qm_dA g 1, 6, .inl fun _ => 0)), (th + 15, .inl (qm_dA g 1, 8, .inl fun _ => 0)), (th + 16, .inr (1, [.null, .int 0, .int 0, .int 0]))] _ 16 _ := hh
  refine W.widen (k := 16) (n := 917) (Nat.le_of_ble_eq_true rfl) (Nat.le_of_ble_eq_true rfl) ?_
  refine lv_dup A.1 A.2.1 dX9_init_111 rfl ?_
  refine qz_after (q := th + 16) (i := 16) (w1 := zW1 g (th + 16)) hh rfl (by rw [hh.1]; omega) (Or.inr (by omega)) (zW1_ad g (th + 16)) (va_runIN (S := ⟨A.1, A.2.1, hml, A.2.2.1, hts⟩) (hM := zX1_init l g H (th + 16) (by rw [hh.1]; omega)) (cw := ⟨va_cnB (host := "WillowLaw") 0 hts (qm_GoodIn zj_X1) rfl rfl rfl (hN.1 _ (by decide +kernel)) (tsa _ uRX1) ⟨by decide, by decide, rfl⟩ ⟨Nat.le_of_ble_eq_true rfl, Nat.le_of_ble_eq_true rfl⟩, rfl, tsa _ zn_X1⟩) (As := []) (rest := [.ref (th + 16), .int 0, .ref (th + 6)]) (b := th + 16) ⟨qz_Pc_blind _ _ _ _ _, fun U hU hW => ⟨rfl, hU, hh.2.1 16 _ rfl, va_K.moved hW.alike hK, hN.warm hW⟩⟩ rfl rfl hl.1 rfl (lv_room (Nat.le_of_ble_eq_true rfl)) dX9_init_112 ⟨Nat.le_of_ble_eq_true rfl, Nat.le_of_ble_eq_true rfl⟩) (fun H locs hh => ?_)
  have hh : qz_H (qm_D g) s.heap th [(th, .inr (9, [.ref (th + 1), .ref (th + 2), .ref (th + 3), .ref (th + 4), .ref (th + 5), .ref (th + 6), .int 0, .int 0, .int (-1)])), (th + 1, .inl (qm_dA g 2, 600, .inl fun _ => 0)), (th + 2, .inl (qm_dA g 1, 4, .inl fun _ => 0)), (th + 3, .inl (qm_dA g 5, 2, .inr (.inr (.inr (.inr (va_up (fun _ => none) 0 (some (th + 7)))))))), (th + 4, .inl (qm_dA g 9, 2, .inr (.inr (.inr (.inr (va_up (fun _ => none) 0 (some (th + 11)))))))), (th + 5, .inl (qm_dA g 7, 2, .inr (.inr (.inr (.inr (va_up (fun _ => none) 0 (some (th + 13)))))))), (th + 6, .inl (qm_dA g 6, 2, .inr (.inr (.inr (.inr fun _ => none))))), (th + 7, .inr (0, [.ref (th + 8), .ref (th + 9), .ref (th + 10), .int 6, .int 6, .int 0, .long 0])), (th + 8, .inl (qm_dA g 1, 16, .inl fun _ => 0)), (th + 9, .inl (qm_dA g 1, 16, .inl fun _ => 0)), (th + 10, .inl (qm_dA g 1, 81, .inl fun _ => 0)), (th + 11, .inr (10, [.ref (th + 12), .int 0])), (th + 12, .inl (qm_dA g 1, 160, .inl fun _ => 0)), (th + 13, .inr (2, [.ref (th + 14), .ref (th + 15), .int 0, .int 0, .int 3])), (th + 14, .inl (qm_dA g 1, 6, .inl fun _ => 0)), (th + 15, .inl (qm_dA g 1, 8, .inl fun _ => 0)), (th + 16, .inr (1, [.ref (th + 17), .int 6, .int 6, .int 0])), (th + 17, .inl (qm_dA g 1, 30, .inl fun _ => 0))] _ 17 _ := hh
  refine W.widen (k := 17) (n := 947) (Nat.le_of_ble_eq_true rfl) (Nat.le_of_ble_eq_true rfl) ?_
  refine qz_aast A (t0 := 5) (i := 6) (qk := 16) (ci := 1) (N := 2) (r := (qm_R 1, qm_T 1, qm_nf 1)) hh rfl (qm_tys_at g 6 (by omega) (by omega)) rfl rfl (vp_in_nI (n := 0) (N := 2) (by decide) (by decide)) (Or.inr (by omega)) dX9_init_115 (fun H locs hh => ?_)
  have hh : qz_H (qm_D g) s.heap th [(th, .inr (9, [.ref (th + 1), .ref (th + 2), .ref (th + 3), .ref (th + 4), .ref (th + 5), .ref (th + 6), .int 0, .int 0, .int (-1)])), (th + 1, .inl (qm_dA g 2, 600, .inl fun _ => 0)), (th + 2, .inl (qm_dA g 1, 4, .inl fun _ => 0)), (th + 3, .inl (qm_dA g 5, 2, .inr (.inr (.inr (.inr (va_up (fun _ => none) 0 (some (th + 7)))))))), (th + 4, .inl (qm_dA g 9, 2, .inr (.inr (.inr (.inr (va_up (fun _ => none) 0 (some (th + 11)))))))), (th + 5, .inl (qm_dA g 7, 2, .inr (.inr (.inr (.inr (va_up (fun _ => none) 0 (some (th + 13)))))))), (th + 6, .inl (qm_dA g 6, 2, .inr (.inr (.inr (.inr (va_up (fun _ => none) 0 (some (th + 16)))))))), (th + 7, .inr (0, [.ref (th + 8), .ref (th + 9), .ref (th + 10), .int 6, .int 6, .int 0, .long 0])), (th + 8, .inl (qm_dA g 1, 16, .inl fun _ => 0)), (th + 9, .inl (qm_dA g 1, 16, .inl fun _ => 0)), (th + 10, .inl (qm_dA g 1, 81, .inl fun _ => 0)), (th + 11, .inr (10, [.ref (th + 12), .int 0])), (th + 12, .inl (qm_dA g 1, 160, .inl fun _ => 0)), (th + 13, .inr (2, [.ref (th + 14), .ref (th + 15), .int 0, .int 0, .int 3])), (th + 14, .inl (qm_dA g 1, 6, .inl fun _ => 0)), (th + 15, .inl (qm_dA g 1, 8, .inl fun _ => 0)), (th + 16, .inr (1, [.ref (th + 17), .int 6, .int 6, .int 0])), (th + 17, .inl (qm_dA g 1, 30, .inl fun _ => 0))] _ 17 _ := hh
  refine lv_iinc (v := 1) (lv' := [(1, .int 1), (0, .ref (th))]) A.1 A.2.1 dX9_init_116 hl (k := 0) rfl (by decide) (by decide) rfl (fun ls hl => ?_)
  refine lv_goto (tgt := 59) A.1 A.2.1 dX9_init_119 (by decide) ?_
  refine lv_iload_n A.1 A.2.1 dX9_init_59 rfl (lv_at hl 0 rfl) ?_
  refine lv_iconst (v := 2) A.1 A.2.1 dX9_init_60 (by decide) ?_
  refine lv_icmp_ge (tgt := 122) A.1 A.2.1 dX9_init_61 (by decide) (fun q => absurd q (by decide)) (fun _ => ?_)
  refine lv_aload_n A.1 A.2.1 dX9_init_64 rfl (lv_at hl 1 rfl) ?_
  refine va_get (D := qm_D g) (cl := vwCl) (ci := 9) (C := qm_R 9) (T := qm_T 9) (N := qm_nf 9) (v := .ref (th + 3)) A.1 A.2.1 hts (A.2.2.2.2.2 9 (by decide)) A.2.2.1 hK hh.2.1 0 rfl rfl 2 (by decide) (hts _ (List.mem_cons_of_mem _ (qm_fld_ok pfRX9_ok 21 9 2 rfl).2)) (fun _ h9 => h9) rfl dX9_init_65 ?_
  refine lv_iload_n A.1 A.2.1 dX9_init_68 rfl (lv_at hl 0 rfl) ?_
  refine qz_new A (ad := th + 18) (by omega) (ci := 0) (fs := [.null, .null, .null, .int 0, .int 0, .int 0, .long 0]) (by decide) (List.mem_cons_of_mem _ zl_RX9_19) (List.mem_cons_of_mem _ zi_RX0) (List.mem_cons_of_mem _ uRX0) (by decide +kernel) hh (Nat.le_of_ble_eq_true rfl) (Nat.le_of_ble_eq_true rfl) dX9_init_69 (fun H hh => ?_)
  have hh : qz_H (qm_D g) s.heap th [(th, .inr (9, [.ref (th + 1), .ref (th + 2), .ref (th + 3), .ref (th + 4), .ref (th + 5), .ref (th + 6), .int 0, .int 0, .int (-1)])), (th + 1, .inl (qm_dA g 2, 600, .inl fun _ => 0)), (th + 2, .inl (qm_dA g 1, 4, .inl fun _ => 0)), (th + 3, .inl (qm_dA g 5, 2, .inr (.inr (.inr (.inr (va_up (fun _ => none) 0 (some (th + 7)))))))), (th + 4, .inl (qm_dA g 9, 2, .inr (.inr (.inr (.inr (va_up (fun _ => none) 0 (some (th + 11)))))))), (th + 5, .inl (qm_dA g 7, 2, .inr (.inr (.inr (.inr (va_up (fun _ => none) 0 (some (th + 13)))))))), (th + 6, .inl (qm_dA g 6, 2, .inr (.inr (.inr (.inr (va_up (fun _ => none) 0 (some (th + 16)))))))), (th + 7, .inr (0, [.ref (th + 8), .ref (th + 9), .ref (th + 10), .int 6, .int 6, .int 0, .long 0])), (th + 8, .inl (qm_dA g 1, 16, .inl fun _ => 0)), (th + 9, .inl (qm_dA g 1, 16, .inl fun _ => 0)), (th + 10, .inl (qm_dA g 1, 81, .inl fun _ => 0)), (th + 11, .inr (10, [.ref (th + 12), .int 0])), (th + 12, .inl (qm_dA g 1, 160, .inl fun _ => 0)), (th + 13, .inr (2, [.ref (th + 14), .ref (th + 15), .int 0, .int 0, .int 3])), (th + 14, .inl (qm_dA g 1, 6, .inl fun _ => 0)), (th + 15, .inl (qm_dA g 1, 8, .inl fun _ => 0)), (th + 16, .inr (1, [.ref (th + 17), .int 6, .int 6, .int 0])), (th + 17, .inl (qm_dA g 1, 30, .inl fun _ => 0)), (th + 18, .inr (0, [.null, .null, .null, .int 0, .int 0, .int 0, .long 0]))] _ 18 _ := hh
  refine W.widen (k := 18) (n := 954) (Nat.le_of_ble_eq_true rfl) (Nat.le_of_ble_eq_true rfl) ?_
  refine lv_dup A.1 A.2.1 dX9_init_72 rfl ?_
  refine qz_after (q := th + 18) (i := 18) (w1 := zW0 g (th + 18)) hh rfl (by rw [hh.1]; omega) (Or.inr (by omega)) (zW0_ad g (th + 18)) (va_runIN (S := ⟨A.1, A.2.1, hml, A.2.2.1, hts⟩) (hM := zX0_init l g H (th + 18) (by rw [hh.1]; omega)) (cw := ⟨va_cnB (host := "WillowLaw") 0 hts (qm_GoodIn zj_X0) rfl rfl rfl (hN.1 _ (by decide +kernel)) (tsa _ uRX0) ⟨by decide, by decide, rfl⟩ ⟨Nat.le_of_ble_eq_true rfl, Nat.le_of_ble_eq_true rfl⟩, rfl, tsa _ zn_X0⟩) (As := []) (rest := [.ref (th + 18), .int 1, .ref (th + 3)]) (b := th + 18) ⟨qz_Pc_blind _ _ _ _ _, fun U hU hW => ⟨rfl, hU, hh.2.1 18 _ rfl, va_K.moved hW.alike hK, hN.warm hW⟩⟩ rfl rfl hl.1 rfl (lv_room (Nat.le_of_ble_eq_true rfl)) dX9_init_73 ⟨Nat.le_of_ble_eq_true rfl, Nat.le_of_ble_eq_true rfl⟩) (fun H locs hh => ?_)
  have hh : qz_H (qm_D g) s.heap th [(th, .inr (9, [.ref (th + 1), .ref (th + 2), .ref (th + 3), .ref (th + 4), .ref (th + 5), .ref (th + 6), .int 0, .int 0, .int (-1)])), (th + 1, .inl (qm_dA g 2, 600, .inl fun _ => 0)), (th + 2, .inl (qm_dA g 1, 4, .inl fun _ => 0)), (th + 3, .inl (qm_dA g 5, 2, .inr (.inr (.inr (.inr (va_up (fun _ => none) 0 (some (th + 7)))))))), (th + 4, .inl (qm_dA g 9, 2, .inr (.inr (.inr (.inr (va_up (fun _ => none) 0 (some (th + 11)))))))), (th + 5, .inl (qm_dA g 7, 2, .inr (.inr (.inr (.inr (va_up (fun _ => none) 0 (some (th + 13)))))))), (th + 6, .inl (qm_dA g 6, 2, .inr (.inr (.inr (.inr (va_up (fun _ => none) 0 (some (th + 16)))))))), (th + 7, .inr (0, [.ref (th + 8), .ref (th + 9), .ref (th + 10), .int 6, .int 6, .int 0, .long 0])), (th + 8, .inl (qm_dA g 1, 16, .inl fun _ => 0)), (th + 9, .inl (qm_dA g 1, 16, .inl fun _ => 0)), (th + 10, .inl (qm_dA g 1, 81, .inl fun _ => 0)), (th + 11, .inr (10, [.ref (th + 12), .int 0])), (th + 12, .inl (qm_dA g 1, 160, .inl fun _ => 0)), (th + 13, .inr (2, [.ref (th + 14), .ref (th + 15), .int 0, .int 0, .int 3])), (th + 14, .inl (qm_dA g 1, 6, .inl fun _ => 0)), (th + 15, .inl (qm_dA g 1, 8, .inl fun _ => 0)), (th + 16, .inr (1, [.ref (th + 17), .int 6, .int 6, .int 0])), (th + 17, .inl (qm_dA g 1, 30, .inl fun _ => 0)), (th + 18, .inr (0, [.ref (th + 19), .ref (th + 20), .ref (th + 21), .int 6, .int 6, .int 0, .long 0])), (th + 19, .inl (qm_dA g 1, 16, .inl fun _ => 0)), (th + 20, .inl (qm_dA g 1, 16, .inl fun _ => 0)), (th + 21, .inl (qm_dA g 1, 81, .inl fun _ => 0))] _ 21 _ := hh
  refine W.widen (k := 21) (n := 1067) (Nat.le_of_ble_eq_true rfl) (Nat.le_of_ble_eq_true rfl) ?_
  refine qz_aast A (t0 := 4) (i := 3) (qk := 18) (ci := 0) (N := 2) (r := (qm_R 0, qm_T 0, qm_nf 0)) hh rfl (qm_tys_at g 5 (by omega) (by omega)) rfl rfl (vp_in_nI (n := 1) (N := 2) (by decide) (by decide)) (Or.inr (by omega)) dX9_init_76 (fun H locs hh => ?_)
  have hh : qz_H (qm_D g) s.heap th [(th, .inr (9, [.ref (th + 1), .ref (th + 2), .ref (th + 3), .ref (th + 4), .ref (th + 5), .ref (th + 6), .int 0, .int 0, .int (-1)])), (th + 1, .inl (qm_dA g 2, 600, .inl fun _ => 0)), (th + 2, .inl (qm_dA g 1, 4, .inl fun _ => 0)), (th + 3, .inl (qm_dA g 5, 2, .inr (.inr (.inr (.inr (va_up ((va_up (fun _ => none) 0 (some (th + 7)))) 1 (some (th + 18)))))))), (th + 4, .inl (qm_dA g 9, 2, .inr (.inr (.inr (.inr (va_up (fun _ => none) 0 (some (th + 11)))))))), (th + 5, .inl (qm_dA g 7, 2, .inr (.inr (.inr (.inr (va_up (fun _ => none) 0 (some (th + 13)))))))), (th + 6, .inl (qm_dA g 6, 2, .inr (.inr (.inr (.inr (va_up (fun _ => none) 0 (some (th + 16)))))))), (th + 7, .inr (0, [.ref (th + 8), .ref (th + 9), .ref (th + 10), .int 6, .int 6, .int 0, .long 0])), (th + 8, .inl (qm_dA g 1, 16, .inl fun _ => 0)), (th + 9, .inl (qm_dA g 1, 16, .inl fun _ => 0)), (th + 10, .inl (qm_dA g 1, 81, .inl fun _ => 0)), (th + 11, .inr (10, [.ref (th + 12), .int 0])), (th + 12, .inl (qm_dA g 1, 160, .inl fun _ => 0)), (th + 13, .inr (2, [.ref (th + 14), .ref (th + 15), .int 0, .int 0, .int 3])), (th + 14, .inl (qm_dA g 1, 6, .inl fun _ => 0)), (th + 15, .inl (qm_dA g 1, 8, .inl fun _ => 0)), (th + 16, .inr (1, [.ref (th + 17), .int 6, .int 6, .int 0])), (th + 17, .inl (qm_dA g 1, 30, .inl fun _ => 0)), (th + 18, .inr (0, [.ref (th + 19), .ref (th + 20), .ref (th + 21), .int 6, .int 6, .int 0, .long 0])), (th + 19, .inl (qm_dA g 1, 16, .inl fun _ => 0)), (th + 20, .inl (qm_dA g 1, 16, .inl fun _ => 0)), (th + 21, .inl (qm_dA g 1, 81, .inl fun _ => 0))] _ 21 _ := hh
  refine lv_aload_n A.1 A.2.1 dX9_init_77 rfl (lv_at hl 1 rfl) ?_
  refine va_get (D := qm_D g) (cl := vwCl) (ci := 9) (C := qm_R 9) (T := qm_T 9) (N := qm_nf 9) (v := .ref (th + 4)) A.1 A.2.1 hts (A.2.2.2.2.2 9 (by decide)) A.2.2.1 hK hh.2.1 0 rfl rfl 3 (by decide) (hts _ (List.mem_cons_of_mem _ (qm_fld_ok pfRX9_ok 27 9 3 rfl).2)) (fun _ h9 => h9) rfl dX9_init_78 ?_
  refine lv_iload_n A.1 A.2.1 dX9_init_81 rfl (lv_at hl 0 rfl) ?_
  refine qz_new A (ad := th + 22) (by omega) (ci := 10) (fs := [.null, .int 0]) (by decide) (List.mem_cons_of_mem _ zl_RX9_25) (List.mem_cons_of_mem _ zi_RX10) (List.mem_cons_of_mem _ uRX10) (by decide +kernel) hh (Nat.le_of_ble_eq_true rfl) (Nat.le_of_ble_eq_true rfl) dX9_init_82 (fun H hh => ?_)
  have hh : qz_H (qm_D g) s.heap th [(th, .inr (9, [.ref (th + 1), .ref (th + 2), .ref (th + 3), .ref (th + 4), .ref (th + 5), .ref (th + 6), .int 0, .int 0, .int (-1)])), (th + 1, .inl (qm_dA g 2, 600, .inl fun _ => 0)), (th + 2, .inl (qm_dA g 1, 4, .inl fun _ => 0)), (th + 3, .inl (qm_dA g 5, 2, .inr (.inr (.inr (.inr (va_up ((va_up (fun _ => none) 0 (some (th + 7)))) 1 (some (th + 18)))))))), (th + 4, .inl (qm_dA g 9, 2, .inr (.inr (.inr (.inr (va_up (fun _ => none) 0 (some (th + 11)))))))), (th + 5, .inl (qm_dA g 7, 2, .inr (.inr (.inr (.inr (va_up (fun _ => none) 0 (some (th + 13)))))))), (th + 6, .inl (qm_dA g 6, 2, .inr (.inr (.inr (.inr (va_up (fun _ => none) 0 (some (th + 16)))))))), (th + 7, .inr (0, [.ref (th + 8), .ref (th + 9), .ref (th + 10), .int 6, .int 6, .int 0, .long 0])), (th + 8, .inl (qm_dA g 1, 16, .inl fun _ => 0)), (th + 9, .inl (qm_dA g 1, 16, .inl fun _ => 0)), (th + 10, .inl (qm_dA g 1, 81, .inl fun _ => 0)), (th + 11, .inr (10, [.ref (th + 12), .int 0])), (th + 12, .inl (qm_dA g 1, 160, .inl fun _ => 0)), (th + 13, .inr (2, [.ref (th + 14), .ref (th + 15), .int 0, .int 0, .int 3])), (th + 14, .inl (qm_dA g 1, 6, .inl fun _ => 0)), (th + 15, .inl (qm_dA g 1, 8, .inl fun _ => 0)), (th + 16, .inr (1, [.ref (th + 17), .int 6, .int 6, .int 0])), (th + 17, .inl (qm_dA g 1, 30, .inl fun _ => 0)), (th + 18, .inr (0, [.ref (th + 19), .ref (th + 20), .ref (th + 21), .int 6, .int 6, .int 0, .long 0])), (th + 19, .inl (qm_dA g 1, 16, .inl fun _ => 0)), (th + 20, .inl (qm_dA g 1, 16, .inl fun _ => 0)), (th + 21, .inl (qm_dA g 1, 81, .inl fun _ => 0)), (th + 22, .inr (10, [.null, .int 0]))] _ 22 _ := hh
  refine W.widen (k := 22) (n := 1069) (Nat.le_of_ble_eq_true rfl) (Nat.le_of_ble_eq_true rfl) ?_
  refine lv_dup A.1 A.2.1 dX9_init_85 rfl ?_
  refine qz_after (q := th + 22) (i := 22) (w1 := zW10 g (th + 22)) hh rfl (by rw [hh.1]; omega) (Or.inr (by omega)) (zW10_ad g (th + 22)) (va_runIN (S := ⟨A.1, A.2.1, hml, A.2.2.1, hts⟩) (hM := zX10_init l g H (th + 22) (by rw [hh.1]; omega)) (cw := ⟨va_cnB (host := "WillowLaw") 0 hts (qm_GoodIn zj_X10) rfl rfl rfl (hN.1 _ (by decide +kernel)) (tsa _ uRX10) ⟨by decide, by decide, rfl⟩ ⟨Nat.le_of_ble_eq_true rfl, Nat.le_of_ble_eq_true rfl⟩, rfl, tsa _ zn_X10⟩) (As := []) (rest := [.ref (th + 22), .int 1, .ref (th + 4)]) (b := th + 22) ⟨qz_Pc_blind _ _ _ _ _, fun U hU hW => ⟨rfl, hU, hh.2.1 22 _ rfl, va_K.moved hW.alike hK, hN.warm hW⟩⟩ rfl rfl hl.1 rfl (lv_room (Nat.le_of_ble_eq_true rfl)) dX9_init_86 ⟨Nat.le_of_ble_eq_true rfl, Nat.le_of_ble_eq_true rfl⟩) (fun H locs hh => ?_)
  have hh : qz_H (qm_D g) s.heap th [(th, .inr (9, [.ref (th + 1), .ref (th + 2), .ref (th + 3), .ref (th + 4), .ref (th + 5), .ref (th + 6), .int 0, .int 0, .int (-1)])), (th + 1, .inl (qm_dA g 2, 600, .inl fun _ => 0)), (th + 2, .inl (qm_dA g 1, 4, .inl fun _ => 0)), (th + 3, .inl (qm_dA g 5, 2, .inr (.inr (.inr (.inr (va_up ((va_up (fun _ => none) 0 (some (th + 7)))) 1 (some (th + 18)))))))), (th + 4, .inl (qm_dA g 9, 2, .inr (.inr (.inr (.inr (va_up (fun _ => none) 0 (some (th + 11)))))))), (th + 5, .inl (qm_dA g 7, 2, .inr (.inr (.inr (.inr (va_up (fun _ => none) 0 (some (th + 13)))))))), (th + 6, .inl (qm_dA g 6, 2, .inr (.inr (.inr (.inr (va_up (fun _ => none) 0 (some (th + 16)))))))), (th + 7, .inr (0, [.ref (th + 8), .ref (th + 9), .ref (th + 10), .int 6, .int 6, .int 0, .long 0])), (th + 8, .inl (qm_dA g 1, 16, .inl fun _ => 0)), (th + 9, .inl (qm_dA g 1, 16, .inl fun _ => 0)), (th + 10, .inl (qm_dA g 1, 81, .inl fun _ => 0)), (th + 11, .inr (10, [.ref (th + 12), .int 0])), (th + 12, .inl (qm_dA g 1, 160, .inl fun _ => 0)), (th + 13, .inr (2, [.ref (th + 14), .ref (th + 15), .int 0, .int 0, .int 3])), (th + 14, .inl (qm_dA g 1, 6, .inl fun _ => 0)), (th + 15, .inl (qm_dA g 1, 8, .inl fun _ => 0)), (th + 16, .inr (1, [.ref (th + 17), .int 6, .int 6, .int 0])), (th + 17, .inl (qm_dA g 1, 30, .inl fun _ => 0)), (th + 18, .inr (0, [.ref (th + 19), .ref (th + 20), .ref (th + 21), .int 6, .int 6, .int 0, .long 0])), (th + 19, .inl (qm_dA g 1, 16, .inl fun _ => 0)), (th + 20, .inl (qm_dA g 1, 16, .inl fun _ => 0)), (th + 21, .inl (qm_dA g 1, 81, .inl fun _ => 0)), (th + 22, .inr (10, [.ref (th + 23), .int 0])), (th + 23, .inl (qm_dA g 1, 160, .inl fun _ => 0))] _ 23 _ := hh
  refine W.widen (k := 23) (n := 1229) (Nat.le_of_ble_eq_true rfl) (Nat.le_of_ble_eq_true rfl) ?_
  refine qz_aast A (t0 := 8) (i := 4) (qk := 22) (ci := 10) (N := 2) (r := (qm_R 10, qm_T 10, qm_nf 10)) hh rfl (qm_tys_at g 9 (by omega) (by omega)) rfl rfl (vp_in_nI (n := 1) (N := 2) (by decide) (by decide)) (Or.inr (by omega)) dX9_init_89 (fun H locs hh => ?_)
  have hh : qz_H (qm_D g) s.heap th [(th, .inr (9, [.ref (th + 1), .ref (th + 2), .ref (th + 3), .ref (th + 4), .ref (th + 5), .ref (th + 6), .int 0, .int 0, .int (-1)])), (th + 1, .inl (qm_dA g 2, 600, .inl fun _ => 0)), (th + 2, .inl (qm_dA g 1, 4, .inl fun _ => 0)), (th + 3, .inl (qm_dA g 5, 2, .inr (.inr (.inr (.inr (va_up ((va_up (fun _ => none) 0 (some (th + 7)))) 1 (some (th + 18)))))))), (th + 4, .inl (qm_dA g 9, 2, .inr (.inr (.inr (.inr (va_up ((va_up (fun _ => none) 0 (some (th + 11)))) 1 (some (th + 22)))))))), (th + 5, .inl (qm_dA g 7, 2, .inr (.inr (.inr (.inr (va_up (fun _ => none) 0 (some (th + 13)))))))), (th + 6, .inl (qm_dA g 6, 2, .inr (.inr (.inr (.inr (va_up (fun _ => none) 0 (some (th + 16)))))))), (th + 7, .inr (0, [.ref (th + 8), .ref (th + 9), .ref (th + 10), .int 6, .int 6, .int 0, .long 0])), (th + 8, .inl (qm_dA g 1, 16, .inl fun _ => 0)), (th + 9, .inl (qm_dA g 1, 16, .inl fun _ => 0)), (th + 10, .inl (qm_dA g 1, 81, .inl fun _ => 0)), (th + 11, .inr (10, [.ref (th + 12), .int 0])), (th + 12, .inl (qm_dA g 1, 160, .inl fun _ => 0)), (th + 13, .inr (2, [.ref (th + 14), .ref (th + 15), .int 0, .int 0, .int 3])), (th + 14, .inl (qm_dA g 1, 6, .inl fun _ => 0)), (th + 15, .inl (qm_dA g 1, 8, .inl fun _ => 0)), (th + 16, .inr (1, [.ref (th + 17), .int 6, .int 6, .int 0])), (th + 17, .inl (qm_dA g 1, 30, .inl fun _ => 0)), (th + 18, .inr (0, [.ref (th + 19), .ref (th + 20), .ref (th + 21), .int 6, .int 6, .int 0, .long 0])), (th + 19, .inl (qm_dA g 1, 16, .inl fun _ => 0)), (th + 20, .inl (qm_dA g 1, 16, .inl fun _ => 0)), (th + 21, .inl (qm_dA g 1, 81, .inl fun _ => 0)), (th + 22, .inr (10, [.ref (th + 23), .int 0])), (th + 23, .inl (qm_dA g 1, 160, .inl fun _ => 0))] _ 23 _ := hh
  refine lv_aload_n A.1 A.2.1 dX9_init_90 rfl (lv_at hl 1 rfl) ?_
  refine va_get (D := qm_D g) (cl := vwCl) (ci := 9) (C := qm_R 9) (T := qm_T 9) (N := qm_nf 9) (v := .ref (th + 5)) A.1 A.2.1 hts (A.2.2.2.2.2 9 (by decide)) A.2.2.1 hK hh.2.1 0 rfl rfl 4 (by decide) (hts _ (List.mem_cons_of_mem _ (qm_fld_ok pfRX9_ok 33 9 4 rfl).2)) (fun _ h9 => h9) rfl dX9_init_91 ?_
  refine lv_iload_n A.1 A.2.1 dX9_init_94 rfl (lv_at hl 0 rfl) ?_
  refine qz_new A (ad := th + 24) (by omega) (ci := 2) (fs := [.null, .null, .int 0, .int 0, .int 0]) (by decide) (List.mem_cons_of_mem _ zl_RX9_31) (List.mem_cons_of_mem _ zi_RX2) (List.mem_cons_of_mem _ uRX2) (by decide +kernel) hh (Nat.le_of_ble_eq_true rfl) (Nat.le_of_ble_eq_true rfl) dX9_init_95 (fun H hh => ?_)
  have hh : qz_H (qm_D g) s.heap th [(th, .inr (9, [.ref (th + 1), .ref (th + 2), .ref (th + 3), .ref (th + 4), .ref (th + 5), .ref (th + 6), .int 0, .int 0, .int (-1)])), (th + 1, .inl (qm_dA g 2, 600, .inl fun _ => 0)), (th + 2, .inl (qm_dA g 1, 4, .inl fun _ => 0)), (th + 3, .inl (qm_dA g 5, 2, .inr (.inr (.inr (.inr (va_up ((va_up (fun _ => none) 0 (some (th + 7)))) 1 (some (th + 18)))))))), (th + 4, .inl (qm_dA g 9, 2, .inr (.inr (.inr (.inr (va_up ((va_up (fun _ => none) 0 (some (th + 11)))) 1 (some (th + 22)))))))), (th + 5, .inl (qm_dA g 7, 2, .inr (.inr (.inr (.inr (va_up (fun _ => none) 0 (some (th + 13)))))))), (th + 6, .inl (qm_dA g 6, 2, .inr (.inr (.inr (.inr (va_up (fun _ => none) 0 (some (th + 16)))))))), (th + 7, .inr (0, [.ref (th + 8), .ref (th + 9), .ref (th + 10), .int 6, .int 6, .int 0, .long 0])), (th + 8, .inl (qm_dA g 1, 16, .inl fun _ => 0)), (th + 9, .inl (qm_dA g 1, 16, .inl fun _ => 0)), (th + 10, .inl (qm_dA g 1, 81, .inl fun _ => 0)), (th + 11, .inr (10, [.ref (th + 12), .int 0])), (th + 12, .inl (qm_dA g 1, 160, .inl fun _ => 0)), (th + 13, .inr (2, [.ref (th + 14), .ref (th + 15), .int 0, .int 0, .int 3])), (th + 14, .inl (qm_dA g 1, 6, .inl fun _ => 0)), (th + 15, .inl (qm_dA g 1, 8, .inl fun _ => 0)), (th + 16, .inr (1, [.ref (th + 17), .int 6, .int 6, .int 0])), (th + 17, .inl (qm_dA g 1, 30, .inl fun _ => 0)), (th + 18, .inr (0, [.ref (th + 19), .ref (th + 20), .ref (th + 21), .int 6, .int 6, .int 0, .long 0])), (th + 19, .inl (qm_dA g 1, 16, .inl fun _ => 0)), (th + 20, .inl (qm_dA g 1, 16, .inl fun _ => 0)), (th + 21, .inl (qm_dA g 1, 81, .inl fun _ => 0)), (th + 22, .inr (10, [.ref (th + 23), .int 0])), (th + 23, .inl (qm_dA g 1, 160, .inl fun _ => 0)), (th + 24, .inr (2, [.null, .null, .int 0, .int 0, .int 0]))] _ 24 _ := hh
  refine W.widen (k := 24) (n := 1234) (Nat.le_of_ble_eq_true rfl) (Nat.le_of_ble_eq_true rfl) ?_
  refine lv_dup A.1 A.2.1 dX9_init_98 rfl ?_
  refine qz_after (q := th + 24) (i := 24) (w1 := zW2 g (th + 24)) hh rfl (by rw [hh.1]; omega) (Or.inr (by omega)) (zW2_ad g (th + 24)) (va_runIN (S := ⟨A.1, A.2.1, hml, A.2.2.1, hts⟩) (hM := zX2_init l g H (th + 24) (by rw [hh.1]; omega)) (cw := ⟨va_cnB (host := "WillowLaw") 0 hts (qm_GoodIn zj_X2) rfl rfl rfl (hN.1 _ (by decide +kernel)) (tsa _ uRX2) ⟨by decide, by decide, rfl⟩ ⟨Nat.le_of_ble_eq_true rfl, Nat.le_of_ble_eq_true rfl⟩, rfl, tsa _ zn_X2⟩) (As := []) (rest := [.ref (th + 24), .int 1, .ref (th + 5)]) (b := th + 24) ⟨qz_Pc_blind _ _ _ _ _, fun U hU hW => ⟨rfl, hU, hh.2.1 24 _ rfl, va_K.moved hW.alike hK, hN.warm hW⟩⟩ rfl rfl hl.1 rfl (lv_room (Nat.le_of_ble_eq_true rfl)) dX9_init_99 ⟨Nat.le_of_ble_eq_true rfl, Nat.le_of_ble_eq_true rfl⟩) (fun H locs hh => ?_)
  have hh : qz_H (qm_D g) s.heap th [(th, .inr (9, [.ref (th + 1), .ref (th + 2), .ref (th + 3), .ref (th + 4), .ref (th + 5), .ref (th + 6), .int 0, .int 0, .int (-1)])), (th + 1, .inl (qm_dA g 2, 600, .inl fun _ => 0)), (th + 2, .inl (qm_dA g 1, 4, .inl fun _ => 0)), (th + 3, .inl (qm_dA g 5, 2, .inr (.inr (.inr (.inr (va_up ((va_up (fun _ => none) 0 (some (th + 7)))) 1 (some (th + 18)))))))), (th + 4, .inl (qm_dA g 9, 2, .inr (.inr (.inr (.inr (va_up ((va_up (fun _ => none) 0 (some (th + 11)))) 1 (some (th + 22)))))))), (th + 5, .inl (qm_dA g 7, 2, .inr (.inr (.inr (.inr (va_up (fun _ => none) 0 (some (th + 13)))))))), (th + 6, .inl (qm_dA g 6, 2, .inr (.inr (.inr (.inr (va_up (fun _ => none) 0 (some (th + 16)))))))), (th + 7, .inr (0, [.ref (th + 8), .ref (th + 9), .ref (th + 10), .int 6, .int 6, .int 0, .long 0])), (th + 8, .inl (qm_dA g 1, 16, .inl fun _ => 0)), (th + 9, .inl (qm_dA g 1, 16, .inl fun _ => 0)), (th + 10, .inl (qm_dA g 1, 81, .inl fun _ => 0)), (th + 11, .inr (10, [.ref (th + 12), .int 0])), (th + 12, .inl (qm_dA g 1, 160, .inl fun _ => 0)), (th + 13, .inr (2, [.ref (th + 14), .ref (th + 15), .int 0, .int 0, .int 3])), (th + 14, .inl (qm_dA g 1, 6, .inl fun _ => 0)), (th + 15, .inl (qm_dA g 1, 8, .inl fun _ => 0)), (th + 16, .inr (1, [.ref (th + 17), .int 6, .int 6, .int 0])), (th + 17, .inl (qm_dA g 1, 30, .inl fun _ => 0)), (th + 18, .inr (0, [.ref (th + 19), .ref (th + 20), .ref (th + 21), .int 6, .int 6, .int 0, .long 0])), (th + 19, .inl (qm_dA g 1, 16, .inl fun _ => 0)), (th + 20, .inl (qm_dA g 1, 16, .inl fun _ => 0)), (th + 21, .inl (qm_dA g 1, 81, .inl fun _ => 0)), (th + 22, .inr (10, [.ref (th + 23), .int 0])), (th + 23, .inl (qm_dA g 1, 160, .inl fun _ => 0)), (th + 24, .inr (2, [.ref (th + 25), .ref (th + 26), .int 0, .int 0, .int 3])), (th + 25, .inl (qm_dA g 1, 6, .inl fun _ => 0)), (th + 26, .inl (qm_dA g 1, 8, .inl fun _ => 0))] _ 26 _ := hh
  refine W.widen (k := 26) (n := 1248) (Nat.le_of_ble_eq_true rfl) (Nat.le_of_ble_eq_true rfl) ?_
  refine qz_aast A (t0 := 6) (i := 5) (qk := 24) (ci := 2) (N := 2) (r := (qm_R 2, qm_T 2, qm_nf 2)) hh rfl (qm_tys_at g 7 (by omega) (by omega)) rfl rfl (vp_in_nI (n := 1) (N := 2) (by decide) (by decide)) (Or.inr (by omega)) dX9_init_102 (fun H locs hh => ?_)
  have hh : qz_H (qm_D g) s.heap th [(th, .inr (9, [.ref (th + 1), .ref (th + 2), .ref (th + 3), .ref (th + 4), .ref (th + 5), .ref (th + 6), .int 0, .int 0, .int (-1)])), (th + 1, .inl (qm_dA g 2, 600, .inl fun _ => 0)), (th + 2, .inl (qm_dA g 1, 4, .inl fun _ => 0)), (th + 3, .inl (qm_dA g 5, 2, .inr (.inr (.inr (.inr (va_up ((va_up (fun _ => none) 0 (some (th + 7)))) 1 (some (th + 18)))))))), (th + 4, .inl (qm_dA g 9, 2, .inr (.inr (.inr (.inr (va_up ((va_up (fun _ => none) 0 (some (th + 11)))) 1 (some (th + 22)))))))), (th + 5, .inl (qm_dA g 7, 2, .inr (.inr (.inr (.inr (va_up ((va_up (fun _ => none) 0 (some (th + 13)))) 1 (some (th + 24)))))))), (th + 6, .inl (qm_dA g 6, 2, .inr (.inr (.inr (.inr (va_up (fun _ => none) 0 (some (th + 16)))))))), (th + 7, .inr (0, [.ref (th + 8), .ref (th + 9), .ref (th + 10), .int 6, .int 6, .int 0, .long 0])), (th + 8, .inl (qm_dA g 1, 16, .inl fun _ => 0)), (th + 9, .inl (qm_dA g 1, 16, .inl fun _ => 0)), (th + 10, .inl (qm_dA g 1, 81, .inl fun _ => 0)), (th + 11, .inr (10, [.ref (th + 12), .int 0])), (th + 12, .inl (qm_dA g 1, 160, .inl fun _ => 0)), (th + 13, .inr (2, [.ref (th + 14), .ref (th + 15), .int 0, .int 0, .int 3])), (th + 14, .inl (qm_dA g 1, 6, .inl fun _ => 0)), (th + 15, .inl (qm_dA g 1, 8, .inl fun _ => 0)), (th + 16, .inr (1, [.ref (th + 17), .int 6, .int 6, .int 0])), (th + 17, .inl (qm_dA g 1, 30, .inl fun _ => 0)), (th + 18, .inr (0, [.ref (th + 19), .ref (th + 20), .ref (th + 21), .int 6, .int 6, .int 0, .long 0])), (th + 19, .inl (qm_dA g 1, 16, .inl fun _ => 0)), (th + 20, .inl (qm_dA g 1, 16, .inl fun _ => 0)), (th + 21, .inl (qm_dA g 1, 81, .inl fun _ => 0)), (th + 22, .inr (10, [.ref (th + 23), .int 0])), (th + 23, .inl (qm_dA g 1, 160, .inl fun _ => 0)), (th + 24, .inr (2, [.ref (th + 25), .ref (th + 26), .int 0, .int 0, .int 3])), (th + 25, .inl (qm_dA g 1, 6, .inl fun _ => 0)), (th + 26, .inl (qm_dA g 1, 8, .inl fun _ => 0))] _ 26 _ := hh
  refine lv_aload_n A.1 A.2.1 dX9_init_103 rfl (lv_at hl 1 rfl) ?_
  refine va_get (D := qm_D g) (cl := vwCl) (ci := 9) (C := qm_R 9) (T := qm_T 9) (N := qm_nf 9) (v := .ref (th + 6)) A.1 A.2.1 hts (A.2.2.2.2.2 9 (by decide)) A.2.2.1 hK hh.2.1 0 rfl rfl 5 (by decide) (hts _ (List.mem_cons_of_mem _ (qm_fld_ok pfRX9_ok 39 9 5 rfl).2)) (fun _ h9 => h9) rfl dX9_init_104 ?_
  refine lv_iload_n A.1 A.2.1 dX9_init_107 rfl (lv_at hl 0 rfl) ?_
  refine qz_new A (ad := th + 27) (by omega) (ci := 1) (fs := [.null, .int 0, .int 0, .int 0]) (by decide) (List.mem_cons_of_mem _ zl_RX9_37) (List.mem_cons_of_mem _ zi_RX1) (List.mem_cons_of_mem _ uRX1) (by decide +kernel) hh (Nat.le_of_ble_eq_true rfl) (Nat.le_of_ble_eq_true rfl) dX9_init_108 (fun H hh => ?_)
  have hh : qz_H (qm_D g) s.heap th [(th, .inr (9, [.ref (th + 1), .ref (th + 2), .ref (th + 3), .ref (th + 4), .ref (th + 5), .ref (th + 6), .int 0, .int 0, .int (-1)])), (th + 1, .inl (qm_dA g 2, 600, .inl fun _ => 0)), (th + 2, .inl (qm_dA g 1, 4, .inl fun _ => 0)), (th + 3, .inl (qm_dA g 5, 2, .inr (.inr (.inr (.inr (va_up ((va_up (fun _ => none) 0 (some (th + 7)))) 1 (some (th + 18)))))))), (th + 4, .inl (qm_dA g 9, 2, .inr (.inr (.inr (.inr (va_up ((va_up (fun _ => none) 0 (some (th + 11)))) 1 (some (th + 22)))))))), (th + 5, .inl (qm_dA g 7, 2, .inr (.inr (.inr (.inr (va_up ((va_up (fun _ => none) 0 (some (th + 13)))) 1 (some (th + 24)))))))), (th + 6, .inl (qm_dA g 6, 2, .inr (.inr (.inr (.inr (va_up (fun _ => none) 0 (some (th + 16)))))))), (th + 7, .inr (0, [.ref (th + 8), .ref (th + 9), .ref (th + 10), .int 6, .int 6, .int 0, .long 0])), (th + 8, .inl (qm_dA g 1, 16, .inl fun _ => 0)), (th + 9, .inl (qm_dA g 1, 16, .inl fun _ => 0)), (th + 10, .inl (qm_dA g 1, 81, .inl fun _ => 0)), (th + 11, .inr (10, [.ref (th + 12), .int 0])), (th + 12, .inl (qm_dA g 1, 160, .inl fun _ => 0)), (th + 13, .inr (2, [.ref (th + 14), .ref (th + 15), .int 0, .int 0, .int 3])), (th + 14, .inl (qm_dA g 1, 6, .inl fun _ => 0)), (th + 15, .inl (qm_dA g 1, 8, .inl fun _ => 0)), (th + 16, .inr (1, [.ref (th + 17), .int 6, .int 6, .int 0])), (th + 17, .inl (qm_dA g 1, 30, .inl fun _ => 0)), (th + 18, .inr (0, [.ref (th + 19), .ref (th + 20), .ref (th + 21), .int 6, .int 6, .int 0, .long 0])), (th + 19, .inl (qm_dA g 1, 16, .inl fun _ => 0)), (th + 20, .inl (qm_dA g 1, 16, .inl fun _ => 0)), (th + 21, .inl (qm_dA g 1, 81, .inl fun _ => 0)), (th + 22, .inr (10, [.ref (th + 23), .int 0])), (th + 23, .inl (qm_dA g 1, 160, .inl fun _ => 0)), (th + 24, .inr (2, [.ref (th + 25), .ref (th + 26), .int 0, .int 0, .int 3])), (th + 25, .inl (qm_dA g 1, 6, .inl fun _ => 0)), (th + 26, .inl (qm_dA g 1, 8, .inl fun _ => 0)), (th + 27, .inr (1, [.null, .int 0, .int 0, .int 0]))] _ 27 _ := hh
  refine W.widen (k := 27) (n := 1252) (Nat.le_of_ble_eq_true rfl) (Nat.le_of_ble_eq_true rfl) ?_
  refine lv_dup A.1 A.2.1 dX9_init_111 rfl ?_
  refine qz_after (q := th + 27) (i := 27) (w1 := zW1 g (th + 27)) hh rfl (by rw [hh.1]; omega) (Or.inr (by omega)) (zW1_ad g (th + 27)) (va_runIN (S := ⟨A.1, A.2.1, hml, A.2.2.1, hts⟩) (hM := zX1_init l g H (th + 27) (by rw [hh.1]; omega)) (cw := ⟨va_cnB (host := "WillowLaw") 0 hts (qm_GoodIn zj_X1) rfl rfl rfl (hN.1 _ (by decide +kernel)) (tsa _ uRX1) ⟨by decide, by decide, rfl⟩ ⟨Nat.le_of_ble_eq_true rfl, Nat.le_of_ble_eq_true rfl⟩, rfl, tsa _ zn_X1⟩) (As := []) (rest := [.ref (th + 27), .int 1, .ref (th + 6)]) (b := th + 27) ⟨qz_Pc_blind _ _ _ _ _, fun U hU hW => ⟨rfl, hU, hh.2.1 27 _ rfl, va_K.moved hW.alike hK, hN.warm hW⟩⟩ rfl rfl hl.1 rfl (lv_room (Nat.le_of_ble_eq_true rfl)) dX9_init_112 ⟨Nat.le_of_ble_eq_true rfl, Nat.le_of_ble_eq_true rfl⟩) (fun H locs hh => ?_)
  have hh : qz_H (qm_D g) s.heap th [(th, .inr (9, [.ref (th + 1), .ref (th + 2), .ref (th + 3), .ref (th + 4), .ref (th + 5), .ref (th + 6), .int 0, .int 0, .int (-1)])), (th + 1, .inl (qm_dA g 2, 600, .inl fun _ => 0)), (th + 2, .inl (qm_dA g 1, 4, .inl fun _ => 0)), (th + 3, .inl (qm_dA g 5, 2, .inr (.inr (.inr (.inr (va_up ((va_up (fun _ => none) 0 (some (th + 7)))) 1 (some (th + 18)))))))), (th + 4, .inl (qm_dA g 9, 2, .inr (.inr (.inr (.inr (va_up ((va_up (fun _ => none) 0 (some (th + 11)))) 1 (some (th + 22)))))))), (th + 5, .inl (qm_dA g 7, 2, .inr (.inr (.inr (.inr (va_up ((va_up (fun _ => none) 0 (some (th + 13)))) 1 (some (th + 24)))))))), (th + 6, .inl (qm_dA g 6, 2, .inr (.inr (.inr (.inr (va_up (fun _ => none) 0 (some (th + 16)))))))), (th + 7, .inr (0, [.ref (th + 8), .ref (th + 9), .ref (th + 10), .int 6, .int 6, .int 0, .long 0])), (th + 8, .inl (qm_dA g 1, 16, .inl fun _ => 0)), (th + 9, .inl (qm_dA g 1, 16, .inl fun _ => 0)), (th + 10, .inl (qm_dA g 1, 81, .inl fun _ => 0)), (th + 11, .inr (10, [.ref (th + 12), .int 0])), (th + 12, .inl (qm_dA g 1, 160, .inl fun _ => 0)), (th + 13, .inr (2, [.ref (th + 14), .ref (th + 15), .int 0, .int 0, .int 3])), (th + 14, .inl (qm_dA g 1, 6, .inl fun _ => 0)), (th + 15, .inl (qm_dA g 1, 8, .inl fun _ => 0)), (th + 16, .inr (1, [.ref (th + 17), .int 6, .int 6, .int 0])), (th + 17, .inl (qm_dA g 1, 30, .inl fun _ => 0)), (th + 18, .inr (0, [.ref (th + 19), .ref (th + 20), .ref (th + 21), .int 6, .int 6, .int 0, .long 0])), (th + 19, .inl (qm_dA g 1, 16, .inl fun _ => 0)), (th + 20, .inl (qm_dA g 1, 16, .inl fun _ => 0)), (th + 21, .inl (qm_dA g 1, 81, .inl fun _ => 0)), (th + 22, .inr (10, [.ref (th + 23), .int 0])), (th + 23, .inl (qm_dA g 1, 160, .inl fun _ => 0)), (th + 24, .inr (2, [.ref (th + 25), .ref (th + 26), .int 0, .int 0, .int 3])), (th + 25, .inl (qm_dA g 1, 6, .inl fun _ => 0)), (th + 26, .inl (qm_dA g 1, 8, .inl fun _ => 0)), (th + 27, .inr (1, [.ref (th + 28), .int 6, .int 6, .int 0])), (th + 28, .inl (qm_dA g 1, 30, .inl fun _ => 0))] _ 28 _ := hh
  refine W.widen (k := 28) (n := 1282) (Nat.le_of_ble_eq_true rfl) (Nat.le_of_ble_eq_true rfl) ?_
  refine qz_aast A (t0 := 5) (i := 6) (qk := 27) (ci := 1) (N := 2) (r := (qm_R 1, qm_T 1, qm_nf 1)) hh rfl (qm_tys_at g 6 (by omega) (by omega)) rfl rfl (vp_in_nI (n := 1) (N := 2) (by decide) (by decide)) (Or.inr (by omega)) dX9_init_115 (fun H locs hh => ?_)
  have hh : qz_H (qm_D g) s.heap th [(th, .inr (9, [.ref (th + 1), .ref (th + 2), .ref (th + 3), .ref (th + 4), .ref (th + 5), .ref (th + 6), .int 0, .int 0, .int (-1)])), (th + 1, .inl (qm_dA g 2, 600, .inl fun _ => 0)), (th + 2, .inl (qm_dA g 1, 4, .inl fun _ => 0)), (th + 3, .inl (qm_dA g 5, 2, .inr (.inr (.inr (.inr (va_up ((va_up (fun _ => none) 0 (some (th + 7)))) 1 (some (th + 18)))))))), (th + 4, .inl (qm_dA g 9, 2, .inr (.inr (.inr (.inr (va_up ((va_up (fun _ => none) 0 (some (th + 11)))) 1 (some (th + 22)))))))), (th + 5, .inl (qm_dA g 7, 2, .inr (.inr (.inr (.inr (va_up ((va_up (fun _ => none) 0 (some (th + 13)))) 1 (some (th + 24)))))))), (th + 6, .inl (qm_dA g 6, 2, .inr (.inr (.inr (.inr (va_up ((va_up (fun _ => none) 0 (some (th + 16)))) 1 (some (th + 27)))))))), (th + 7, .inr (0, [.ref (th + 8), .ref (th + 9), .ref (th + 10), .int 6, .int 6, .int 0, .long 0])), (th + 8, .inl (qm_dA g 1, 16, .inl fun _ => 0)), (th + 9, .inl (qm_dA g 1, 16, .inl fun _ => 0)), (th + 10, .inl (qm_dA g 1, 81, .inl fun _ => 0)), (th + 11, .inr (10, [.ref (th + 12), .int 0])), (th + 12, .inl (qm_dA g 1, 160, .inl fun _ => 0)), (th + 13, .inr (2, [.ref (th + 14), .ref (th + 15), .int 0, .int 0, .int 3])), (th + 14, .inl (qm_dA g 1, 6, .inl fun _ => 0)), (th + 15, .inl (qm_dA g 1, 8, .inl fun _ => 0)), (th + 16, .inr (1, [.ref (th + 17), .int 6, .int 6, .int 0])), (th + 17, .inl (qm_dA g 1, 30, .inl fun _ => 0)), (th + 18, .inr (0, [.ref (th + 19), .ref (th + 20), .ref (th + 21), .int 6, .int 6, .int 0, .long 0])), (th + 19, .inl (qm_dA g 1, 16, .inl fun _ => 0)), (th + 20, .inl (qm_dA g 1, 16, .inl fun _ => 0)), (th + 21, .inl (qm_dA g 1, 81, .inl fun _ => 0)), (th + 22, .inr (10, [.ref (th + 23), .int 0])), (th + 23, .inl (qm_dA g 1, 160, .inl fun _ => 0)), (th + 24, .inr (2, [.ref (th + 25), .ref (th + 26), .int 0, .int 0, .int 3])), (th + 25, .inl (qm_dA g 1, 6, .inl fun _ => 0)), (th + 26, .inl (qm_dA g 1, 8, .inl fun _ => 0)), (th + 27, .inr (1, [.ref (th + 28), .int 6, .int 6, .int 0])), (th + 28, .inl (qm_dA g 1, 30, .inl fun _ => 0))] _ 28 _ := hh
  refine lv_iinc (v := 2) (lv' := [(1, .int 2), (0, .ref (th))]) A.1 A.2.1 dX9_init_116 hl (k := 0) rfl (by decide) (by decide) rfl (fun ls hl => ?_)
  refine lv_goto (tgt := 59) A.1 A.2.1 dX9_init_119 (by decide) ?_
  refine lv_iload_n A.1 A.2.1 dX9_init_59 rfl (lv_at hl 0 rfl) ?_
  refine lv_iconst (v := 2) A.1 A.2.1 dX9_init_60 (by decide) ?_
  refine lv_icmp_ge (tgt := 122) A.1 A.2.1 dX9_init_61 (by decide) (fun _ => ?_) (fun q => absurd (by decide) q)
  exact W.vret A.1 A.2.1 hr (fun t ht _ => ⟨rfl, by rw [ht]; exact ⟨hh.1, hh.2.1, hh.2.2.1, hh.2.2.2.1, fun _ q => by cases q⟩⟩) hh.2.2.2.2 dX9_init_122

def zW8 (g : qm_G) (th : Nat) (tp : Nat) : va_W := [(th, .inr (8, [.ref (tp), .int 0, .int 0, .int 0, .int 0, .int 0]))]
theorem zW8_ad (g : qm_G) (th : Nat) (tp : Nat) : ∀ y ∈ zW8 g th tp, th ≤ y.1 := by
  intro y hy
  simp only [zW8, List.mem_cons, List.not_mem_nil, or_false] at hy
  rcases hy with rfl <;> simp
theorem zj_X8 : Jvm.Cond.code yX8_init cX8_init 2 none ∈ qm_all := List.mem_filter.mpr ⟨by decide +kernel, rfl⟩
theorem zn_X8 : Jvm.Cond.instanceMethod yX8_init ∈ qm_all := List.mem_filter.mpr ⟨by decide +kernel, rfl⟩
theorem dX8_init_0 : decode cX8_init 0 = .ok (.aload_n 0, 1) := by decide +kernel
theorem dX8_init_1 : decode cX8_init 1 = .ok (.invokespecial 1, 3) := by decide +kernel
theorem dX8_init_4 : decode cX8_init 4 = .ok (.aload_n 0, 1) := by decide +kernel
theorem dX8_init_5 : decode cX8_init 5 = .ok (.aload_n 1, 1) := by decide +kernel
theorem dX8_init_6 : decode cX8_init 6 = .ok (.putfield 7, 3) := by decide +kernel
theorem dX8_init_9 : decode cX8_init 9 = .ok (.return_, 1) := by decide +kernel
set_option maxRecDepth 100000 in
set_option maxHeartbeats 8000000 in
theorem zX8_init (l : Launch) (g : qm_G) (H0 : Heap) (th : Nat) (tp : Nat) (hsz : H0.size = th + 1) : Met l yX8_init (Jvm.Cond.code yX8_init cX8_init 2 none :: qm_all) ({ frames := 1, cells := 0, slots := 0, locals := 12 }) (qz_Pc g H0 th 8 [.ref th, .ref tp]) (qz_Qc g H0 th (zW8 g th tp) 0) 0 0 (qz_fr H0 th) := by
  refine va_MetF (cc := cX8_init) (maxL := 2) (ret := none) (plainFor_of_name (by decide)) rfl ?_
  intro p e s m args below meth c s₁ B hml hv
  obtain ⟨rfl, rfl, hat, hK, hN⟩ := hv
  have hts := atoms_spec (ws := Jvm.Cond.code yX8_init cX8_init 2 none :: qm_all) B.pre
  have tsa : ∀ w ∈ qm_all, w.before _ s = true := fun w hw => hts w (List.mem_cons_of_mem _ hw)
  have A : qz_At p s m _ c cX8_init (qm_D g) (qm_tys g) RX8 (Jvm.Cond.code yX8_init cX8_init 2 none :: qm_all) := ⟨B.exec, B.bytes, findClass_of_methodNamed B.named, hts, hK, fun cl hcl w hw => List.mem_cons_of_mem _ (qm_u_in cl hcl w hw)⟩
  have hr := B.returns
  have hlocks := B.notSynchronized
  have hin : meth.name = "<init>" := (name_of_methodNamed B.named B.method).1
  have hh : qz_H (qm_D g) s.heap th [(th, .inr (8, [.null, .int 0, .int 0, .int 0, .int 0, .int 0]))] s.heap 0 [] := qz_H0 hat
  have hl := lv_entry ([.ref th, .ref tp]) (n := 2) (Nat.le_of_ble_eq_true rfl)
  rw [lg_entry_eq]
  generalize (lg_sl ([.ref th, .ref tp]) ++ List.replicate (2 - (lg_sl ([.ref th, .ref tp])).length) Slot.unset).toArray = ls at hl ⊢
  have hl : lv_has ls 2 [(0, .ref (th)), (1, .ref (tp))] := hl
  refine lv_aload_n A.1 A.2.1 dX8_init_0 rfl (lv_at hl 0 rfl) ?_
  refine W.objInit A.1 A.2.1 A.2.2.1 (tsa _ zo_RX8) (tsa _ zo_inst) (tsa _ zo_code) rfl (by rw [hml]; exact hl.1) rfl dX8_init_1 (Nat.le_of_ble_eq_true rfl) (Nat.le_of_ble_eq_true rfl) ?_
  refine W.eq (g2 := F0 m 4 ls []) rfl ?_
  refine lv_aload_n A.1 A.2.1 dX8_init_4 rfl (lv_at hl 0 rfl) ?_
  refine lv_aload_n A.1 A.2.1 dX8_init_5 rfl (lv_at hl 1 rfl) ?_
  refine qz_putF A hin (ci := 8) (j := 0) (i := 0) (v := .ref (tp)) (by decide) (by decide) rfl (List.mem_cons_of_mem _ (qm_fld_ok pfRX8_ok 7 8 0 rfl).2) (by decide +kernel) rfl rfl rfl hh rfl (Or.inl rfl) dX8_init_6 (fun H locs hh => ?_)
  have hh : qz_H (qm_D g) s.heap th [(th, .inr (8, [.ref (tp), .int 0, .int 0, .int 0, .int 0, .int 0]))] _ 0 _ := hh
  exact W.vret A.1 A.2.1 hr (fun t ht _ => ⟨rfl, by rw [ht]; exact ⟨hh.1, hh.2.1, hh.2.2.1, hh.2.2.2.1, fun _ q => by cases q⟩⟩) hh.2.2.2.2 dX8_init_9

def zW3 (g : qm_G) (th : Nat) (tp : Nat) : va_W := [(th, .inr (3, [.ref (th + 12), .ref (th + 1), .ref (th + 5), .ref (th + 7), .ref (th + 10), .int 0, .int 0, .int 0, .int 0])), (th + 1, .inr (0, [.ref (th + 2), .ref (th + 3), .ref (th + 4), .int 6, .int 6, .int 0, .long 0])), (th + 2, .inl (qm_dA g 1, 16, .inl fun _ => 0)), (th + 3, .inl (qm_dA g 1, 16, .inl fun _ => 0)), (th + 4, .inl (qm_dA g 1, 81, .inl fun _ => 0)), (th + 5, .inr (10, [.ref (th + 6), .int 0])), (th + 6, .inl (qm_dA g 1, 160, .inl fun _ => 0)), (th + 7, .inr (2, [.ref (th + 8), .ref (th + 9), .int 0, .int 0, .int 3])), (th + 8, .inl (qm_dA g 1, 6, .inl fun _ => 0)), (th + 9, .inl (qm_dA g 1, 8, .inl fun _ => 0)), (th + 10, .inr (1, [.ref (th + 11), .int 6, .int 6, .int 0])), (th + 11, .inl (qm_dA g 1, 30, .inl fun _ => 0)), (th + 12, .inr (8, [.ref (tp), .int 0, .int 0, .int 0, .int 0, .int 0]))]
theorem zW3_ad (g : qm_G) (th : Nat) (tp : Nat) : ∀ y ∈ zW3 g th tp, th ≤ y.1 := by
  intro y hy
  simp only [zW3, List.mem_cons, List.not_mem_nil, or_false] at hy
  rcases hy with rfl | rfl | rfl | rfl | rfl | rfl | rfl | rfl | rfl | rfl | rfl | rfl | rfl <;> simp
theorem zj_X3 : Jvm.Cond.code yX3_init cX3_init 2 none ∈ qm_all := List.mem_filter.mpr ⟨by decide +kernel, rfl⟩
theorem zn_X3 : Jvm.Cond.instanceMethod yX3_init ∈ qm_all := List.mem_filter.mpr ⟨by decide +kernel, rfl⟩
theorem dX3_init_0 : decode cX3_init 0 = .ok (.aload_n 0, 1) := by decide +kernel
theorem dX3_init_1 : decode cX3_init 1 = .ok (.invokespecial 3, 3) := by decide +kernel
theorem dX3_init_4 : decode cX3_init 4 = .ok (.aload_n 0, 1) := by decide +kernel
theorem dX3_init_5 : decode cX3_init 5 = .ok (.new 9, 3) := by decide +kernel
theorem dX3_init_8 : decode cX3_init 8 = .ok (.dup, 1) := by decide +kernel
theorem dX3_init_9 : decode cX3_init 9 = .ok (.invokespecial 11, 3) := by decide +kernel
theorem dX3_init_12 : decode cX3_init 12 = .ok (.putfield 12, 3) := by decide +kernel
theorem dX3_init_15 : decode cX3_init 15 = .ok (.aload_n 0, 1) := by decide +kernel
theorem dX3_init_16 : decode cX3_init 16 = .ok (.new 18, 3) := by decide +kernel
theorem dX3_init_19 : decode cX3_init 19 = .ok (.dup, 1) := by decide +kernel
theorem dX3_init_20 : decode cX3_init 20 = .ok (.invokespecial 20, 3) := by decide +kernel
theorem dX3_init_23 : decode cX3_init 23 = .ok (.putfield 21, 3) := by decide +kernel
theorem dX3_init_26 : decode cX3_init 26 = .ok (.aload_n 0, 1) := by decide +kernel
theorem dX3_init_27 : decode cX3_init 27 = .ok (.new 25, 3) := by decide +kernel
theorem dX3_init_30 : decode cX3_init 30 = .ok (.dup, 1) := by decide +kernel
theorem dX3_init_31 : decode cX3_init 31 = .ok (.invokespecial 27, 3) := by decide +kernel
theorem dX3_init_34 : decode cX3_init 34 = .ok (.putfield 28, 3) := by decide +kernel
theorem dX3_init_37 : decode cX3_init 37 = .ok (.aload_n 0, 1) := by decide +kernel
theorem dX3_init_38 : decode cX3_init 38 = .ok (.new 32, 3) := by decide +kernel
theorem dX3_init_41 : decode cX3_init 41 = .ok (.dup, 1) := by decide +kernel
theorem dX3_init_42 : decode cX3_init 42 = .ok (.invokespecial 34, 3) := by decide +kernel
theorem dX3_init_45 : decode cX3_init 45 = .ok (.putfield 35, 3) := by decide +kernel
theorem dX3_init_48 : decode cX3_init 48 = .ok (.aload_n 0, 1) := by decide +kernel
theorem dX3_init_49 : decode cX3_init 49 = .ok (.new 39, 3) := by decide +kernel
theorem dX3_init_52 : decode cX3_init 52 = .ok (.dup, 1) := by decide +kernel
theorem dX3_init_53 : decode cX3_init 53 = .ok (.aload_n 1, 1) := by decide +kernel
theorem dX3_init_54 : decode cX3_init 54 = .ok (.invokespecial 41, 3) := by decide +kernel
theorem dX3_init_57 : decode cX3_init 57 = .ok (.putfield 44, 3) := by decide +kernel
theorem dX3_init_60 : decode cX3_init 60 = .ok (.return_, 1) := by decide +kernel
set_option maxRecDepth 100000 in
set_option maxHeartbeats 8000000 in
theorem zX3_init (l : Launch) (g : qm_G) (H0 : Heap) (th : Nat) (tp : Nat) (hsz : H0.size = th + 1) : Met l yX3_init (Jvm.Cond.code yX3_init cX3_init 2 none :: qm_all) ({ frames := 2, cells := 12, slots := 341, locals := 33 }) (qz_Pc g H0 th 3 [.ref th, .ref tp]) (qz_Qc g H0 th (zW3 g th tp) 12) 12 341 (qz_fr H0 th) := by
  refine va_MetF (cc := cX3_init) (maxL := 2) (ret := none) (plainFor_of_name (by decide)) rfl ?_
  intro p e s m args below meth c s₁ B hml hv
  obtain ⟨rfl, rfl, hat, hK, hN⟩ := hv
  have hts := atoms_spec (ws := Jvm.Cond.code yX3_init cX3_init 2 none :: qm_all) B.pre
  have tsa : ∀ w ∈ qm_all, w.before _ s = true := fun w hw => hts w (List.mem_cons_of_mem _ hw)
  have A : qz_At p s m _ c cX3_init (qm_D g) (qm_tys g) RX3 (Jvm.Cond.code yX3_init cX3_init 2 none :: qm_all) := ⟨B.exec, B.bytes, findClass_of_methodNamed B.named, hts, hK, fun cl hcl w hw => List.mem_cons_of_mem _ (qm_u_in cl hcl w hw)⟩
  have hr := B.returns
  have hlocks := B.notSynchronized
  have hin : meth.name = "<init>" := (name_of_methodNamed B.named B.method).1
  have hh : qz_H (qm_D g) s.heap th [(th, .inr (3, [.null, .null, .null, .null, .null, .int 0, .int 0, .int 0, .int 0]))] s.heap 0 [] := qz_H0 hat
  have hl := lv_entry ([.ref th, .ref tp]) (n := 2) (Nat.le_of_ble_eq_true rfl)
  rw [lg_entry_eq]
  generalize (lg_sl ([.ref th, .ref tp]) ++ List.replicate (2 - (lg_sl ([.ref th, .ref tp])).length) Slot.unset).toArray = ls at hl ⊢
  have hl : lv_has ls 2 [(0, .ref (th)), (1, .ref (tp))] := hl
  refine lv_aload_n A.1 A.2.1 dX3_init_0 rfl (lv_at hl 0 rfl) ?_
  refine W.objInit A.1 A.2.1 A.2.2.1 (tsa _ zo_RX3) (tsa _ zo_inst) (tsa _ zo_code) rfl (by rw [hml]; exact hl.1) rfl dX3_init_1 (Nat.le_of_ble_eq_true rfl) (Nat.le_of_ble_eq_true rfl) ?_
  refine W.eq (g2 := F0 m 4 ls []) rfl ?_
  refine lv_aload_n A.1 A.2.1 dX3_init_4 rfl (lv_at hl 0 rfl) ?_
  refine qz_new A (ad := th + 1) (by omega) (ci := 0) (fs := [.null, .null, .null, .int 0, .int 0, .int 0, .long 0]) (by decide) (List.mem_cons_of_mem _ zl_RX3_9) (List.mem_cons_of_mem _ zi_RX0) (List.mem_cons_of_mem _ uRX0) (by decide +kernel) hh (Nat.le_of_ble_eq_true rfl) (Nat.le_of_ble_eq_true rfl) dX3_init_5 (fun H hh => ?_)
  have hh : qz_H (qm_D g) s.heap th [(th, .inr (3, [.null, .null, .null, .null, .null, .int 0, .int 0, .int 0, .int 0])), (th + 1, .inr (0, [.null, .null, .null, .int 0, .int 0, .int 0, .long 0]))] _ 1 _ := hh
  refine W.widen (k := 1) (n := 7) (Nat.le_of_ble_eq_true rfl) (Nat.le_of_ble_eq_true rfl) ?_
  refine lv_dup A.1 A.2.1 dX3_init_8 rfl ?_
  refine qz_after (q := th + 1) (i := 1) (w1 := zW0 g (th + 1)) hh rfl (by rw [hh.1]; omega) (Or.inr (by omega)) (zW0_ad g (th + 1)) (va_runIN (S := ⟨A.1, A.2.1, hml, A.2.2.1, hts⟩) (hM := zX0_init l g H (th + 1) (by rw [hh.1]; omega)) (cw := ⟨va_cnB (host := "WillowLaw") 0 hts (qm_GoodIn zj_X0) rfl rfl rfl (hN.1 _ (by decide +kernel)) (tsa _ uRX0) ⟨by decide, by decide, rfl⟩ ⟨Nat.le_of_ble_eq_true rfl, Nat.le_of_ble_eq_true rfl⟩, rfl, tsa _ zn_X0⟩) (As := []) (rest := [.ref (th + 1), .ref (th)]) (b := th + 1) ⟨qz_Pc_blind _ _ _ _ _, fun U hU hW => ⟨rfl, hU, hh.2.1 1 _ rfl, va_K.moved hW.alike hK, hN.warm hW⟩⟩ rfl rfl hl.1 rfl (lv_room (Nat.le_of_ble_eq_true rfl)) dX3_init_9 ⟨Nat.le_of_ble_eq_true rfl, Nat.le_of_ble_eq_true rfl⟩) (fun H locs hh => ?_)
  have hh : qz_H (qm_D g) s.heap th [(th, .inr (3, [.null, .null, .null, .null, .null, .int 0, .int 0, .int 0, .int 0])), (th + 1, .inr (0, [.ref (th + 2), .ref (th + 3), .ref (th + 4), .int 6, .int 6, .int 0, .long 0])), (th + 2, .inl (qm_dA g 1, 16, .inl fun _ => 0)), (th + 3, .inl (qm_dA g 1, 16, .inl fun _ => 0)), (th + 4, .inl (qm_dA g 1, 81, .inl fun _ => 0))] _ 4 _ := hh
  refine W.widen (k := 4) (n := 120) (Nat.le_of_ble_eq_true rfl) (Nat.le_of_ble_eq_true rfl) ?_
  refine qz_putF A hin (ci := 3) (j := 1) (i := 0) (v := .ref (th + 1)) (by decide) (by decide) rfl (List.mem_cons_of_mem _ (qm_fld_ok pfRX3_ok 12 3 1 rfl).2) (by decide +kernel) rfl rfl rfl hh rfl (Or.inl rfl) dX3_init_12 (fun H locs hh => ?_)
  have hh : qz_H (qm_D g) s.heap th [(th, .inr (3, [.null, .ref (th + 1), .null, .null, .null, .int 0, .int 0, .int 0, .int 0])), (th + 1, .inr (0, [.ref (th + 2), .ref (th + 3), .ref (th + 4), .int 6, .int 6, .int 0, .long 0])), (th + 2, .inl (qm_dA g 1, 16, .inl fun _ => 0)), (th + 3, .inl (qm_dA g 1, 16, .inl fun _ => 0)), (th + 4, .inl (qm_dA g 1, 81, .inl fun _ => 0))] _ 4 _ := hh
  refine lv_aload_n A.1 A.2.1 dX3_init_15 rfl (lv_at hl 0 rfl) ?_
  refine qz_new A (ad := th + 5) (by omega) (ci := 10) (fs := [.null, .int 0]) (by decide) (List.mem_cons_of_mem _ zl_RX3_18) (List.mem_cons_of_mem _ zi_RX10) (List.mem_cons_of_mem _ uRX10) (by decide +kernel) hh (Nat.le_of_ble_eq_true rfl) (Nat.le_of_ble_eq_true rfl) dX3_init_16 (fun H hh => ?_)
  have hh : qz_H (qm_D g) s.heap th [(th, .inr (3, [.null, .ref (th + 1), .null, .null, .null, .int 0, .int 0, .int 0, .int 0])), (th + 1, .inr (0, [.ref (th + 2), .ref (th + 3), .ref (th + 4), .int 6, .int 6, .int 0, .long 0])), (th + 2, .inl (qm_dA g 1, 16, .inl fun _ => 0)), (th + 3, .inl (qm_dA g 1, 16, .inl fun _ => 0)), (th + 4, .inl (qm_dA g 1, 81, .inl fun _ => 0)), (th + 5, .inr (10, [.null, .int 0]))] _ 5 _ := hh
  refine W.widen (k := 5) (n := 122) (Nat.le_of_ble_eq_true rfl) (Nat.le_of_ble_eq_true rfl) ?_
  refine lv_dup A.1 A.2.1 dX3_init_19 rfl ?_
  refine qz_after (q := th + 5) (i := 5) (w1 := zW10 g (th + 5)) hh rfl (by rw [hh.1]; omega) (Or.inr (by omega)) (zW10_ad g (th + 5)) (va_runIN (S := ⟨A.1, A.2.1, hml, A.2.2.1, hts⟩) (hM := zX10_init l g H (th + 5) (by rw [hh.1]; omega)) (cw := ⟨va_cnB (host := "WillowLaw") 0 hts (qm_GoodIn zj_X10) rfl rfl rfl (hN.1 _ (by decide +kernel)) (tsa _ uRX10) ⟨by decide, by decide, rfl⟩ ⟨Nat.le_of_ble_eq_true rfl, Nat.le_of_ble_eq_true rfl⟩, rfl, tsa _ zn_X10⟩) (As := []) (rest := [.ref (th + 5), .ref (th)]) (b := th + 5) ⟨qz_Pc_blind _ _ _ _ _, fun U hU hW => ⟨rfl, hU, hh.2.1 5 _ rfl, va_K.moved hW.alike hK, hN.warm hW⟩⟩ rfl rfl hl.1 rfl (lv_room (Nat.le_of_ble_eq_true rfl)) dX3_init_20 ⟨Nat.le_of_ble_eq_true rfl, Nat.le_of_ble_eq_true rfl⟩) (fun H locs hh => ?_)
  have hh : qz_H (qm_D g) s.heap th [(th, .inr (3, [.null, .ref (th + 1), .null, .null, .null, .int 0, .int 0, .int 0, .int 0])), (th + 1, .inr (0, [.ref (th + 2), .ref (th + 3), .ref (th + 4), .int 6, .int 6, .int 0, .long 0])), (th + 2, .inl (qm_dA g 1, 16, .inl fun _ => 0)), (th + 3, .inl (qm_dA g 1, 16, .inl fun _ => 0)), (th + 4, .inl (qm_dA g 1, 81, .inl fun _ => 0)), (th + 5, .inr (10, [.ref (th + 6), .int 0])), (th + 6, .inl (qm_dA g 1, 160, .inl fun _ => 0))] _ 6 _ := hh
  refine W.widen (k := 6) (n := 282) (Nat.le_of_ble_eq_true rfl) (Nat.le_of_ble_eq_true rfl) ?_
  refine qz_putF A hin (ci := 3) (j := 2) (i := 0) (v := .ref (th + 5)) (by decide) (by decide) rfl (List.mem_cons_of_mem _ (qm_fld_ok pfRX3_ok 21 3 2 rfl).2) (by decide +kernel) rfl rfl rfl hh rfl (Or.inl rfl) dX3_init_23 (fun H locs hh => ?_)
  have hh : qz_H (qm_D g) s.heap th [(th, .inr (3, [.null, .ref (th + 1), .ref (th + 5), .null, .null, .int 0, .int 0, .int 0, .int 0])), (th + 1, .inr (0, [.ref (th + 2), .ref (th + 3), .ref (th + 4), .int 6, .int 6, .int 0, .long 0])), (th + 2, .inl (qm_dA g 1, 16, .inl fun _ => 0)), (th + 3, .inl (qm_dA g 1, 16, .inl fun _ => 0)), (th + 4, .inl (qm_dA g 1, 81, .inl fun _ => 0)), (th + 5, .inr (10, [.ref (th + 6), .int 0])), (th + 6, .inl (qm_dA g 1, 160, .inl fun _ => 0))] _ 6 _ := hh
  refine lv_aload_n A.1 A.2.1 dX3_init_26 rfl (lv_at hl 0 rfl) ?_
  refine qz_new A (ad := th + 7) (by omega) (ci := 2) (fs := [.null, .null, .int 0, .int 0, .int 0]) (by decide) (List.mem_cons_of_mem _ zl_RX3_25) (List.mem_cons_of_mem _ zi_RX2) (List.mem_cons_of_mem _ uRX2) (by decide +kernel) hh (Nat.le_of_ble_eq_true rfl) (Nat.le_of_ble_eq_true rfl) dX3_init_27 (fun H hh => ?_)
  have hh : qz_H (qm_D g) s.heap th [(th, .inr (3, [.null, .ref (th + 1), .ref (th + 5), .null, .null, .int 0, .int 0, .int 0, .int 0])), (th + 1, .inr (0, [.ref (th + 2), .ref (th + 3), .ref (th + 4), .int 6, .int 6, .int 0, .long 0])), (th + 2, .inl (qm_dA g 1, 16, .inl fun _ => 0)), (th + 3, .inl (qm_dA g 1, 16, .inl fun _ => 0)), (th + 4, .inl (qm_dA g 1, 81, .inl fun _ => 0)), (th + 5, .inr (10, [.ref (th + 6), .int 0])), (th + 6, .inl (qm_dA g 1, 160, .inl fun _ => 0)), (th + 7, .inr (2, [.null, .null, .int 0, .int 0, .int 0]))] _ 7 _ := hh
  refine W.widen (k := 7) (n := 287) (Nat.le_of_ble_eq_true rfl) (Nat.le_of_ble_eq_true rfl) ?_
  refine lv_dup A.1 A.2.1 dX3_init_30 rfl ?_
  refine qz_after (q := th + 7) (i := 7) (w1 := zW2 g (th + 7)) hh rfl (by rw [hh.1]; omega) (Or.inr (by omega)) (zW2_ad g (th + 7)) (va_runIN (S := ⟨A.1, A.2.1, hml, A.2.2.1, hts⟩) (hM := zX2_init l g H (th + 7) (by rw [hh.1]; omega)) (cw := ⟨va_cnB (host := "WillowLaw") 0 hts (qm_GoodIn zj_X2) rfl rfl rfl (hN.1 _ (by decide +kernel)) (tsa _ uRX2) ⟨by decide, by decide, rfl⟩ ⟨Nat.le_of_ble_eq_true rfl, Nat.le_of_ble_eq_true rfl⟩, rfl, tsa _ zn_X2⟩) (As := []) (rest := [.ref (th + 7), .ref (th)]) (b := th + 7) ⟨qz_Pc_blind _ _ _ _ _, fun U hU hW => ⟨rfl, hU, hh.2.1 7 _ rfl, va_K.moved hW.alike hK, hN.warm hW⟩⟩ rfl rfl hl.1 rfl (lv_room (Nat.le_of_ble_eq_true rfl)) dX3_init_31 ⟨Nat.le_of_ble_eq_true rfl, Nat.le_of_ble_eq_true rfl⟩) (fun H locs hh => ?_)
  have hh : qz_H (qm_D g) s.heap th [(th, .inr (3, [.null, .ref (th + 1), .ref (th + 5), .null, .null, .int 0, .int 0, .int 0, .int 0])), (th + 1, .inr (0, [.ref (th + 2), .ref (th + 3), .ref (th + 4), .int 6, .int 6, .int 0, .long 0])), (th + 2, .inl (qm_dA g 1, 16, .inl fun _ => 0)), (th + 3, .inl (qm_dA g 1, 16, .inl fun _ => 0)), (th + 4, .inl (qm_dA g 1, 81, .inl fun _ => 0)), (th + 5, .inr (10, [.ref (th + 6), .int 0])), (th + 6, .inl (qm_dA g 1, 160, .inl fun _ => 0)), (th + 7, .inr (2, [.ref (th + 8), .ref (th + 9), .int 0, .int 0, .int 3])), (th + 8, .inl (qm_dA g 1, 6, .inl fun _ => 0)), (th + 9, .inl (qm_dA g 1, 8, .inl fun _ => 0))] _ 9 _ := hh
  refine W.widen (k := 9) (n := 301) (Nat.le_of_ble_eq_true rfl) (Nat.le_of_ble_eq_true rfl) ?_
  refine qz_putF A hin (ci := 3) (j := 3) (i := 0) (v := .ref (th + 7)) (by decide) (by decide) rfl (List.mem_cons_of_mem _ (qm_fld_ok pfRX3_ok 28 3 3 rfl).2) (by decide +kernel) rfl rfl rfl hh rfl (Or.inl rfl) dX3_init_34 (fun H locs hh => ?_)
  have hh : qz_H (qm_D g) s.heap th [(th, .inr (3, [.null, .ref (th + 1), .ref (th + 5), .ref (th + 7), .null, .int 0, .int 0, .int 0, .int 0])), (th + 1, .inr (0, [.ref (th + 2), .ref (th + 3), .ref (th + 4), .int 6, .int 6, .int 0, .long 0])), (th + 2, .inl (qm_dA g 1, 16, .inl fun _ => 0)), (th + 3, .inl (qm_dA g 1, 16, .inl fun _ => 0)), (th + 4, .inl (qm_dA g 1, 81, .inl fun _ => 0)), (th + 5, .inr (10, [.ref (th + 6), .int 0])), (th + 6, .inl (qm_dA g 1, 160, .inl fun _ => 0)), (th + 7, .inr (2, [.ref (th + 8), .ref (th + 9), .int 0, .int 0, .int 3])), (th + 8, .inl (qm_dA g 1, 6, .inl fun _ => 0)), (th + 9, .inl (qm_dA g 1, 8, .inl fun _ => 0))] _ 9 _ := hh
  refine lv_aload_n A.1 A.2.1 dX3_init_37 rfl (lv_at hl 0 rfl) ?_
  refine qz_new A (ad := th + 10) (by omega) (ci := 1) (fs := [.null, .int 0, .int 0, .int 0]) (by decide) (List.mem_cons_of_mem _ zl_RX3_32) (List.mem_cons_of_mem _ zi_RX1) (List.mem_cons_of_mem _ uRX1) (by decide +kernel) hh (Nat.le_of_ble_eq_true rfl) (Nat.le_of_ble_eq_true rfl) dX3_init_38 (fun H hh => ?_)
  have hh : qz_H (qm_D g) s.heap th [(th, .inr (3, [.null, .ref (th + 1), .ref (th + 5), .ref (th + 7), .null, .int 0, .int 0, .int 0, .int 0])), (th + 1, .inr (0, [.ref (th + 2), .ref (th + 3), .ref (th + 4), .int 6, .int 6, .int 0, .long 0])), (th + 2, .inl (qm_dA g 1, 16, .inl fun _ => 0)), (th + 3, .inl (qm_dA g 1, 16, .inl fun _ => 0)), (th + 4, .inl (qm_dA g 1, 81, .inl fun _ => 0)), (th + 5, .inr (10, [.ref (th + 6), .int 0])), (th + 6, .inl (qm_dA g 1, 160, .inl fun _ => 0)), (th + 7, .inr (2, [.ref (th + 8), .ref (th + 9), .int 0, .int 0, .int 3])), (th + 8, .inl (qm_dA g 1, 6, .inl fun _ => 0)), (th + 9, .inl (qm_dA g 1, 8, .inl fun _ => 0)), (th + 10, .inr (1, [.null, .int 0, .int 0, .int 0]))] _ 10 _ := hh
  refine W.widen (k := 10) (n := 305) (Nat.le_of_ble_eq_true rfl) (Nat.le_of_ble_eq_true rfl) ?_
  refine lv_dup A.1 A.2.1 dX3_init_41 rfl ?_
  refine qz_after (q := th + 10) (i := 10) (w1 := zW1 g (th + 10)) hh rfl (by rw [hh.1]; omega) (Or.inr (by omega)) (zW1_ad g (th + 10)) (va_runIN (S := ⟨A.1, A.2.1, hml, A.2.2.1, hts⟩) (hM := zX1_init l g H (th + 10) (by rw [hh.1]; omega)) (cw := ⟨va_cnB (host := "WillowLaw") 0 hts (qm_GoodIn zj_X1) rfl rfl rfl (hN.1 _ (by decide +kernel)) (tsa _ uRX1) ⟨by decide, by decide, rfl⟩ ⟨Nat.le_of_ble_eq_true rfl, Nat.le_of_ble_eq_true rfl⟩, rfl, tsa _ zn_X1⟩) (As := []) (rest := [.ref (th + 10), .ref (th)]) (b := th + 10) ⟨qz_Pc_blind _ _ _ _ _, fun U hU hW => ⟨rfl, hU, hh.2.1 10 _ rfl, va_K.moved hW.alike hK, hN.warm hW⟩⟩ rfl rfl hl.1 rfl (lv_room (Nat.le_of_ble_eq_true rfl)) dX3_init_42 ⟨Nat.le_of_ble_eq_true rfl, Nat.le_of_ble_eq_true rfl⟩) (fun H locs hh => ?_)
  have hh : qz_H (qm_D g) s.heap th [(th, .inr (3, [.null, .ref (th + 1), .ref (th + 5), .ref (th + 7), .null, .int 0, .int 0, .int 0, .int 0])), (th + 1, .inr (0, [.ref (th + 2), .ref (th + 3), .ref (th + 4), .int 6, .int 6, .int 0, .long 0])), (th + 2, .inl (qm_dA g 1, 16, .inl fun _ => 0)), (th + 3, .inl (qm_dA g 1, 16, .inl fun _ => 0)), (th + 4, .inl (qm_dA g 1, 81, .inl fun _ => 0)), (th + 5, .inr (10, [.ref (th + 6), .int 0])), (th + 6, .inl (qm_dA g 1, 160, .inl fun _ => 0)), (th + 7, .inr (2, [.ref (th + 8), .ref (th + 9), .int 0, .int 0, .int 3])), (th + 8, .inl (qm_dA g 1, 6, .inl fun _ => 0)), (th + 9, .inl (qm_dA g 1, 8, .inl fun _ => 0)), (th + 10, .inr (1, [.ref (th + 11), .int 6, .int 6, .int 0])), (th + 11, .inl (qm_dA g 1, 30, .inl fun _ => 0))] _ 11 _ := hh
  refine W.widen (k := 11) (n := 335) (Nat.le_of_ble_eq_true rfl) (Nat.le_of_ble_eq_true rfl) ?_
  refine qz_putF A hin (ci := 3) (j := 4) (i := 0) (v := .ref (th + 10)) (by decide) (by decide) rfl (List.mem_cons_of_mem _ (qm_fld_ok pfRX3_ok 35 3 4 rfl).2) (by decide +kernel) rfl rfl rfl hh rfl (Or.inl rfl) dX3_init_45 (fun H locs hh => ?_)
  have hh : qz_H (qm_D g) s.heap th [(th, .inr (3, [.null, .ref (th + 1), .ref (th + 5), .ref (th + 7), .ref (th + 10), .int 0, .int 0, .int 0, .int 0])), (th + 1, .inr (0, [.ref (th + 2), .ref (th + 3), .ref (th + 4), .int 6, .int 6, .int 0, .long 0])), (th + 2, .inl (qm_dA g 1, 16, .inl fun _ => 0)), (th + 3, .inl (qm_dA g 1, 16, .inl fun _ => 0)), (th + 4, .inl (qm_dA g 1, 81, .inl fun _ => 0)), (th + 5, .inr (10, [.ref (th + 6), .int 0])), (th + 6, .inl (qm_dA g 1, 160, .inl fun _ => 0)), (th + 7, .inr (2, [.ref (th + 8), .ref (th + 9), .int 0, .int 0, .int 3])), (th + 8, .inl (qm_dA g 1, 6, .inl fun _ => 0)), (th + 9, .inl (qm_dA g 1, 8, .inl fun _ => 0)), (th + 10, .inr (1, [.ref (th + 11), .int 6, .int 6, .int 0])), (th + 11, .inl (qm_dA g 1, 30, .inl fun _ => 0))] _ 11 _ := hh
  refine lv_aload_n A.1 A.2.1 dX3_init_48 rfl (lv_at hl 0 rfl) ?_
  refine qz_new A (ad := th + 12) (by omega) (ci := 8) (fs := [.null, .int 0, .int 0, .int 0, .int 0, .int 0]) (by decide) (List.mem_cons_of_mem _ zl_RX3_39) (List.mem_cons_of_mem _ zi_RX8) (List.mem_cons_of_mem _ uRX8) (by decide +kernel) hh (Nat.le_of_ble_eq_true rfl) (Nat.le_of_ble_eq_true rfl) dX3_init_49 (fun H hh => ?_)
  have hh : qz_H (qm_D g) s.heap th [(th, .inr (3, [.null, .ref (th + 1), .ref (th + 5), .ref (th + 7), .ref (th + 10), .int 0, .int 0, .int 0, .int 0])), (th + 1, .inr (0, [.ref (th + 2), .ref (th + 3), .ref (th + 4), .int 6, .int 6, .int 0, .long 0])), (th + 2, .inl (qm_dA g 1, 16, .inl fun _ => 0)), (th + 3, .inl (qm_dA g 1, 16, .inl fun _ => 0)), (th + 4, .inl (qm_dA g 1, 81, .inl fun _ => 0)), (th + 5, .inr (10, [.ref (th + 6), .int 0])), (th + 6, .inl (qm_dA g 1, 160, .inl fun _ => 0)), (th + 7, .inr (2, [.ref (th + 8), .ref (th + 9), .int 0, .int 0, .int 3])), (th + 8, .inl (qm_dA g 1, 6, .inl fun _ => 0)), (th + 9, .inl (qm_dA g 1, 8, .inl fun _ => 0)), (th + 10, .inr (1, [.ref (th + 11), .int 6, .int 6, .int 0])), (th + 11, .inl (qm_dA g 1, 30, .inl fun _ => 0)), (th + 12, .inr (8, [.null, .int 0, .int 0, .int 0, .int 0, .int 0]))] _ 12 _ := hh
  refine W.widen (k := 12) (n := 341) (Nat.le_of_ble_eq_true rfl) (Nat.le_of_ble_eq_true rfl) ?_
  refine lv_dup A.1 A.2.1 dX3_init_52 rfl ?_
  refine lv_aload_n A.1 A.2.1 dX3_init_53 rfl (lv_at hl 1 rfl) ?_
  refine qz_after (q := th + 12) (i := 12) (w1 := zW8 g (th + 12) (tp)) hh rfl (by rw [hh.1]; omega) (Or.inr (by omega)) (zW8_ad g (th + 12) (tp)) (va_runI (S := ⟨A.1, A.2.1, hml, A.2.2.1, hts⟩) (hM := zX8_init l g H (th + 12) (tp) (by rw [hh.1]; omega)) (cw := ⟨callB_of 1 hts (qm_GoodIn zj_X8) rfl rfl rfl (tsa _ uRX8) (tsa _ zk_RX3_41) ⟨by decide, by decide, rfl⟩ ⟨Nat.le_of_ble_eq_true rfl, Nat.le_of_ble_eq_true rfl⟩, rfl, tsa _ zn_X8⟩) (As := [.ref (tp)]) (rest := [.ref (th + 12), .ref (th)]) (b := th + 12) ⟨qz_Pc_blind _ _ _ _ _, fun U hU hW => ⟨rfl, hU, hh.2.1 12 _ rfl, va_K.moved hW.alike hK, hN.warm hW⟩⟩ rfl rfl hl.1 rfl (lv_room (Nat.le_of_ble_eq_true rfl)) dX3_init_54 ⟨Nat.le_of_ble_eq_true rfl, Nat.le_of_ble_eq_true rfl⟩) (fun H locs hh => ?_)
  have hh : qz_H (qm_D g) s.heap th [(th, .inr (3, [.null, .ref (th + 1), .ref (th + 5), .ref (th + 7), .ref (th + 10), .int 0, .int 0, .int 0, .int 0])), (th + 1, .inr (0, [.ref (th + 2), .ref (th + 3), .ref (th + 4), .int 6, .int 6, .int 0, .long 0])), (th + 2, .inl (qm_dA g 1, 16, .inl fun _ => 0)), (th + 3, .inl (qm_dA g 1, 16, .inl fun _ => 0)), (th + 4, .inl (qm_dA g 1, 81, .inl fun _ => 0)), (th + 5, .inr (10, [.ref (th + 6), .int 0])), (th + 6, .inl (qm_dA g 1, 160, .inl fun _ => 0)), (th + 7, .inr (2, [.ref (th + 8), .ref (th + 9), .int 0, .int 0, .int 3])), (th + 8, .inl (qm_dA g 1, 6, .inl fun _ => 0)), (th + 9, .inl (qm_dA g 1, 8, .inl fun _ => 0)), (th + 10, .inr (1, [.ref (th + 11), .int 6, .int 6, .int 0])), (th + 11, .inl (qm_dA g 1, 30, .inl fun _ => 0)), (th + 12, .inr (8, [.ref (tp), .int 0, .int 0, .int 0, .int 0, .int 0]))] _ 12 _ := hh
  refine W.widen (k := 12) (n := 341) (Nat.le_of_ble_eq_true rfl) (Nat.le_of_ble_eq_true rfl) ?_
  refine qz_putF A hin (ci := 3) (j := 0) (i := 0) (v := .ref (th + 12)) (by decide) (by decide) rfl (List.mem_cons_of_mem _ (qm_fld_ok pfRX3_ok 44 3 0 rfl).2) (by decide +kernel) rfl rfl rfl hh rfl (Or.inl rfl) dX3_init_57 (fun H locs hh => ?_)
  have hh : qz_H (qm_D g) s.heap th [(th, .inr (3, [.ref (th + 12), .ref (th + 1), .ref (th + 5), .ref (th + 7), .ref (th + 10), .int 0, .int 0, .int 0, .int 0])), (th + 1, .inr (0, [.ref (th + 2), .ref (th + 3), .ref (th + 4), .int 6, .int 6, .int 0, .long 0])), (th + 2, .inl (qm_dA g 1, 16, .inl fun _ => 0)), (th + 3, .inl (qm_dA g 1, 16, .inl fun _ => 0)), (th + 4, .inl (qm_dA g 1, 81, .inl fun _ => 0)), (th + 5, .inr (10, [.ref (th + 6), .int 0])), (th + 6, .inl (qm_dA g 1, 160, .inl fun _ => 0)), (th + 7, .inr (2, [.ref (th + 8), .ref (th + 9), .int 0, .int 0, .int 3])), (th + 8, .inl (qm_dA g 1, 6, .inl fun _ => 0)), (th + 9, .inl (qm_dA g 1, 8, .inl fun _ => 0)), (th + 10, .inr (1, [.ref (th + 11), .int 6, .int 6, .int 0])), (th + 11, .inl (qm_dA g 1, 30, .inl fun _ => 0)), (th + 12, .inr (8, [.ref (tp), .int 0, .int 0, .int 0, .int 0, .int 0]))] _ 12 _ := hh
  exact W.vret A.1 A.2.1 hr (fun t ht _ => ⟨rfl, by rw [ht]; exact ⟨hh.1, hh.2.1, hh.2.2.1, hh.2.2.2.1, fun _ q => by cases q⟩⟩) hh.2.2.2.2 dX3_init_60

def zW6 (g : qm_G) (th : Nat) : va_W := [(th, .inr (6, [.ref (th + 1), .int 0, .int 0, .int 0, .int 0])), (th + 1, .inr (0, [.ref (th + 2), .ref (th + 3), .ref (th + 4), .int 6, .int 6, .int 0, .long 0])), (th + 2, .inl (qm_dA g 1, 16, .inl fun _ => 0)), (th + 3, .inl (qm_dA g 1, 16, .inl fun _ => 0)), (th + 4, .inl (qm_dA g 1, 81, .inl fun _ => 0))]
theorem zW6_ad (g : qm_G) (th : Nat) : ∀ y ∈ zW6 g th, th ≤ y.1 := by
  intro y hy
  simp only [zW6, List.mem_cons, List.not_mem_nil, or_false] at hy
  rcases hy with rfl | rfl | rfl | rfl | rfl <;> simp
theorem zj_X6 : Jvm.Cond.code yX6_init cX6_init 1 none ∈ qm_all := List.mem_filter.mpr ⟨by decide +kernel, rfl⟩
theorem zn_X6 : Jvm.Cond.instanceMethod yX6_init ∈ qm_all := List.mem_filter.mpr ⟨by decide +kernel, rfl⟩
theorem dX6_init_0 : decode cX6_init 0 = .ok (.aload_n 0, 1) := by decide +kernel
theorem dX6_init_1 : decode cX6_init 1 = .ok (.invokespecial 3, 3) := by decide +kernel
theorem dX6_init_4 : decode cX6_init 4 = .ok (.aload_n 0, 1) := by decide +kernel
theorem dX6_init_5 : decode cX6_init 5 = .ok (.new 9, 3) := by decide +kernel
theorem dX6_init_8 : decode cX6_init 8 = .ok (.dup, 1) := by decide +kernel
theorem dX6_init_9 : decode cX6_init 9 = .ok (.invokespecial 11, 3) := by decide +kernel
theorem dX6_init_12 : decode cX6_init 12 = .ok (.putfield 12, 3) := by decide +kernel
theorem dX6_init_15 : decode cX6_init 15 = .ok (.return_, 1) := by decide +kernel
set_option maxRecDepth 100000 in
set_option maxHeartbeats 8000000 in
theorem zX6_init (l : Launch) (g : qm_G) (H0 : Heap) (th : Nat) (hsz : H0.size = th + 1) : Met l yX6_init (Jvm.Cond.code yX6_init cX6_init 1 none :: qm_all) ({ frames := 2, cells := 4, slots := 120, locals := 32 }) (qz_Pc g H0 th 6 [.ref th]) (qz_Qc g H0 th (zW6 g th) 4) 4 120 (qz_fr H0 th) := by
  refine va_MetF (cc := cX6_init) (maxL := 1) (ret := none) (plainFor_of_name (by decide)) rfl ?_
  intro p e s m args below meth c s₁ B hml hv
  obtain ⟨rfl, rfl, hat, hK, hN⟩ := hv
  have hts := atoms_spec (ws := Jvm.Cond.code yX6_init cX6_init 1 none :: qm_all) B.pre
  have tsa : ∀ w ∈ qm_all, w.before _ s = true := fun w hw => hts w (List.mem_cons_of_mem _ hw)
  have A : qz_At p s m _ c cX6_init (qm_D g) (qm_tys g) RX6 (Jvm.Cond.code yX6_init cX6_init 1 none :: qm_all) := ⟨B.exec, B.bytes, findClass_of_methodNamed B.named, hts, hK, fun cl hcl w hw => List.mem_cons_of_mem _ (qm_u_in cl hcl w hw)⟩
  have hr := B.returns
  have hlocks := B.notSynchronized
  have hin : meth.name = "<init>" := (name_of_methodNamed B.named B.method).1
  have hh : qz_H (qm_D g) s.heap th [(th, .inr (6, [.null, .int 0, .int 0, .int 0, .int 0]))] s.heap 0 [] := qz_H0 hat
  have hl := lv_entry ([.ref th]) (n := 1) (Nat.le_of_ble_eq_true rfl)
  rw [lg_entry_eq]
  generalize (lg_sl ([.ref th]) ++ List.replicate (1 - (lg_sl ([.ref th])).length) Slot.unset).toArray = ls at hl ⊢
  have hl : lv_has ls 1 [(0, .ref (th))] := hl
  refine lv_aload_n A.1 A.2.1 dX6_init_0 rfl (lv_at hl 0 rfl) ?_
  refine W.objInit A.1 A.2.1 A.2.2.1 (tsa _ zo_RX6) (tsa _ zo_inst) (tsa _ zo_code) rfl (by rw [hml]; exact hl.1) rfl dX6_init_1 (Nat.le_of_ble_eq_true rfl) (Nat.le_of_ble_eq_true rfl) ?_
  refine W.eq (g2 := F0 m 4 ls []) rfl ?_
  refine lv_aload_n A.1 A.2.1 dX6_init_4 rfl (lv_at hl 0 rfl) ?_
  refine qz_new A (ad := th + 1) (by omega) (ci := 0) (fs := [.null, .null, .null, .int 0, .int 0, .int 0, .long 0]) (by decide) (List.mem_cons_of_mem _ zl_RX6_9) (List.mem_cons_of_mem _ zi_RX0) (List.mem_cons_of_mem _ uRX0) (by decide +kernel) hh (Nat.le_of_ble_eq_true rfl) (Nat.le_of_ble_eq_true rfl) dX6_init_5 (fun H hh => ?_)
  have hh : qz_H (qm_D g) s.heap th [(th, .inr (6, [.null, .int 0, .int 0, .int 0, .int 0])), (th + 1, .inr (0, [.null, .null, .null, .int 0, .int 0, .int 0, .long 0]))] _ 1 _ := hh
  refine W.widen (k := 1) (n := 7) (Nat.le_of_ble_eq_true rfl) (Nat.le_of_ble_eq_true rfl) ?_
  refine lv_dup A.1 A.2.1 dX6_init_8 rfl ?_
  refine qz_after (q := th + 1) (i := 1) (w1 := zW0 g (th + 1)) hh rfl (by rw [hh.1]; omega) (Or.inr (by omega)) (zW0_ad g (th + 1)) (va_runIN (S := ⟨A.1, A.2.1, hml, A.2.2.1, hts⟩) (hM := zX0_init l g H (th + 1) (by rw [hh.1]; omega)) (cw := ⟨va_cnB (host := "WillowLaw") 0 hts (qm_GoodIn zj_X0) rfl rfl rfl (hN.1 _ (by decide +kernel)) (tsa _ uRX0) ⟨by decide, by decide, rfl⟩ ⟨Nat.le_of_ble_eq_true rfl, Nat.le_of_ble_eq_true rfl⟩, rfl, tsa _ zn_X0⟩) (As := []) (rest := [.ref (th + 1), .ref (th)]) (b := th + 1) ⟨qz_Pc_blind _ _ _ _ _, fun U hU hW => ⟨rfl, hU, hh.2.1 1 _ rfl, va_K.moved hW.alike hK, hN.warm hW⟩⟩ rfl rfl hl.1 rfl (lv_room (Nat.le_of_ble_eq_true rfl)) dX6_init_9 ⟨Nat.le_of_ble_eq_true rfl, Nat.le_of_ble_eq_true rfl⟩) (fun H locs hh => ?_)
  have hh : qz_H (qm_D g) s.heap th [(th, .inr (6, [.null, .int 0, .int 0, .int 0, .int 0])), (th + 1, .inr (0, [.ref (th + 2), .ref (th + 3), .ref (th + 4), .int 6, .int 6, .int 0, .long 0])), (th + 2, .inl (qm_dA g 1, 16, .inl fun _ => 0)), (th + 3, .inl (qm_dA g 1, 16, .inl fun _ => 0)), (th + 4, .inl (qm_dA g 1, 81, .inl fun _ => 0))] _ 4 _ := hh
  refine W.widen (k := 4) (n := 120) (Nat.le_of_ble_eq_true rfl) (Nat.le_of_ble_eq_true rfl) ?_
  refine qz_putF A hin (ci := 6) (j := 0) (i := 0) (v := .ref (th + 1)) (by decide) (by decide) rfl (List.mem_cons_of_mem _ (qm_fld_ok pfRX6_ok 12 6 0 rfl).2) (by decide +kernel) rfl rfl rfl hh rfl (Or.inl rfl) dX6_init_12 (fun H locs hh => ?_)
  have hh : qz_H (qm_D g) s.heap th [(th, .inr (6, [.ref (th + 1), .int 0, .int 0, .int 0, .int 0])), (th + 1, .inr (0, [.ref (th + 2), .ref (th + 3), .ref (th + 4), .int 6, .int 6, .int 0, .long 0])), (th + 2, .inl (qm_dA g 1, 16, .inl fun _ => 0)), (th + 3, .inl (qm_dA g 1, 16, .inl fun _ => 0)), (th + 4, .inl (qm_dA g 1, 81, .inl fun _ => 0))] _ 4 _ := hh
  exact W.vret A.1 A.2.1 hr (fun t ht _ => ⟨rfl, by rw [ht]; exact ⟨hh.1, hh.2.1, hh.2.2.1, hh.2.2.2.1, fun _ q => by cases q⟩⟩) hh.2.2.2.2 dX6_init_15

def zW7 (g : qm_G) (th : Nat) : va_W := [(th, .inr (7, [.ref (th + 1), .ref (th + 2), .ref (th + 3), .int 0])), (th + 1, .inl (qm_dA g 4, 64, .inr (.inl fun _ => 0))), (th + 2, .inl (qm_dA g 1, 3, .inl fun _ => 0)), (th + 3, .inl (qm_dA g 1, 64, .inl fun _ => 0))]
theorem zW7_ad (g : qm_G) (th : Nat) : ∀ y ∈ zW7 g th, th ≤ y.1 := by
  intro y hy
  simp only [zW7, List.mem_cons, List.not_mem_nil, or_false] at hy
  rcases hy with rfl | rfl | rfl | rfl <;> simp
theorem zj_X7 : Jvm.Cond.code yX7_init cX7_init 1 none ∈ qm_all := List.mem_filter.mpr ⟨by decide +kernel, rfl⟩
theorem zn_X7 : Jvm.Cond.instanceMethod yX7_init ∈ qm_all := List.mem_filter.mpr ⟨by decide +kernel, rfl⟩
theorem dX7_init_0 : decode cX7_init 0 = .ok (.aload_n 0, 1) := by decide +kernel
theorem dX7_init_1 : decode cX7_init 1 = .ok (.invokespecial 3, 3) := by decide +kernel
theorem dX7_init_4 : decode cX7_init 4 = .ok (.aload_n 0, 1) := by decide +kernel
theorem dX7_init_5 : decode cX7_init 5 = .ok (.bipush 64, 2) := by decide +kernel
theorem dX7_init_7 : decode cX7_init 7 = .ok (.newarray .long, 2) := by decide +kernel
theorem dX7_init_9 : decode cX7_init 9 = .ok (.putfield 9, 3) := by decide +kernel
theorem dX7_init_12 : decode cX7_init 12 = .ok (.aload_n 0, 1) := by decide +kernel
theorem dX7_init_13 : decode cX7_init 13 = .ok (.iconst 3, 1) := by decide +kernel
theorem dX7_init_14 : decode cX7_init 14 = .ok (.newarray .int, 2) := by decide +kernel
theorem dX7_init_16 : decode cX7_init 16 = .ok (.putfield 15, 3) := by decide +kernel
theorem dX7_init_19 : decode cX7_init 19 = .ok (.aload_n 0, 1) := by decide +kernel
theorem dX7_init_20 : decode cX7_init 20 = .ok (.bipush 64, 2) := by decide +kernel
theorem dX7_init_22 : decode cX7_init 22 = .ok (.newarray .int, 2) := by decide +kernel
theorem dX7_init_24 : decode cX7_init 24 = .ok (.putfield 19, 3) := by decide +kernel
theorem dX7_init_27 : decode cX7_init 27 = .ok (.return_, 1) := by decide +kernel
set_option maxRecDepth 100000 in
set_option maxHeartbeats 8000000 in
theorem zX7_init (l : Launch) (g : qm_G) (H0 : Heap) (th : Nat) (hsz : H0.size = th + 1) : Met l yX7_init (Jvm.Cond.code yX7_init cX7_init 1 none :: qm_all) ({ frames := 1, cells := 3, slots := 131, locals := 12 }) (qz_Pc g H0 th 7 [.ref th]) (qz_Qc g H0 th (zW7 g th) 3) 3 131 (qz_fr H0 th) := by
  refine va_MetF (cc := cX7_init) (maxL := 1) (ret := none) (plainFor_of_name (by decide)) rfl ?_
  intro p e s m args below meth c s₁ B hml hv
  obtain ⟨rfl, rfl, hat, hK, hN⟩ := hv
  have hts := atoms_spec (ws := Jvm.Cond.code yX7_init cX7_init 1 none :: qm_all) B.pre
  have tsa : ∀ w ∈ qm_all, w.before _ s = true := fun w hw => hts w (List.mem_cons_of_mem _ hw)
  have A : qz_At p s m _ c cX7_init (qm_D g) (qm_tys g) RX7 (Jvm.Cond.code yX7_init cX7_init 1 none :: qm_all) := ⟨B.exec, B.bytes, findClass_of_methodNamed B.named, hts, hK, fun cl hcl w hw => List.mem_cons_of_mem _ (qm_u_in cl hcl w hw)⟩
  have hr := B.returns
  have hlocks := B.notSynchronized
  have hin : meth.name = "<init>" := (name_of_methodNamed B.named B.method).1
  have hh : qz_H (qm_D g) s.heap th [(th, .inr (7, [.null, .null, .null, .int 0]))] s.heap 0 [] := qz_H0 hat
  have hl := lv_entry ([.ref th]) (n := 1) (Nat.le_of_ble_eq_true rfl)
  rw [lg_entry_eq]
  generalize (lg_sl ([.ref th]) ++ List.replicate (1 - (lg_sl ([.ref th])).length) Slot.unset).toArray = ls at hl ⊢
  have hl : lv_has ls 1 [(0, .ref (th))] := hl
  refine lv_aload_n A.1 A.2.1 dX7_init_0 rfl (lv_at hl 0 rfl) ?_
  refine W.objInit A.1 A.2.1 A.2.2.1 (tsa _ zo_RX7) (tsa _ zo_inst) (tsa _ zo_code) rfl (by rw [hml]; exact hl.1) rfl dX7_init_1 (Nat.le_of_ble_eq_true rfl) (Nat.le_of_ble_eq_true rfl) ?_
  refine W.eq (g2 := F0 m 4 ls []) rfl ?_
  refine lv_aload_n A.1 A.2.1 dX7_init_4 rfl (lv_at hl 0 rfl) ?_
  refine lv_bipush (v := 64) A.1 A.2.1 dX7_init_5 (by decide) ?_
  refine qz_newa A (ad := th + 1) (by omega) (atype := .long) (ty := .long) rfl (List.mem_cons_of_mem _ za_long) (qm_tys_at g 4 (by omega) (by omega)) (fun q => q) (N := 64) (a0 := (64, .inr (.inl fun _ => 0))) rfl (by decide) (by decide) (Nat.le_of_ble_eq_true rfl) hh (Nat.le_of_ble_eq_true rfl) (Nat.le_of_ble_eq_true rfl) dX7_init_7 (fun H hh => ?_)
  have hh : qz_H (qm_D g) s.heap th [(th, .inr (7, [.null, .null, .null, .int 0])), (th + 1, .inl (qm_dA g 4, 64, .inr (.inl fun _ => 0)))] _ 1 _ := hh
  refine W.widen (k := 1) (n := 64) (Nat.le_of_ble_eq_true rfl) (Nat.le_of_ble_eq_true rfl) ?_
  refine qz_putF A hin (ci := 7) (j := 0) (i := 0) (v := .ref (th + 1)) (by decide) (by decide) rfl (List.mem_cons_of_mem _ (qm_fld_ok pfRX7_ok 9 7 0 rfl).2) (by decide +kernel) rfl rfl rfl hh rfl (Or.inl rfl) dX7_init_9 (fun H locs hh => ?_)
  have hh : qz_H (qm_D g) s.heap th [(th, .inr (7, [.ref (th + 1), .null, .null, .int 0])), (th + 1, .inl (qm_dA g 4, 64, .inr (.inl fun _ => 0)))] _ 1 _ := hh
  refine lv_aload_n A.1 A.2.1 dX7_init_12 rfl (lv_at hl 0 rfl) ?_
  refine lv_iconst (v := 3) A.1 A.2.1 dX7_init_13 (by decide) ?_
  refine qz_newa A (ad := th + 2) (by omega) (atype := .int) (ty := .int) rfl (List.mem_cons_of_mem _ za_int) (qm_tys_at g 1 (by omega) (by omega)) (fun q => q) (N := 3) (a0 := (3, .inl fun _ => 0)) rfl (by decide) (by decide) (Nat.le_of_ble_eq_true rfl) hh (Nat.le_of_ble_eq_true rfl) (Nat.le_of_ble_eq_true rfl) dX7_init_14 (fun H hh => ?_)
  have hh : qz_H (qm_D g) s.heap th [(th, .inr (7, [.ref (th + 1), .null, .null, .int 0])), (th + 1, .inl (qm_dA g 4, 64, .inr (.inl fun _ => 0))), (th + 2, .inl (qm_dA g 1, 3, .inl fun _ => 0))] _ 2 _ := hh
  refine W.widen (k := 2) (n := 67) (Nat.le_of_ble_eq_true rfl) (Nat.le_of_ble_eq_true rfl) ?_
  refine qz_putF A hin (ci := 7) (j := 1) (i := 0) (v := .ref (th + 2)) (by decide) (by decide) rfl (List.mem_cons_of_mem _ (qm_fld_ok pfRX7_ok 15 7 1 rfl).2) (by decide +kernel) rfl rfl rfl hh rfl (Or.inl rfl) dX7_init_16 (fun H locs hh => ?_)
  have hh : qz_H (qm_D g) s.heap th [(th, .inr (7, [.ref (th + 1), .ref (th + 2), .null, .int 0])), (th + 1, .inl (qm_dA g 4, 64, .inr (.inl fun _ => 0))), (th + 2, .inl (qm_dA g 1, 3, .inl fun _ => 0))] _ 2 _ := hh
  refine lv_aload_n A.1 A.2.1 dX7_init_19 rfl (lv_at hl 0 rfl) ?_
  refine lv_bipush (v := 64) A.1 A.2.1 dX7_init_20 (by decide) ?_
  refine qz_newa A (ad := th + 3) (by omega) (atype := .int) (ty := .int) rfl (List.mem_cons_of_mem _ za_int) (qm_tys_at g 1 (by omega) (by omega)) (fun q => q) (N := 64) (a0 := (64, .inl fun _ => 0)) rfl (by decide) (by decide) (Nat.le_of_ble_eq_true rfl) hh (Nat.le_of_ble_eq_true rfl) (Nat.le_of_ble_eq_true rfl) dX7_init_22 (fun H hh => ?_)
  have hh : qz_H (qm_D g) s.heap th [(th, .inr (7, [.ref (th + 1), .ref (th + 2), .null, .int 0])), (th + 1, .inl (qm_dA g 4, 64, .inr (.inl fun _ => 0))), (th + 2, .inl (qm_dA g 1, 3, .inl fun _ => 0)), (th + 3, .inl (qm_dA g 1, 64, .inl fun _ => 0))] _ 3 _ := hh
  refine W.widen (k := 3) (n := 131) (Nat.le_of_ble_eq_true rfl) (Nat.le_of_ble_eq_true rfl) ?_
  refine qz_putF A hin (ci := 7) (j := 2) (i := 0) (v := .ref (th + 3)) (by decide) (by decide) rfl (List.mem_cons_of_mem _ (qm_fld_ok pfRX7_ok 19 7 2 rfl).2) (by decide +kernel) rfl rfl rfl hh rfl (Or.inl rfl) dX7_init_24 (fun H locs hh => ?_)
  have hh : qz_H (qm_D g) s.heap th [(th, .inr (7, [.ref (th + 1), .ref (th + 2), .ref (th + 3), .int 0])), (th + 1, .inl (qm_dA g 4, 64, .inr (.inl fun _ => 0))), (th + 2, .inl (qm_dA g 1, 3, .inl fun _ => 0)), (th + 3, .inl (qm_dA g 1, 64, .inl fun _ => 0))] _ 3 _ := hh
  exact W.vret A.1 A.2.1 hr (fun t ht _ => ⟨rfl, by rw [ht]; exact ⟨hh.1, hh.2.1, hh.2.2.1, hh.2.2.2.1, fun _ q => by cases q⟩⟩) hh.2.2.2.2 dX7_init_27

def zW4 (g : qm_G) (th : Nat) : va_W := [(th, .inr (4, [.ref (th + 1), .ref (th + 2), .ref (th + 3), .ref (th + 4), .ref (th + 5), .ref (th + 6), .int 0])), (th + 1, .inl (qm_dA g 1, 6, .inl fun _ => 0)), (th + 2, .inl (qm_dA g 1, 6, .inl fun _ => 0)), (th + 3, .inl (qm_dA g 1, 256, .inl fun _ => 0)), (th + 4, .inl (qm_dA g 1, 256, .inl fun _ => 0)), (th + 5, .inl (qm_dA g 1, 6, .inl fun _ => 0)), (th + 6, .inl (qm_dA g 1, 4, .inl fun _ => 0))]
theorem zW4_ad (g : qm_G) (th : Nat) : ∀ y ∈ zW4 g th, th ≤ y.1 := by
  intro y hy
  simp only [zW4, List.mem_cons, List.not_mem_nil, or_false] at hy
  rcases hy with rfl | rfl | rfl | rfl | rfl | rfl | rfl <;> simp
theorem zj_X4 : Jvm.Cond.code yX4_init cX4_init 1 none ∈ qm_all := List.mem_filter.mpr ⟨by decide +kernel, rfl⟩
theorem zn_X4 : Jvm.Cond.instanceMethod yX4_init ∈ qm_all := List.mem_filter.mpr ⟨by decide +kernel, rfl⟩
theorem dX4_init_0 : decode cX4_init 0 = .ok (.aload_n 0, 1) := by decide +kernel
theorem dX4_init_1 : decode cX4_init 1 = .ok (.invokespecial 5, 3) := by decide +kernel
theorem dX4_init_4 : decode cX4_init 4 = .ok (.aload_n 0, 1) := by decide +kernel
theorem dX4_init_5 : decode cX4_init 5 = .ok (.bipush 6, 2) := by decide +kernel
theorem dX4_init_7 : decode cX4_init 7 = .ok (.newarray .int, 2) := by decide +kernel
theorem dX4_init_9 : decode cX4_init 9 = .ok (.putfield 11, 3) := by decide +kernel
theorem dX4_init_12 : decode cX4_init 12 = .ok (.aload_n 0, 1) := by decide +kernel
theorem dX4_init_13 : decode cX4_init 13 = .ok (.bipush 6, 2) := by decide +kernel
theorem dX4_init_15 : decode cX4_init 15 = .ok (.newarray .int, 2) := by decide +kernel
theorem dX4_init_17 : decode cX4_init 17 = .ok (.putfield 17, 3) := by decide +kernel
theorem dX4_init_20 : decode cX4_init 20 = .ok (.aload_n 0, 1) := by decide +kernel
theorem dX4_init_21 : decode cX4_init 21 = .ok (.sipush 256, 3) := by decide +kernel
theorem dX4_init_24 : decode cX4_init 24 = .ok (.newarray .int, 2) := by decide +kernel
theorem dX4_init_26 : decode cX4_init 26 = .ok (.putfield 20, 3) := by decide +kernel
theorem dX4_init_29 : decode cX4_init 29 = .ok (.aload_n 0, 1) := by decide +kernel
theorem dX4_init_30 : decode cX4_init 30 = .ok (.sipush 256, 3) := by decide +kernel
theorem dX4_init_33 : decode cX4_init 33 = .ok (.newarray .int, 2) := by decide +kernel
theorem dX4_init_35 : decode cX4_init 35 = .ok (.putfield 23, 3) := by decide +kernel
theorem dX4_init_38 : decode cX4_init 38 = .ok (.aload_n 0, 1) := by decide +kernel
theorem dX4_init_39 : decode cX4_init 39 = .ok (.bipush 6, 2) := by decide +kernel
theorem dX4_init_41 : decode cX4_init 41 = .ok (.newarray .int, 2) := by decide +kernel
theorem dX4_init_43 : decode cX4_init 43 = .ok (.putfield 26, 3) := by decide +kernel
theorem dX4_init_46 : decode cX4_init 46 = .ok (.aload_n 0, 1) := by decide +kernel
theorem dX4_init_47 : decode cX4_init 47 = .ok (.iconst 4, 1) := by decide +kernel
theorem dX4_init_48 : decode cX4_init 48 = .ok (.newarray .int, 2) := by decide +kernel
theorem dX4_init_50 : decode cX4_init 50 = .ok (.putfield 29, 3) := by decide +kernel
theorem dX4_init_53 : decode cX4_init 53 = .ok (.return_, 1) := by decide +kernel
set_option maxRecDepth 100000 in
set_option maxHeartbeats 8000000 in
theorem zX4_init (l : Launch) (g : qm_G) (H0 : Heap) (th : Nat) (hsz : H0.size = th + 1) : Met l yX4_init (Jvm.Cond.code yX4_init cX4_init 1 none :: qm_all) ({ frames := 1, cells := 6, slots := 534, locals := 12 }) (qz_Pc g H0 th 4 [.ref th]) (qz_Qc g H0 th (zW4 g th) 6) 6 534 (qz_fr H0 th) := by
  refine va_MetF (cc := cX4_init) (maxL := 1) (ret := none) (plainFor_of_name (by decide)) rfl ?_
  intro p e s m args below meth c s₁ B hml hv
  obtain ⟨rfl, rfl, hat, hK, hN⟩ := hv
  have hts := atoms_spec (ws := Jvm.Cond.code yX4_init cX4_init 1 none :: qm_all) B.pre
  have tsa : ∀ w ∈ qm_all, w.before _ s = true := fun w hw => hts w (List.mem_cons_of_mem _ hw)
  have A : qz_At p s m _ c cX4_init (qm_D g) (qm_tys g) RX4 (Jvm.Cond.code yX4_init cX4_init 1 none :: qm_all) := ⟨B.exec, B.bytes, findClass_of_methodNamed B.named, hts, hK, fun cl hcl w hw => List.mem_cons_of_mem _ (qm_u_in cl hcl w hw)⟩
  have hr := B.returns
  have hlocks := B.notSynchronized
  have hin : meth.name = "<init>" := (name_of_methodNamed B.named B.method).1
  have hh : qz_H (qm_D g) s.heap th [(th, .inr (4, [.null, .null, .null, .null, .null, .null, .int 0]))] s.heap 0 [] := qz_H0 hat
  have hl := lv_entry ([.ref th]) (n := 1) (Nat.le_of_ble_eq_true rfl)
  rw [lg_entry_eq]
  generalize (lg_sl ([.ref th]) ++ List.replicate (1 - (lg_sl ([.ref th])).length) Slot.unset).toArray = ls at hl ⊢
  have hl : lv_has ls 1 [(0, .ref (th))] := hl
  refine lv_aload_n A.1 A.2.1 dX4_init_0 rfl (lv_at hl 0 rfl) ?_
  refine W.objInit A.1 A.2.1 A.2.2.1 (tsa _ zo_RX4) (tsa _ zo_inst) (tsa _ zo_code) rfl (by rw [hml]; exact hl.1) rfl dX4_init_1 (Nat.le_of_ble_eq_true rfl) (Nat.le_of_ble_eq_true rfl) ?_
  refine W.eq (g2 := F0 m 4 ls []) rfl ?_
  refine lv_aload_n A.1 A.2.1 dX4_init_4 rfl (lv_at hl 0 rfl) ?_
  refine lv_bipush (v := 6) A.1 A.2.1 dX4_init_5 (by decide) ?_
  refine qz_newa A (ad := th + 1) (by omega) (atype := .int) (ty := .int) rfl (List.mem_cons_of_mem _ za_int) (qm_tys_at g 1 (by omega) (by omega)) (fun q => q) (N := 6) (a0 := (6, .inl fun _ => 0)) rfl (by decide) (by decide) (Nat.le_of_ble_eq_true rfl) hh (Nat.le_of_ble_eq_true rfl) (Nat.le_of_ble_eq_true rfl) dX4_init_7 (fun H hh => ?_)
  have hh : qz_H (qm_D g) s.heap th [(th, .inr (4, [.null, .null, .null, .null, .null, .null, .int 0])), (th + 1, .inl (qm_dA g 1, 6, .inl fun _ => 0))] _ 1 _ := hh
  refine W.widen (k := 1) (n := 6) (Nat.le_of_ble_eq_true rfl) (Nat.le_of_ble_eq_true rfl) ?_
  refine qz_putF A hin (ci := 4) (j := 0) (i := 0) (v := .ref (th + 1)) (by decide) (by decide) rfl (List.mem_cons_of_mem _ (qm_fld_ok pfRX4_ok 11 4 0 rfl).2) (by decide +kernel) rfl rfl rfl hh rfl (Or.inl rfl) dX4_init_9 (fun H locs hh => ?_)
  have hh : qz_H (qm_D g) s.heap th [(th, .inr (4, [.ref (th + 1), .null, .null, .null, .null, .null, .int 0])), (th + 1, .inl (qm_dA g 1, 6, .inl fun _ => 0))] _ 1 _ := hh
  refine lv_aload_n A.1 A.2.1 dX4_init_12 rfl (lv_at hl 0 rfl) ?_
  refine lv_bipush (v := 6) A.1 A.2.1 dX4_init_13 (by decide) ?_
  refine qz_newa A (ad := th + 2) (by omega) (atype := .int) (ty := .int) rfl (List.mem_cons_of_mem _ za_int) (qm_tys_at g 1 (by omega) (by omega)) (fun q => q) (N := 6) (a0 := (6, .inl fun _ => 0)) rfl (by decide) (by decide) (Nat.le_of_ble_eq_true rfl) hh (Nat.le_of_ble_eq_true rfl) (Nat.le_of_ble_eq_true rfl) dX4_init_15 (fun H hh => ?_)
  have hh : qz_H (qm_D g) s.heap th [(th, .inr (4, [.ref (th + 1), .null, .null, .null, .null, .null, .int 0])), (th + 1, .inl (qm_dA g 1, 6, .inl fun _ => 0)), (th + 2, .inl (qm_dA g 1, 6, .inl fun _ => 0))] _ 2 _ := hh
  refine W.widen (k := 2) (n := 12) (Nat.le_of_ble_eq_true rfl) (Nat.le_of_ble_eq_true rfl) ?_
  refine qz_putF A hin (ci := 4) (j := 1) (i := 0) (v := .ref (th + 2)) (by decide) (by decide) rfl (List.mem_cons_of_mem _ (qm_fld_ok pfRX4_ok 17 4 1 rfl).2) (by decide +kernel) rfl rfl rfl hh rfl (Or.inl rfl) dX4_init_17 (fun H locs hh => ?_)
  have hh : qz_H (qm_D g) s.heap th [(th, .inr (4, [.ref (th + 1), .ref (th + 2), .null, .null, .null, .null, .int 0])), (th + 1, .inl (qm_dA g 1, 6, .inl fun _ => 0)), (th + 2, .inl (qm_dA g 1, 6, .inl fun _ => 0))] _ 2 _ := hh
  refine lv_aload_n A.1 A.2.1 dX4_init_20 rfl (lv_at hl 0 rfl) ?_
  refine lv_sipush (v := 256) A.1 A.2.1 dX4_init_21 (by decide) ?_
  refine qz_newa A (ad := th + 3) (by omega) (atype := .int) (ty := .int) rfl (List.mem_cons_of_mem _ za_int) (qm_tys_at g 1 (by omega) (by omega)) (fun q => q) (N := 256) (a0 := (256, .inl fun _ => 0)) rfl (by decide) (by decide) (Nat.le_of_ble_eq_true rfl) hh (Nat.le_of_ble_eq_true rfl) (Nat.le_of_ble_eq_true rfl) dX4_init_24 (fun H hh => ?_)
  have hh : qz_H (qm_D g) s.heap th [(th, .inr (4, [.ref (th + 1), .ref (th + 2), .null, .null, .null, .null, .int 0])), (th + 1, .inl (qm_dA g 1, 6, .inl fun _ => 0)), (th + 2, .inl (qm_dA g 1, 6, .inl fun _ => 0)), (th + 3, .inl (qm_dA g 1, 256, .inl fun _ => 0))] _ 3 _ := hh
  refine W.widen (k := 3) (n := 268) (Nat.le_of_ble_eq_true rfl) (Nat.le_of_ble_eq_true rfl) ?_
  refine qz_putF A hin (ci := 4) (j := 2) (i := 0) (v := .ref (th + 3)) (by decide) (by decide) rfl (List.mem_cons_of_mem _ (qm_fld_ok pfRX4_ok 20 4 2 rfl).2) (by decide +kernel) rfl rfl rfl hh rfl (Or.inl rfl) dX4_init_26 (fun H locs hh => ?_)
  have hh : qz_H (qm_D g) s.heap th [(th, .inr (4, [.ref (th + 1), .ref (th + 2), .ref (th + 3), .null, .null, .null, .int 0])), (th + 1, .inl (qm_dA g 1, 6, .inl fun _ => 0)), (th + 2, .inl (qm_dA g 1, 6, .inl fun _ => 0)), (th + 3, .inl (qm_dA g 1, 256, .inl fun _ => 0))] _ 3 _ := hh
  refine lv_aload_n A.1 A.2.1 dX4_init_29 rfl (lv_at hl 0 rfl) ?_
  refine lv_sipush (v := 256) A.1 A.2.1 dX4_init_30 (by decide) ?_
  refine qz_newa A (ad := th + 4) (by omega) (atype := .int) (ty := .int) rfl (List.mem_cons_of_mem _ za_int) (qm_tys_at g 1 (by omega) (by omega)) (fun q => q) (N := 256) (a0 := (256, .inl fun _ => 0)) rfl (by decide) (by decide) (Nat.le_of_ble_eq_true rfl) hh (Nat.le_of_ble_eq_true rfl) (Nat.le_of_ble_eq_true rfl) dX4_init_33 (fun H hh => ?_)
  have hh : qz_H (qm_D g) s.heap th [(th, .inr (4, [.ref (th + 1), .ref (th + 2), .ref (th + 3), .null, .null, .null, .int 0])), (th + 1, .inl (qm_dA g 1, 6, .inl fun _ => 0)), (th + 2, .inl (qm_dA g 1, 6, .inl fun _ => 0)), (th + 3, .inl (qm_dA g 1, 256, .inl fun _ => 0)), (th + 4, .inl (qm_dA g 1, 256, .inl fun _ => 0))] _ 4 _ := hh
  refine W.widen (k := 4) (n := 524) (Nat.le_of_ble_eq_true rfl) (Nat.le_of_ble_eq_true rfl) ?_
  refine qz_putF A hin (ci := 4) (j := 3) (i := 0) (v := .ref (th + 4)) (by decide) (by decide) rfl (List.mem_cons_of_mem _ (qm_fld_ok pfRX4_ok 23 4 3 rfl).2) (by decide +kernel) rfl rfl rfl hh rfl (Or.inl rfl) dX4_init_35 (fun H locs hh => ?_)
  have hh : qz_H (qm_D g) s.heap th [(th, .inr (4, [.ref (th + 1), .ref (th + 2), .ref (th + 3), .ref (th + 4), .null, .null, .int 0])), (th + 1, .inl (qm_dA g 1, 6, .inl fun _ => 0)), (th + 2, .inl (qm_dA g 1, 6, .inl fun _ => 0)), (th + 3, .inl (qm_dA g 1, 256, .inl fun _ => 0)), (th + 4, .inl (qm_dA g 1, 256, .inl fun _ => 0))] _ 4 _ := hh
  refine lv_aload_n A.1 A.2.1 dX4_init_38 rfl (lv_at hl 0 rfl) ?_
  refine lv_bipush (v := 6) A.1 A.2.1 dX4_init_39 (by decide) ?_
  refine qz_newa A (ad := th + 5) (by omega) (atype := .int) (ty := .int) rfl (List.mem_cons_of_mem _ za_int) (qm_tys_at g 1 (by omega) (by omega)) (fun q => q) (N := 6) (a0 := (6, .inl fun _ => 0)) rfl (by decide) (by decide) (Nat.le_of_ble_eq_true rfl) hh (Nat.le_of_ble_eq_true rfl) (Nat.le_of_ble_eq_true rfl) dX4_init_41 (fun H hh => ?_)
  have hh : qz_H (qm_D g) s.heap th [(th, .inr (4, [.ref (th + 1), .ref (th + 2), .ref (th + 3), .ref (th + 4), .null, .null, .int 0])), (th + 1, .inl (qm_dA g 1, 6, .inl fun _ => 0)), (th + 2, .inl (qm_dA g 1, 6, .inl fun _ => 0)), (th + 3, .inl (qm_dA g 1, 256, .inl fun _ => 0)), (th + 4, .inl (qm_dA g 1, 256, .inl fun _ => 0)), (th + 5, .inl (qm_dA g 1, 6, .inl fun _ => 0))] _ 5 _ := hh
  refine W.widen (k := 5) (n := 530) (Nat.le_of_ble_eq_true rfl) (Nat.le_of_ble_eq_true rfl) ?_
  refine qz_putF A hin (ci := 4) (j := 4) (i := 0) (v := .ref (th + 5)) (by decide) (by decide) rfl (List.mem_cons_of_mem _ (qm_fld_ok pfRX4_ok 26 4 4 rfl).2) (by decide +kernel) rfl rfl rfl hh rfl (Or.inl rfl) dX4_init_43 (fun H locs hh => ?_)
  have hh : qz_H (qm_D g) s.heap th [(th, .inr (4, [.ref (th + 1), .ref (th + 2), .ref (th + 3), .ref (th + 4), .ref (th + 5), .null, .int 0])), (th + 1, .inl (qm_dA g 1, 6, .inl fun _ => 0)), (th + 2, .inl (qm_dA g 1, 6, .inl fun _ => 0)), (th + 3, .inl (qm_dA g 1, 256, .inl fun _ => 0)), (th + 4, .inl (qm_dA g 1, 256, .inl fun _ => 0)), (th + 5, .inl (qm_dA g 1, 6, .inl fun _ => 0))] _ 5 _ := hh
  refine lv_aload_n A.1 A.2.1 dX4_init_46 rfl (lv_at hl 0 rfl) ?_
  refine lv_iconst (v := 4) A.1 A.2.1 dX4_init_47 (by decide) ?_
  refine qz_newa A (ad := th + 6) (by omega) (atype := .int) (ty := .int) rfl (List.mem_cons_of_mem _ za_int) (qm_tys_at g 1 (by omega) (by omega)) (fun q => q) (N := 4) (a0 := (4, .inl fun _ => 0)) rfl (by decide) (by decide) (Nat.le_of_ble_eq_true rfl) hh (Nat.le_of_ble_eq_true rfl) (Nat.le_of_ble_eq_true rfl) dX4_init_48 (fun H hh => ?_)
  have hh : qz_H (qm_D g) s.heap th [(th, .inr (4, [.ref (th + 1), .ref (th + 2), .ref (th + 3), .ref (th + 4), .ref (th + 5), .null, .int 0])), (th + 1, .inl (qm_dA g 1, 6, .inl fun _ => 0)), (th + 2, .inl (qm_dA g 1, 6, .inl fun _ => 0)), (th + 3, .inl (qm_dA g 1, 256, .inl fun _ => 0)), (th + 4, .inl (qm_dA g 1, 256, .inl fun _ => 0)), (th + 5, .inl (qm_dA g 1, 6, .inl fun _ => 0)), (th + 6, .inl (qm_dA g 1, 4, .inl fun _ => 0))] _ 6 _ := hh
  refine W.widen (k := 6) (n := 534) (Nat.le_of_ble_eq_true rfl) (Nat.le_of_ble_eq_true rfl) ?_
  refine qz_putF A hin (ci := 4) (j := 5) (i := 0) (v := .ref (th + 6)) (by decide) (by decide) rfl (List.mem_cons_of_mem _ (qm_fld_ok pfRX4_ok 29 4 5 rfl).2) (by decide +kernel) rfl rfl rfl hh rfl (Or.inl rfl) dX4_init_50 (fun H locs hh => ?_)
  have hh : qz_H (qm_D g) s.heap th [(th, .inr (4, [.ref (th + 1), .ref (th + 2), .ref (th + 3), .ref (th + 4), .ref (th + 5), .ref (th + 6), .int 0])), (th + 1, .inl (qm_dA g 1, 6, .inl fun _ => 0)), (th + 2, .inl (qm_dA g 1, 6, .inl fun _ => 0)), (th + 3, .inl (qm_dA g 1, 256, .inl fun _ => 0)), (th + 4, .inl (qm_dA g 1, 256, .inl fun _ => 0)), (th + 5, .inl (qm_dA g 1, 6, .inl fun _ => 0)), (th + 6, .inl (qm_dA g 1, 4, .inl fun _ => 0))] _ 6 _ := hh
  exact W.vret A.1 A.2.1 hr (fun t ht _ => ⟨rfl, by rw [ht]; exact ⟨hh.1, hh.2.1, hh.2.2.1, hh.2.2.2.1, fun _ q => by cases q⟩⟩) hh.2.2.2.2 dX4_init_53

def zW5 (g : qm_G) (th : Nat) : va_W := [(th, .inr (5, [.ref (th + 1), .int 0, .int 0, .int 0, .int 0])), (th + 1, .inl (qm_dA g 1, 64, .inl fun _ => 0))]
theorem zW5_ad (g : qm_G) (th : Nat) : ∀ y ∈ zW5 g th, th ≤ y.1 := by
  intro y hy
  simp only [zW5, List.mem_cons, List.not_mem_nil, or_false] at hy
  rcases hy with rfl | rfl <;> simp
theorem zj_X5 : Jvm.Cond.code yX5_init cX5_init 1 none ∈ qm_all := List.mem_filter.mpr ⟨by decide +kernel, rfl⟩
theorem zn_X5 : Jvm.Cond.instanceMethod yX5_init ∈ qm_all := List.mem_filter.mpr ⟨by decide +kernel, rfl⟩
theorem dX5_init_0 : decode cX5_init 0 = .ok (.aload_n 0, 1) := by decide +kernel
theorem dX5_init_1 : decode cX5_init 1 = .ok (.invokespecial 3, 3) := by decide +kernel
theorem dX5_init_4 : decode cX5_init 4 = .ok (.aload_n 0, 1) := by decide +kernel
theorem dX5_init_5 : decode cX5_init 5 = .ok (.bipush 64, 2) := by decide +kernel
theorem dX5_init_7 : decode cX5_init 7 = .ok (.newarray .int, 2) := by decide +kernel
theorem dX5_init_9 : decode cX5_init 9 = .ok (.putfield 9, 3) := by decide +kernel
theorem dX5_init_12 : decode cX5_init 12 = .ok (.return_, 1) := by decide +kernel
set_option maxRecDepth 100000 in
set_option maxHeartbeats 8000000 in
theorem zX5_init (l : Launch) (g : qm_G) (H0 : Heap) (th : Nat) (hsz : H0.size = th + 1) : Met l yX5_init (Jvm.Cond.code yX5_init cX5_init 1 none :: qm_all) ({ frames := 1, cells := 1, slots := 64, locals := 12 }) (qz_Pc g H0 th 5 [.ref th]) (qz_Qc g H0 th (zW5 g th) 1) 1 64 (qz_fr H0 th) := by
  refine va_MetF (cc := cX5_init) (maxL := 1) (ret := none) (plainFor_of_name (by decide)) rfl ?_
  intro p e s m args below meth c s₁ B hml hv
  obtain ⟨rfl, rfl, hat, hK, hN⟩ := hv
  have hts := atoms_spec (ws := Jvm.Cond.code yX5_init cX5_init 1 none :: qm_all) B.pre
  have tsa : ∀ w ∈ qm_all, w.before _ s = true := fun w hw => hts w (List.mem_cons_of_mem _ hw)
  have A : qz_At p s m _ c cX5_init (qm_D g) (qm_tys g) RX5 (Jvm.Cond.code yX5_init cX5_init 1 none :: qm_all) := ⟨B.exec, B.bytes, findClass_of_methodNamed B.named, hts, hK, fun cl hcl w hw => List.mem_cons_of_mem _ (qm_u_in cl hcl w hw)⟩
  have hr := B.returns
  have hlocks := B.notSynchronized
  have hin : meth.name = "<init>" := (name_of_methodNamed B.named B.method).1
  have hh : qz_H (qm_D g) s.heap th [(th, .inr (5, [.null, .int 0, .int 0, .int 0, .int 0]))] s.heap 0 [] := qz_H0 hat
  have hl := lv_entry ([.ref th]) (n := 1) (Nat.le_of_ble_eq_true rfl)
  rw [lg_entry_eq]
  generalize (lg_sl ([.ref th]) ++ List.replicate (1 - (lg_sl ([.ref th])).length) Slot.unset).toArray = ls at hl ⊢
  have hl : lv_has ls 1 [(0, .ref (th))] := hl
  refine lv_aload_n A.1 A.2.1 dX5_init_0 rfl (lv_at hl 0 rfl) ?_
  refine W.objInit A.1 A.2.1 A.2.2.1 (tsa _ zo_RX5) (tsa _ zo_inst) (tsa _ zo_code) rfl (by rw [hml]; exact hl.1) rfl dX5_init_1 (Nat.le_of_ble_eq_true rfl) (Nat.le_of_ble_eq_true rfl) ?_
  refine W.eq (g2 := F0 m 4 ls []) rfl ?_
  refine lv_aload_n A.1 A.2.1 dX5_init_4 rfl (lv_at hl 0 rfl) ?_
  refine lv_bipush (v := 64) A.1 A.2.1 dX5_init_5 (by decide) ?_
  refine qz_newa A (ad := th + 1) (by omega) (atype := .int) (ty := .int) rfl (List.mem_cons_of_mem _ za_int) (qm_tys_at g 1 (by omega) (by omega)) (fun q => q) (N := 64) (a0 := (64, .inl fun _ => 0)) rfl (by decide) (by decide) (Nat.le_of_ble_eq_true rfl) hh (Nat.le_of_ble_eq_true rfl) (Nat.le_of_ble_eq_true rfl) dX5_init_7 (fun H hh => ?_)
  have hh : qz_H (qm_D g) s.heap th [(th, .inr (5, [.null, .int 0, .int 0, .int 0, .int 0])), (th + 1, .inl (qm_dA g 1, 64, .inl fun _ => 0))] _ 1 _ := hh
  refine W.widen (k := 1) (n := 64) (Nat.le_of_ble_eq_true rfl) (Nat.le_of_ble_eq_true rfl) ?_
  refine qz_putF A hin (ci := 5) (j := 0) (i := 0) (v := .ref (th + 1)) (by decide) (by decide) rfl (List.mem_cons_of_mem _ (qm_fld_ok pfRX5_ok 9 5 0 rfl).2) (by decide +kernel) rfl rfl rfl hh rfl (Or.inl rfl) dX5_init_9 (fun H locs hh => ?_)
  have hh : qz_H (qm_D g) s.heap th [(th, .inr (5, [.ref (th + 1), .int 0, .int 0, .int 0, .int 0])), (th + 1, .inl (qm_dA g 1, 64, .inl fun _ => 0))] _ 1 _ := hh
  exact W.vret A.1 A.2.1 hr (fun t ht _ => ⟨rfl, by rw [ht]; exact ⟨hh.1, hh.2.1, hh.2.2.1, hh.2.2.2.1, fun _ q => by cases q⟩⟩) hh.2.2.2.2 dX5_init_12

