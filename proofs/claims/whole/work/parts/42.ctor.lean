theorem zo_RX0 : Jvm.Cond.methodLink RX0 3 objectInit ∈ qm_all := List.mem_filter.mpr ⟨by decide +kernel, rfl⟩
theorem zo_RX1 : Jvm.Cond.methodLink RX1 3 objectInit ∈ qm_all := List.mem_filter.mpr ⟨by decide +kernel, rfl⟩
theorem zo_RX2 : Jvm.Cond.methodLink RX2 3 objectInit ∈ qm_all := List.mem_filter.mpr ⟨by decide +kernel, rfl⟩
theorem zo_RX10 : Jvm.Cond.methodLink RX10 3 objectInit ∈ qm_all := List.mem_filter.mpr ⟨by decide +kernel, rfl⟩
theorem zo_RX8 : Jvm.Cond.methodLink RX8 1 objectInit ∈ qm_all := List.mem_filter.mpr ⟨by decide +kernel, rfl⟩
theorem zo_RX3 : Jvm.Cond.methodLink RX3 3 objectInit ∈ qm_all := List.mem_filter.mpr ⟨by decide +kernel, rfl⟩
theorem zo_RX4 : Jvm.Cond.methodLink RX4 5 objectInit ∈ qm_all := List.mem_filter.mpr ⟨by decide +kernel, rfl⟩
theorem zo_RX5 : Jvm.Cond.methodLink RX5 3 objectInit ∈ qm_all := List.mem_filter.mpr ⟨by decide +kernel, rfl⟩
theorem zo_RX6 : Jvm.Cond.methodLink RX6 3 objectInit ∈ qm_all := List.mem_filter.mpr ⟨by decide +kernel, rfl⟩
theorem zo_RX7 : Jvm.Cond.methodLink RX7 3 objectInit ∈ qm_all := List.mem_filter.mpr ⟨by decide +kernel, rfl⟩
theorem zo_RX9 : Jvm.Cond.methodLink RX9 3 objectInit ∈ qm_all := List.mem_filter.mpr ⟨by decide +kernel, rfl⟩
theorem zo_RX11 : Jvm.Cond.methodLink RX11 1 objectInit ∈ qm_all := List.mem_filter.mpr ⟨by decide +kernel, rfl⟩
theorem zo_RX12 : Jvm.Cond.methodLink RX12 1 objectInit ∈ qm_all := List.mem_filter.mpr ⟨by decide +kernel, rfl⟩
theorem zo_inst : Jvm.Cond.instanceMethod objectInit ∈ qm_all := List.mem_filter.mpr ⟨by decide +kernel, rfl⟩
theorem zo_code : Jvm.Cond.code objectInit ⟨#[0xb1]⟩ 1 none ∈ qm_all := List.mem_filter.mpr ⟨by decide +kernel, rfl⟩
theorem za_int : Jvm.Cond.arrayClass .int ∈ qm_all := List.mem_filter.mpr ⟨by decide +kernel, rfl⟩
theorem za_byte : Jvm.Cond.arrayClass .byte ∈ qm_all := List.mem_filter.mpr ⟨by decide +kernel, rfl⟩
theorem za_boolean : Jvm.Cond.arrayClass .boolean ∈ qm_all := List.mem_filter.mpr ⟨by decide +kernel, rfl⟩
theorem za_long : Jvm.Cond.arrayClass .long ∈ qm_all := List.mem_filter.mpr ⟨by decide +kernel, rfl⟩
theorem zl_RX3_9 : Jvm.Cond.classLink RX3 9 RX0 ∈ qm_all := List.mem_filter.mpr ⟨by decide +kernel, rfl⟩
theorem zl_RX3_18 : Jvm.Cond.classLink RX3 18 RX10 ∈ qm_all := List.mem_filter.mpr ⟨by decide +kernel, rfl⟩
theorem zl_RX3_25 : Jvm.Cond.classLink RX3 25 RX2 ∈ qm_all := List.mem_filter.mpr ⟨by decide +kernel, rfl⟩
theorem zl_RX3_32 : Jvm.Cond.classLink RX3 32 RX1 ∈ qm_all := List.mem_filter.mpr ⟨by decide +kernel, rfl⟩
theorem zl_RX3_39 : Jvm.Cond.classLink RX3 39 RX8 ∈ qm_all := List.mem_filter.mpr ⟨by decide +kernel, rfl⟩
theorem zl_RX6_9 : Jvm.Cond.classLink RX6 9 RX0 ∈ qm_all := List.mem_filter.mpr ⟨by decide +kernel, rfl⟩
theorem zl_RX9_19 : Jvm.Cond.classLink RX9 19 RX0 ∈ qm_all := List.mem_filter.mpr ⟨by decide +kernel, rfl⟩
theorem zl_RX9_25 : Jvm.Cond.classLink RX9 25 RX10 ∈ qm_all := List.mem_filter.mpr ⟨by decide +kernel, rfl⟩
theorem zl_RX9_31 : Jvm.Cond.classLink RX9 31 RX2 ∈ qm_all := List.mem_filter.mpr ⟨by decide +kernel, rfl⟩
theorem zl_RX9_37 : Jvm.Cond.classLink RX9 37 RX1 ∈ qm_all := List.mem_filter.mpr ⟨by decide +kernel, rfl⟩
theorem zl_RX11_7 : Jvm.Cond.classLink RX11 7 RX9 ∈ qm_all := List.mem_filter.mpr ⟨by decide +kernel, rfl⟩
theorem zl_RX11_20 : Jvm.Cond.classLink RX11 20 RX3 ∈ qm_all := List.mem_filter.mpr ⟨by decide +kernel, rfl⟩
theorem zl_RX11_33 : Jvm.Cond.classLink RX11 33 RX6 ∈ qm_all := List.mem_filter.mpr ⟨by decide +kernel, rfl⟩
theorem zl_RX11_40 : Jvm.Cond.classLink RX11 40 RX7 ∈ qm_all := List.mem_filter.mpr ⟨by decide +kernel, rfl⟩
theorem zl_RX11_47 : Jvm.Cond.classLink RX11 47 RX4 ∈ qm_all := List.mem_filter.mpr ⟨by decide +kernel, rfl⟩
theorem zl_RX11_54 : Jvm.Cond.classLink RX11 54 RX5 ∈ qm_all := List.mem_filter.mpr ⟨by decide +kernel, rfl⟩
theorem zl_RL_7 : Jvm.Cond.classLink RL 7 RX11 ∈ qm_all := List.mem_filter.mpr ⟨by decide +kernel, rfl⟩
theorem zl_RL_10 : Jvm.Cond.classLink RL 10 RX12 ∈ qm_all := List.mem_filter.mpr ⟨by decide +kernel, rfl⟩
theorem zi_RX0 : Jvm.Cond.instantiable RX0 7 ∈ qm_all := List.mem_filter.mpr ⟨by decide +kernel, rfl⟩
theorem zi_RX1 : Jvm.Cond.instantiable RX1 4 ∈ qm_all := List.mem_filter.mpr ⟨by decide +kernel, rfl⟩
theorem zi_RX2 : Jvm.Cond.instantiable RX2 5 ∈ qm_all := List.mem_filter.mpr ⟨by decide +kernel, rfl⟩
theorem zi_RX3 : Jvm.Cond.instantiable RX3 9 ∈ qm_all := List.mem_filter.mpr ⟨by decide +kernel, rfl⟩
theorem zi_RX4 : Jvm.Cond.instantiable RX4 7 ∈ qm_all := List.mem_filter.mpr ⟨by decide +kernel, rfl⟩
theorem zi_RX5 : Jvm.Cond.instantiable RX5 5 ∈ qm_all := List.mem_filter.mpr ⟨by decide +kernel, rfl⟩
theorem zi_RX6 : Jvm.Cond.instantiable RX6 5 ∈ qm_all := List.mem_filter.mpr ⟨by decide +kernel, rfl⟩
theorem zi_RX7 : Jvm.Cond.instantiable RX7 4 ∈ qm_all := List.mem_filter.mpr ⟨by decide +kernel, rfl⟩
theorem zi_RX8 : Jvm.Cond.instantiable RX8 6 ∈ qm_all := List.mem_filter.mpr ⟨by decide +kernel, rfl⟩
theorem zi_RX9 : Jvm.Cond.instantiable RX9 9 ∈ qm_all := List.mem_filter.mpr ⟨by decide +kernel, rfl⟩
theorem zi_RX10 : Jvm.Cond.instantiable RX10 2 ∈ qm_all := List.mem_filter.mpr ⟨by decide +kernel, rfl⟩
theorem zi_RX11 : Jvm.Cond.instantiable RX11 7 ∈ qm_all := List.mem_filter.mpr ⟨by decide +kernel, rfl⟩
theorem zi_RX12 : Jvm.Cond.instantiable RX12 51 ∈ qm_all := List.mem_filter.mpr ⟨by decide +kernel, rfl⟩
theorem zk_RX11_9 : Jvm.Cond.methodLink RX11 9 yX9_init ∈ qm_all := List.mem_filter.mpr ⟨by decide +kernel, rfl⟩
theorem zk_RX11_26 : Jvm.Cond.methodLink RX11 26 yX3_init ∈ qm_all := List.mem_filter.mpr ⟨by decide +kernel, rfl⟩
theorem zk_RX3_41 : Jvm.Cond.methodLink RX3 41 yX8_init ∈ qm_all := List.mem_filter.mpr ⟨by decide +kernel, rfl⟩
def zW0 (g : qm_G) (th : Nat) : va_W := [(th, .inr (0, [.ref (th + 1), .ref (th + 2), .ref (th + 3), .int 6, .int 6, .int 0, .long 0])), (th + 1, .inl (qm_dA g 1, 16, .inl fun _ => 0)), (th + 2, .inl (qm_dA g 1, 16, .inl fun _ => 0)), (th + 3, .inl (qm_dA g 1, 81, .inl fun _ => 0))]
theorem zW0_ad (g : qm_G) (th : Nat) : ∀ y ∈ zW0 g th, th ≤ y.1 := by
  intro y hy
  simp only [zW0, List.mem_cons, List.not_mem_nil, or_false] at hy
  rcases hy with rfl | rfl | rfl | rfl <;> simp
theorem zj_X0 : Jvm.Cond.code yX0_init cX0_init 1 none ∈ qm_all := List.mem_filter.mpr ⟨by decide +kernel, rfl⟩
theorem zn_X0 : Jvm.Cond.instanceMethod yX0_init ∈ qm_all := List.mem_filter.mpr ⟨by decide +kernel, rfl⟩
theorem dX0_init_0 : decode cX0_init 0 = .ok (.aload_n 0, 1) := by decide +kernel
theorem dX0_init_1 : decode cX0_init 1 = .ok (.invokespecial 3, 3) := by decide +kernel
theorem dX0_init_4 : decode cX0_init 4 = .ok (.aload_n 0, 1) := by decide +kernel
theorem dX0_init_5 : decode cX0_init 5 = .ok (.bipush 16, 2) := by decide +kernel
theorem dX0_init_7 : decode cX0_init 7 = .ok (.newarray .int, 2) := by decide +kernel
theorem dX0_init_9 : decode cX0_init 9 = .ok (.putfield 9, 3) := by decide +kernel
theorem dX0_init_12 : decode cX0_init 12 = .ok (.aload_n 0, 1) := by decide +kernel
theorem dX0_init_13 : decode cX0_init 13 = .ok (.bipush 16, 2) := by decide +kernel
theorem dX0_init_15 : decode cX0_init 15 = .ok (.newarray .int, 2) := by decide +kernel
theorem dX0_init_17 : decode cX0_init 17 = .ok (.putfield 15, 3) := by decide +kernel
theorem dX0_init_20 : decode cX0_init 20 = .ok (.aload_n 0, 1) := by decide +kernel
theorem dX0_init_21 : decode cX0_init 21 = .ok (.bipush 81, 2) := by decide +kernel
theorem dX0_init_23 : decode cX0_init 23 = .ok (.newarray .int, 2) := by decide +kernel
theorem dX0_init_25 : decode cX0_init 25 = .ok (.putfield 18, 3) := by decide +kernel
theorem dX0_init_28 : decode cX0_init 28 = .ok (.aload_n 0, 1) := by decide +kernel
theorem dX0_init_29 : decode cX0_init 29 = .ok (.bipush 6, 2) := by decide +kernel
theorem dX0_init_31 : decode cX0_init 31 = .ok (.putfield 21, 3) := by decide +kernel
theorem dX0_init_34 : decode cX0_init 34 = .ok (.aload_n 0, 1) := by decide +kernel
theorem dX0_init_35 : decode cX0_init 35 = .ok (.bipush 6, 2) := by decide +kernel
theorem dX0_init_37 : decode cX0_init 37 = .ok (.putfield 25, 3) := by decide +kernel
theorem dX0_init_40 : decode cX0_init 40 = .ok (.return_, 1) := by decide +kernel
set_option maxRecDepth 100000 in
set_option maxHeartbeats 8000000 in
theorem zX0_init (l : Launch) (g : qm_G) (H0 : Heap) (th : Nat) (hsz : H0.size = th + 1) : Met l yX0_init (Jvm.Cond.code yX0_init cX0_init 1 none :: qm_all) ({ frames := 1, cells := 3, slots := 113, locals := 12 }) (qz_Pc g H0 th 0 [.ref th]) (qz_Qc g H0 th (zW0 g th) 3) 3 113 (qz_fr H0 th) := by
  refine va_MetF (cc := cX0_init) (maxL := 1) (ret := none) (plainFor_of_name (by decide)) rfl ?_
  intro p e s m args below meth c s₁ B hml hv
  obtain ⟨rfl, rfl, hat, hK, hN⟩ := hv
  have hts := atoms_spec (ws := Jvm.Cond.code yX0_init cX0_init 1 none :: qm_all) B.pre
  have tsa : ∀ w ∈ qm_all, w.before _ s = true := fun w hw => hts w (List.mem_cons_of_mem _ hw)
  have A : qz_At p s m _ c cX0_init (qm_D g) (qm_tys g) RX0 (Jvm.Cond.code yX0_init cX0_init 1 none :: qm_all) := ⟨B.exec, B.bytes, findClass_of_methodNamed B.named, hts, hK, fun cl hcl w hw => List.mem_cons_of_mem _ (qm_u_in cl hcl w hw)⟩
  have hr := B.returns
  have hlocks := B.notSynchronized
  have hin : meth.name = "<init>" := (name_of_methodNamed B.named B.method).1
  have hh : qz_H (qm_D g) s.heap th [(th, .inr (0, [.null, .null, .null, .int 0, .int 0, .int 0, .long 0]))] s.heap 0 [] := qz_H0 hat
  have hl := lv_entry ([.ref th]) (n := 1) (Nat.le_of_ble_eq_true rfl)
  rw [lg_entry_eq]
  generalize (lg_sl ([.ref th]) ++ List.replicate (1 - (lg_sl ([.ref th])).length) Slot.unset).toArray = ls at hl ⊢
  have hl : lv_has ls 1 [(0, .ref (th))] := hl
  refine lv_aload_n A.1 A.2.1 dX0_init_0 rfl (lv_at hl 0 rfl) ?_
  refine W.objInit A.1 A.2.1 A.2.2.1 (tsa _ zo_RX0) (tsa _ zo_inst) (tsa _ zo_code) rfl (by rw [hml]; exact hl.1) rfl dX0_init_1 (Nat.le_of_ble_eq_true rfl) (Nat.le_of_ble_eq_true rfl) ?_
  refine W.eq (g2 := F0 m 4 ls []) rfl ?_
  refine lv_aload_n A.1 A.2.1 dX0_init_4 rfl (lv_at hl 0 rfl) ?_
  refine lv_bipush (v := 16) A.1 A.2.1 dX0_init_5 (by decide) ?_
  refine qz_newa A (ad := th + 1) (by omega) (atype := .int) (ty := .int) rfl (List.mem_cons_of_mem _ za_int) (qm_tys_at g 1 (by omega) (by omega)) (fun q => q) (N := 16) (a0 := (16, .inl fun _ => 0)) rfl (by decide) (by decide) (Nat.le_of_ble_eq_true rfl) hh (Nat.le_of_ble_eq_true rfl) (Nat.le_of_ble_eq_true rfl) dX0_init_7 (fun H hh => ?_)
  have hh : qz_H (qm_D g) s.heap th [(th, .inr (0, [.null, .null, .null, .int 0, .int 0, .int 0, .long 0])), (th + 1, .inl (qm_dA g 1, 16, .inl fun _ => 0))] _ 1 _ := hh
  refine W.widen (k := 1) (n := 16) (Nat.le_of_ble_eq_true rfl) (Nat.le_of_ble_eq_true rfl) ?_
  refine qz_putF A hin (ci := 0) (j := 0) (i := 0) (v := .ref (th + 1)) (by decide) (by decide) rfl (List.mem_cons_of_mem _ (qm_fld_ok pfRX0_ok 9 0 0 rfl).2) (by decide +kernel) rfl rfl rfl hh rfl (Or.inl rfl) dX0_init_9 (fun H locs hh => ?_)
  have hh : qz_H (qm_D g) s.heap th [(th, .inr (0, [.ref (th + 1), .null, .null, .int 0, .int 0, .int 0, .long 0])), (th + 1, .inl (qm_dA g 1, 16, .inl fun _ => 0))] _ 1 _ := hh
  refine lv_aload_n A.1 A.2.1 dX0_init_12 rfl (lv_at hl 0 rfl) ?_
  refine lv_bipush (v := 16) A.1 A.2.1 dX0_init_13 (by decide) ?_
  refine qz_newa A (ad := th + 2) (by omega) (atype := .int) (ty := .int) rfl (List.mem_cons_of_mem _ za_int) (qm_tys_at g 1 (by omega) (by omega)) (fun q => q) (N := 16) (a0 := (16, .inl fun _ => 0)) rfl (by decide) (by decide) (Nat.le_of_ble_eq_true rfl) hh (Nat.le_of_ble_eq_true rfl) (Nat.le_of_ble_eq_true rfl) dX0_init_15 (fun H hh => ?_)
  have hh : qz_H (qm_D g) s.heap th [(th, .inr (0, [.ref (th + 1), .null, .null, .int 0, .int 0, .int 0, .long 0])), (th + 1, .inl (qm_dA g 1, 16, .inl fun _ => 0)), (th + 2, .inl (qm_dA g 1, 16, .inl fun _ => 0))] _ 2 _ := hh
  refine W.widen (k := 2) (n := 32) (Nat.le_of_ble_eq_true rfl) (Nat.le_of_ble_eq_true rfl) ?_
  refine qz_putF A hin (ci := 0) (j := 1) (i := 0) (v := .ref (th + 2)) (by decide) (by decide) rfl (List.mem_cons_of_mem _ (qm_fld_ok pfRX0_ok 15 0 1 rfl).2) (by decide +kernel) rfl rfl rfl hh rfl (Or.inl rfl) dX0_init_17 (fun H locs hh => ?_)
  have hh : qz_H (qm_D g) s.heap th [(th, .inr (0, [.ref (th + 1), .ref (th + 2), .null, .int 0, .int 0, .int 0, .long 0])), (th + 1, .inl (qm_dA g 1, 16, .inl fun _ => 0)), (th + 2, .inl (qm_dA g 1, 16, .inl fun _ => 0))] _ 2 _ := hh
  refine lv_aload_n A.1 A.2.1 dX0_init_20 rfl (lv_at hl 0 rfl) ?_
  refine lv_bipush (v := 81) A.1 A.2.1 dX0_init_21 (by decide) ?_
  refine qz_newa A (ad := th + 3) (by omega) (atype := .int) (ty := .int) rfl (List.mem_cons_of_mem _ za_int) (qm_tys_at g 1 (by omega) (by omega)) (fun q => q) (N := 81) (a0 := (81, .inl fun _ => 0)) rfl (by decide) (by decide) (Nat.le_of_ble_eq_true rfl) hh (Nat.le_of_ble_eq_true rfl) (Nat.le_of_ble_eq_true rfl) dX0_init_23 (fun H hh => ?_)
  have hh : qz_H (qm_D g) s.heap th [(th, .inr (0, [.ref (th + 1), .ref (th + 2), .null, .int 0, .int 0, .int 0, .long 0])), (th + 1, .inl (qm_dA g 1, 16, .inl fun _ => 0)), (th + 2, .inl (qm_dA g 1, 16, .inl fun _ => 0)), (th + 3, .inl (qm_dA g 1, 81, .inl fun _ => 0))] _ 3 _ := hh
  refine W.widen (k := 3) (n := 113) (Nat.le_of_ble_eq_true rfl) (Nat.le_of_ble_eq_true rfl) ?_
  refine qz_putF A hin (ci := 0) (j := 2) (i := 0) (v := .ref (th + 3)) (by decide) (by decide) rfl (List.mem_cons_of_mem _ (qm_fld_ok pfRX0_ok 18 0 2 rfl).2) (by decide +kernel) rfl rfl rfl hh rfl (Or.inl rfl) dX0_init_25 (fun H locs hh => ?_)
  have hh : qz_H (qm_D g) s.heap th [(th, .inr (0, [.ref (th + 1), .ref (th + 2), .ref (th + 3), .int 0, .int 0, .int 0, .long 0])), (th + 1, .inl (qm_dA g 1, 16, .inl fun _ => 0)), (th + 2, .inl (qm_dA g 1, 16, .inl fun _ => 0)), (th + 3, .inl (qm_dA g 1, 81, .inl fun _ => 0))] _ 3 _ := hh
  refine lv_aload_n A.1 A.2.1 dX0_init_28 rfl (lv_at hl 0 rfl) ?_
  refine lv_bipush (v := 6) A.1 A.2.1 dX0_init_29 (by decide) ?_
  refine qz_put A (ci := 0) (j := 3) (i := 0) (v := .int 6) (by decide) (by decide) rfl (List.mem_cons_of_mem _ (qm_fld_ok pfRX0_ok 21 0 3 rfl).2) (by decide +kernel) rfl rfl hh rfl (Or.inl rfl) dX0_init_31 (fun H locs hh => ?_)
  have hh : qz_H (qm_D g) s.heap th [(th, .inr (0, [.ref (th + 1), .ref (th + 2), .ref (th + 3), .int 6, .int 0, .int 0, .long 0])), (th + 1, .inl (qm_dA g 1, 16, .inl fun _ => 0)), (th + 2, .inl (qm_dA g 1, 16, .inl fun _ => 0)), (th + 3, .inl (qm_dA g 1, 81, .inl fun _ => 0))] _ 3 _ := hh
  refine lv_aload_n A.1 A.2.1 dX0_init_34 rfl (lv_at hl 0 rfl) ?_
  refine lv_bipush (v := 6) A.1 A.2.1 dX0_init_35 (by decide) ?_
  refine qz_put A (ci := 0) (j := 4) (i := 0) (v := .int 6) (by decide) (by decide) rfl (List.mem_cons_of_mem _ (qm_fld_ok pfRX0_ok 25 0 4 rfl).2) (by decide +kernel) rfl rfl hh rfl (Or.inl rfl) dX0_init_37 (fun H locs hh => ?_)
  have hh : qz_H (qm_D g) s.heap th [(th, .inr (0, [.ref (th + 1), .ref (th + 2), .ref (th + 3), .int 6, .int 6, .int 0, .long 0])), (th + 1, .inl (qm_dA g 1, 16, .inl fun _ => 0)), (th + 2, .inl (qm_dA g 1, 16, .inl fun _ => 0)), (th + 3, .inl (qm_dA g 1, 81, .inl fun _ => 0))] _ 3 _ := hh
  exact W.vret A.1 A.2.1 hr (fun t ht _ => ⟨rfl, by rw [ht]; exact ⟨hh.1, hh.2.1, hh.2.2.1, hh.2.2.2.1, fun _ q => by cases q⟩⟩) hh.2.2.2.2 dX0_init_40

def zW10 (g : qm_G) (th : Nat) : va_W := [(th, .inr (10, [.ref (th + 1), .int 0])), (th + 1, .inl (qm_dA g 1, 160, .inl fun _ => 0))]
theorem zW10_ad (g : qm_G) (th : Nat) : ∀ y ∈ zW10 g th, th ≤ y.1 := by
  intro y hy
  simp only [zW10, List.mem_cons, List.not_mem_nil, or_false] at hy
  rcases hy with rfl | rfl <;> simp
theorem zj_X10 : Jvm.Cond.code yX10_init cX10_init 1 none ∈ qm_all := List.mem_filter.mpr ⟨by decide +kernel, rfl⟩
theorem zn_X10 : Jvm.Cond.instanceMethod yX10_init ∈ qm_all := List.mem_filter.mpr ⟨by decide +kernel, rfl⟩
theorem dX10_init_0 : decode cX10_init 0 = .ok (.aload_n 0, 1) := by decide +kernel
theorem dX10_init_1 : decode cX10_init 1 = .ok (.invokespecial 3, 3) := by decide +kernel
theorem dX10_init_4 : decode cX10_init 4 = .ok (.aload_n 0, 1) := by decide +kernel
theorem dX10_init_5 : decode cX10_init 5 = .ok (.sipush 160, 3) := by decide +kernel
theorem dX10_init_8 : decode cX10_init 8 = .ok (.newarray .int, 2) := by decide +kernel
theorem dX10_init_10 : decode cX10_init 10 = .ok (.putfield 11, 3) := by decide +kernel
theorem dX10_init_13 : decode cX10_init 13 = .ok (.return_, 1) := by decide +kernel
set_option maxRecDepth 100000 in
set_option maxHeartbeats 8000000 in
theorem zX10_init (l : Launch) (g : qm_G) (H0 : Heap) (th : Nat) (hsz : H0.size = th + 1) : Met l yX10_init (Jvm.Cond.code yX10_init cX10_init 1 none :: qm_all) ({ frames := 1, cells := 1, slots := 160, locals := 12 }) (qz_Pc g H0 th 10 [.ref th]) (qz_Qc g H0 th (zW10 g th) 1) 1 160 (qz_fr H0 th) := by
  refine va_MetF (cc := cX10_init) (maxL := 1) (ret := none) (plainFor_of_name (by decide)) rfl ?_
  intro p e s m args below meth c s₁ B hml hv
  obtain ⟨rfl, rfl, hat, hK, hN⟩ := hv
  have hts := atoms_spec (ws := Jvm.Cond.code yX10_init cX10_init 1 none :: qm_all) B.pre
  have tsa : ∀ w ∈ qm_all, w.before _ s = true := fun w hw => hts w (List.mem_cons_of_mem _ hw)
  have A : qz_At p s m _ c cX10_init (qm_D g) (qm_tys g) RX10 (Jvm.Cond.code yX10_init cX10_init 1 none :: qm_all) := ⟨B.exec, B.bytes, findClass_of_methodNamed B.named, hts, hK, fun cl hcl w hw => List.mem_cons_of_mem _ (qm_u_in cl hcl w hw)⟩
  have hr := B.returns
  have hlocks := B.notSynchronized
  have hin : meth.name = "<init>" := (name_of_methodNamed B.named B.method).1
  have hh : qz_H (qm_D g) s.heap th [(th, .inr (10, [.null, .int 0]))] s.heap 0 [] := qz_H0 hat
  have hl := lv_entry ([.ref th]) (n := 1) (Nat.le_of_ble_eq_true rfl)
  rw [lg_entry_eq]
  generalize (lg_sl ([.ref th]) ++ List.replicate (1 - (lg_sl ([.ref th])).length) Slot.unset).toArray = ls at hl ⊢
  have hl : lv_has ls 1 [(0, .ref (th))] := hl
  refine lv_aload_n A.1 A.2.1 dX10_init_0 rfl (lv_at hl 0 rfl) ?_
  refine W.objInit A.1 A.2.1 A.2.2.1 (tsa _ zo_RX10) (tsa _ zo_inst) (tsa _ zo_code) rfl (by rw [hml]; exact hl.1) rfl dX10_init_1 (Nat.le_of_ble_eq_true rfl) (Nat.le_of_ble_eq_true rfl) ?_
  refine W.eq (g2 := F0 m 4 ls []) rfl ?_
  refine lv_aload_n A.1 A.2.1 dX10_init_4 rfl (lv_at hl 0 rfl) ?_
  refine lv_sipush (v := 160) A.1 A.2.1 dX10_init_5 (by decide) ?_
  refine qz_newa A (ad := th + 1) (by omega) (atype := .int) (ty := .int) rfl (List.mem_cons_of_mem _ za_int) (qm_tys_at g 1 (by omega) (by omega)) (fun q => q) (N := 160) (a0 := (160, .inl fun _ => 0)) rfl (by decide) (by decide) (Nat.le_of_ble_eq_true rfl) hh (Nat.le_of_ble_eq_true rfl) (Nat.le_of_ble_eq_true rfl) dX10_init_8 (fun H hh => ?_)
  have hh : qz_H (qm_D g) s.heap th [(th, .inr (10, [.null, .int 0])), (th + 1, .inl (qm_dA g 1, 160, .inl fun _ => 0))] _ 1 _ := hh
  refine W.widen (k := 1) (n := 160) (Nat.le_of_ble_eq_true rfl) (Nat.le_of_ble_eq_true rfl) ?_
  refine qz_putF A hin (ci := 10) (j := 0) (i := 0) (v := .ref (th + 1)) (by decide) (by decide) rfl (List.mem_cons_of_mem _ (qm_fld_ok pfRX10_ok 11 10 0 rfl).2) (by decide +kernel) rfl rfl rfl hh rfl (Or.inl rfl) dX10_init_10 (fun H locs hh => ?_)
  have hh : qz_H (qm_D g) s.heap th [(th, .inr (10, [.ref (th + 1), .int 0])), (th + 1, .inl (qm_dA g 1, 160, .inl fun _ => 0))] _ 1 _ := hh
  exact W.vret A.1 A.2.1 hr (fun t ht _ => ⟨rfl, by rw [ht]; exact ⟨hh.1, hh.2.1, hh.2.2.1, hh.2.2.2.1, fun _ q => by cases q⟩⟩) hh.2.2.2.2 dX10_init_13

def zW2 (g : qm_G) (th : Nat) : va_W := [(th, .inr (2, [.ref (th + 1), .ref (th + 2), .int 0, .int 0, .int 3])), (th + 1, .inl (qm_dA g 1, 6, .inl fun _ => 0)), (th + 2, .inl (qm_dA g 1, 8, .inl fun _ => 0))]
theorem zW2_ad (g : qm_G) (th : Nat) : ∀ y ∈ zW2 g th, th ≤ y.1 := by
  intro y hy
  simp only [zW2, List.mem_cons, List.not_mem_nil, or_false] at hy
  rcases hy with rfl | rfl | rfl <;> simp
theorem zj_X2 : Jvm.Cond.code yX2_init cX2_init 1 none ∈ qm_all := List.mem_filter.mpr ⟨by decide +kernel, rfl⟩
theorem zn_X2 : Jvm.Cond.instanceMethod yX2_init ∈ qm_all := List.mem_filter.mpr ⟨by decide +kernel, rfl⟩
theorem dX2_init_0 : decode cX2_init 0 = .ok (.aload_n 0, 1) := by decide +kernel
theorem dX2_init_1 : decode cX2_init 1 = .ok (.invokespecial 3, 3) := by decide +kernel
theorem dX2_init_4 : decode cX2_init 4 = .ok (.aload_n 0, 1) := by decide +kernel
theorem dX2_init_5 : decode cX2_init 5 = .ok (.bipush 6, 2) := by decide +kernel
theorem dX2_init_7 : decode cX2_init 7 = .ok (.newarray .int, 2) := by decide +kernel
theorem dX2_init_9 : decode cX2_init 9 = .ok (.putfield 11, 3) := by decide +kernel
theorem dX2_init_12 : decode cX2_init 12 = .ok (.aload_n 0, 1) := by decide +kernel
theorem dX2_init_13 : decode cX2_init 13 = .ok (.bipush 8, 2) := by decide +kernel
theorem dX2_init_15 : decode cX2_init 15 = .ok (.newarray .int, 2) := by decide +kernel
theorem dX2_init_17 : decode cX2_init 17 = .ok (.putfield 15, 3) := by decide +kernel
theorem dX2_init_20 : decode cX2_init 20 = .ok (.aload_n 0, 1) := by decide +kernel
theorem dX2_init_21 : decode cX2_init 21 = .ok (.iconst 3, 1) := by decide +kernel
theorem dX2_init_22 : decode cX2_init 22 = .ok (.putfield 18, 3) := by decide +kernel
theorem dX2_init_25 : decode cX2_init 25 = .ok (.return_, 1) := by decide +kernel
set_option maxRecDepth 100000 in
set_option maxHeartbeats 8000000 in
theorem zX2_init (l : Launch) (g : qm_G) (H0 : Heap) (th : Nat) (hsz : H0.size = th + 1) : Met l yX2_init (Jvm.Cond.code yX2_init cX2_init 1 none :: qm_all) ({ frames := 1, cells := 2, slots := 14, locals := 12 }) (qz_Pc g H0 th 2 [.ref th]) (qz_Qc g H0 th (zW2 g th) 2) 2 14 (qz_fr H0 th) := by
  refine va_MetF (cc := cX2_init) (maxL := 1) (ret := none) (plainFor_of_name (by decide)) rfl ?_
  intro p e s m args below meth c s₁ B hml hv
  obtain ⟨rfl, rfl, hat, hK, hN⟩ := hv
  have hts := atoms_spec (ws := Jvm.Cond.code yX2_init cX2_init 1 none :: qm_all) B.pre
  have tsa : ∀ w ∈ qm_all, w.before _ s = true := fun w hw => hts w (List.mem_cons_of_mem _ hw)
  have A : qz_At p s m _ c cX2_init (qm_D g) (qm_tys g) RX2 (Jvm.Cond.code yX2_init cX2_init 1 none :: qm_all) := ⟨B.exec, B.bytes, findClass_of_methodNamed B.named, hts, hK, fun cl hcl w hw => List.mem_cons_of_mem _ (qm_u_in cl hcl w hw)⟩
  have hr := B.returns
  have hlocks := B.notSynchronized
  have hin : meth.name = "<init>" := (name_of_methodNamed B.named B.method).1
  have hh : qz_H (qm_D g) s.heap th [(th, .inr (2, [.null, .null, .int 0, .int 0, .int 0]))] s.heap 0 [] := qz_H0 hat
  have hl := lv_entry ([.ref th]) (n := 1) (Nat.le_of_ble_eq_true rfl)
  rw [lg_entry_eq]
  generalize (lg_sl ([.ref th]) ++ List.replicate (1 - (lg_sl ([.ref th])).length) Slot.unset).toArray = ls at hl ⊢
  have hl : lv_has ls 1 [(0, .ref (th))] := hl
  refine lv_aload_n A.1 A.2.1 dX2_init_0 rfl (lv_at hl 0 rfl) ?_
  refine W.objInit A.1 A.2.1 A.2.2.1 (tsa _ zo_RX2) (tsa _ zo_inst) (tsa _ zo_code) rfl (by rw [hml]; exact hl.1) rfl dX2_init_1 (Nat.le_of_ble_eq_true rfl) (Nat.le_of_ble_eq_true rfl) ?_
  refine W.eq (g2 := F0 m 4 ls []) rfl ?_
  refine lv_aload_n A.1 A.2.1 dX2_init_4 rfl (lv_at hl 0 rfl) ?_
  refine lv_bipush (v := 6) A.1 A.2.1 dX2_init_5 (by decide) ?_
  refine qz_newa A (ad := th + 1) (by omega) (atype := .int) (ty := .int) rfl (List.mem_cons_of_mem _ za_int) (qm_tys_at g 1 (by omega) (by omega)) (fun q => q) (N := 6) (a0 := (6, .inl fun _ => 0)) rfl (by decide) (by decide) (Nat.le_of_ble_eq_true rfl) hh (Nat.le_of_ble_eq_true rfl) (Nat.le_of_ble_eq_true rfl) dX2_init_7 (fun H hh => ?_)
  have hh : qz_H (qm_D g) s.heap th [(th, .inr (2, [.null, .null, .int 0, .int 0, .int 0])), (th + 1, .inl (qm_dA g 1, 6, .inl fun _ => 0))] _ 1 _ := hh
  refine W.widen (k := 1) (n := 6) (Nat.le_of_ble_eq_true rfl) (Nat.le_of_ble_eq_true rfl) ?_
  refine qz_putF A hin (ci := 2) (j := 0) (i := 0) (v := .ref (th + 1)) (by decide) (by decide) rfl (List.mem_cons_of_mem _ (qm_fld_ok pfRX2_ok 11 2 0 rfl).2) (by decide +kernel) rfl rfl rfl hh rfl (Or.inl rfl) dX2_init_9 (fun H locs hh => ?_)
  have hh : qz_H (qm_D g) s.heap th [(th, .inr (2, [.ref (th + 1), .null, .int 0, .int 0, .int 0])), (th + 1, .inl (qm_dA g 1, 6, .inl fun _ => 0))] _ 1 _ := hh
  refine lv_aload_n A.1 A.2.1 dX2_init_12 rfl (lv_at hl 0 rfl) ?_
  refine lv_bipush (v := 8) A.1 A.2.1 dX2_init_13 (by decide) ?_
  refine qz_newa A (ad := th + 2) (by omega) (atype := .int) (ty := .int) rfl (List.mem_cons_of_mem _ za_int) (qm_tys_at g 1 (by omega) (by omega)) (fun q => q) (N := 8) (a0 := (8, .inl fun _ => 0)) rfl (by decide) (by decide) (Nat.le_of_ble_eq_true rfl) hh (Nat.le_of_ble_eq_true rfl) (Nat.le_of_ble_eq_true rfl) dX2_init_15 (fun H hh => ?_)
  have hh : qz_H (qm_D g) s.heap th [(th, .inr (2, [.ref (th + 1), .null, .int 0, .int 0, .int 0])), (th + 1, .inl (qm_dA g 1, 6, .inl fun _ => 0)), (th + 2, .inl (qm_dA g 1, 8, .inl fun _ => 0))] _ 2 _ := hh
  refine W.widen (k := 2) (n := 14) (Nat.le_of_ble_eq_true rfl) (Nat.le_of_ble_eq_true rfl) ?_
  refine qz_putF A hin (ci := 2) (j := 1) (i := 0) (v := .ref (th + 2)) (by decide) (by decide) rfl (List.mem_cons_of_mem _ (qm_fld_ok pfRX2_ok 15 2 1 rfl).2) (by decide +kernel) rfl rfl rfl hh rfl (Or.inl rfl) dX2_init_17 (fun H locs hh => ?_)
  have hh : qz_H (qm_D g) s.heap th [(th, .inr (2, [.ref (th + 1), .ref (th + 2), .int 0, .int 0, .int 0])), (th + 1, .inl (qm_dA g 1, 6, .inl fun _ => 0)), (th + 2, .inl (qm_dA g 1, 8, .inl fun _ => 0))] _ 2 _ := hh
  refine lv_aload_n A.1 A.2.1 dX2_init_20 rfl (lv_at hl 0 rfl) ?_
  refine lv_iconst (v := 3) A.1 A.2.1 dX2_init_21 (by decide) ?_
  refine qz_put A (ci := 2) (j := 4) (i := 0) (v := .int 3) (by decide) (by decide) rfl (List.mem_cons_of_mem _ (qm_fld_ok pfRX2_ok 18 2 4 rfl).2) (by decide +kernel) rfl rfl hh rfl (Or.inl rfl) dX2_init_22 (fun H locs hh => ?_)
  have hh : qz_H (qm_D g) s.heap th [(th, .inr (2, [.ref (th + 1), .ref (th + 2), .int 0, .int 0, .int 3])), (th + 1, .inl (qm_dA g 1, 6, .inl fun _ => 0)), (th + 2, .inl (qm_dA g 1, 8, .inl fun _ => 0))] _ 2 _ := hh
  exact W.vret A.1 A.2.1 hr (fun t ht _ => ⟨rfl, by rw [ht]; exact ⟨hh.1, hh.2.1, hh.2.2.1, hh.2.2.2.1, fun _ q => by cases q⟩⟩) hh.2.2.2.2 dX2_init_25

def zW1 (g : qm_G) (th : Nat) : va_W := [(th, .inr (1, [.ref (th + 1), .int 6, .int 6, .int 0])), (th + 1, .inl (qm_dA g 1, 30, .inl fun _ => 0))]
theorem zW1_ad (g : qm_G) (th : Nat) : ∀ y ∈ zW1 g th, th ≤ y.1 := by
  intro y hy
  simp only [zW1, List.mem_cons, List.not_mem_nil, or_false] at hy
  rcases hy with rfl | rfl <;> simp
theorem zj_X1 : Jvm.Cond.code yX1_init cX1_init 1 none ∈ qm_all := List.mem_filter.mpr ⟨by decide +kernel, rfl⟩
theorem zn_X1 : Jvm.Cond.instanceMethod yX1_init ∈ qm_all := List.mem_filter.mpr ⟨by decide +kernel, rfl⟩
theorem dX1_init_0 : decode cX1_init 0 = .ok (.aload_n 0, 1) := by decide +kernel
theorem dX1_init_1 : decode cX1_init 1 = .ok (.invokespecial 3, 3) := by decide +kernel
theorem dX1_init_4 : decode cX1_init 4 = .ok (.aload_n 0, 1) := by decide +kernel
theorem dX1_init_5 : decode cX1_init 5 = .ok (.bipush 30, 2) := by decide +kernel
theorem dX1_init_7 : decode cX1_init 7 = .ok (.newarray .int, 2) := by decide +kernel
theorem dX1_init_9 : decode cX1_init 9 = .ok (.putfield 11, 3) := by decide +kernel
theorem dX1_init_12 : decode cX1_init 12 = .ok (.aload_n 0, 1) := by decide +kernel
theorem dX1_init_13 : decode cX1_init 13 = .ok (.bipush 6, 2) := by decide +kernel
theorem dX1_init_15 : decode cX1_init 15 = .ok (.putfield 17, 3) := by decide +kernel
theorem dX1_init_18 : decode cX1_init 18 = .ok (.aload_n 0, 1) := by decide +kernel
theorem dX1_init_19 : decode cX1_init 19 = .ok (.bipush 6, 2) := by decide +kernel
theorem dX1_init_21 : decode cX1_init 21 = .ok (.putfield 21, 3) := by decide +kernel
theorem dX1_init_24 : decode cX1_init 24 = .ok (.return_, 1) := by decide +kernel
set_option maxRecDepth 100000 in
set_option maxHeartbeats 8000000 in
theorem zX1_init (l : Launch) (g : qm_G) (H0 : Heap) (th : Nat) (hsz : H0.size = th + 1) : Met l yX1_init (Jvm.Cond.code yX1_init cX1_init 1 none :: qm_all) ({ frames := 1, cells := 1, slots := 30, locals := 12 }) (qz_Pc g H0 th 1 [.ref th]) (qz_Qc g H0 th (zW1 g th) 1) 1 30 (qz_fr H0 th) := by
  refine va_MetF (cc := cX1_init) (maxL := 1) (ret := none) (plainFor_of_name (by decide)) rfl ?_
  intro p e s m args below meth c s₁ B hml hv
  obtain ⟨rfl, rfl, hat, hK, hN⟩ := hv
  have hts := atoms_spec (ws := Jvm.Cond.code yX1_init cX1_init 1 none :: qm_all) B.pre
  have tsa : ∀ w ∈ qm_all, w.before _ s = true := fun w hw => hts w (List.mem_cons_of_mem _ hw)
  have A : qz_At p s m _ c cX1_init (qm_D g) (qm_tys g) RX1 (Jvm.Cond.code yX1_init cX1_init 1 none :: qm_all) := ⟨B.exec, B.bytes, findClass_of_methodNamed B.named, hts, hK, fun cl hcl w hw => List.mem_cons_of_mem _ (qm_u_in cl hcl w hw)⟩
  have hr := B.returns
  have hlocks := B.notSynchronized
  have hin : meth.name = "<init>" := (name_of_methodNamed B.named B.method).1
  have hh : qz_H (qm_D g) s.heap th [(th, .inr (1, [.null, .int 0, .int 0, .int 0]))] s.heap 0 [] := qz_H0 hat
  have hl := lv_entry ([.ref th]) (n := 1) (Nat.le_of_ble_eq_true rfl)
  rw [lg_entry_eq]
  generalize (lg_sl ([.ref th]) ++ List.replicate (1 - (lg_sl ([.ref th])).length) Slot.unset).toArray = ls at hl ⊢
  have hl : lv_has ls 1 [(0, .ref (th))] := hl
  refine lv_aload_n A.1 A.2.1 dX1_init_0 rfl (lv_at hl 0 rfl) ?_
  refine W.objInit A.1 A.2.1 A.2.2.1 (tsa _ zo_RX1) (tsa _ zo_inst) (tsa _ zo_code) rfl (by rw [hml]; exact hl.1) rfl dX1_init_1 (Nat.le_of_ble_eq_true rfl) (Nat.le_of_ble_eq_true rfl) ?_
  refine W.eq (g2 := F0 m 4 ls []) rfl ?_
  refine lv_aload_n A.1 A.2.1 dX1_init_4 rfl (lv_at hl 0 rfl) ?_
  refine lv_bipush (v := 30) A.1 A.2.1 dX1_init_5 (by decide) ?_
  refine qz_newa A (ad := th + 1) (by omega) (atype := .int) (ty := .int) rfl (List.mem_cons_of_mem _ za_int) (qm_tys_at g 1 (by omega) (by omega)) (fun q => q) (N := 30) (a0 := (30, .inl fun _ => 0)) rfl (by decide) (by decide) (Nat.le_of_ble_eq_true rfl) hh (Nat.le_of_ble_eq_true rfl) (Nat.le_of_ble_eq_true rfl) dX1_init_7 (fun H hh => ?_)
  have hh : qz_H (qm_D g) s.heap th [(th, .inr (1, [.null, .int 0, .int 0, .int 0])), (th + 1, .inl (qm_dA g 1, 30, .inl fun _ => 0))] _ 1 _ := hh
  refine W.widen (k := 1) (n := 30) (Nat.le_of_ble_eq_true rfl) (Nat.le_of_ble_eq_true rfl) ?_
  refine qz_putF A hin (ci := 1) (j := 0) (i := 0) (v := .ref (th + 1)) (by decide) (by decide) rfl (List.mem_cons_of_mem _ (qm_fld_ok pfRX1_ok 11 1 0 rfl).2) (by decide +kernel) rfl rfl rfl hh rfl (Or.inl rfl) dX1_init_9 (fun H locs hh => ?_)
  have hh : qz_H (qm_D g) s.heap th [(th, .inr (1, [.ref (th + 1), .int 0, .int 0, .int 0])), (th + 1, .inl (qm_dA g 1, 30, .inl fun _ => 0))] _ 1 _ := hh
  refine lv_aload_n A.1 A.2.1 dX1_init_12 rfl (lv_at hl 0 rfl) ?_
  refine lv_bipush (v := 6) A.1 A.2.1 dX1_init_13 (by decide) ?_
  refine qz_put A (ci := 1) (j := 1) (i := 0) (v := .int 6) (by decide) (by decide) rfl (List.mem_cons_of_mem _ (qm_fld_ok pfRX1_ok 17 1 1 rfl).2) (by decide +kernel) rfl rfl hh rfl (Or.inl rfl) dX1_init_15 (fun H locs hh => ?_)
  have hh : qz_H (qm_D g) s.heap th [(th, .inr (1, [.ref (th + 1), .int 6, .int 0, .int 0])), (th + 1, .inl (qm_dA g 1, 30, .inl fun _ => 0))] _ 1 _ := hh
  refine lv_aload_n A.1 A.2.1 dX1_init_18 rfl (lv_at hl 0 rfl) ?_
  refine lv_bipush (v := 6) A.1 A.2.1 dX1_init_19 (by decide) ?_
  refine qz_put A (ci := 1) (j := 2) (i := 0) (v := .int 6) (by decide) (by decide) rfl (List.mem_cons_of_mem _ (qm_fld_ok pfRX1_ok 21 1 2 rfl).2) (by decide +kernel) rfl rfl hh rfl (Or.inl rfl) dX1_init_21 (fun H locs hh => ?_)
  have hh : qz_H (qm_D g) s.heap th [(th, .inr (1, [.ref (th + 1), .int 6, .int 6, .int 0])), (th + 1, .inl (qm_dA g 1, 30, .inl fun _ => 0))] _ 1 _ := hh
  exact W.vret A.1 A.2.1 hr (fun t ht _ => ⟨rfl, by rw [ht]; exact ⟨hh.1, hh.2.1, hh.2.2.1, hh.2.2.2.1, fun _ q => by cases q⟩⟩) hh.2.2.2.2 dX1_init_24

