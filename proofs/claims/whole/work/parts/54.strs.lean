/-! THE LAW'S START. -/
theorem kl_9 : Jvm.Cond.methodLink R_law 9 yX11_init ∈ qm_all := List.mem_filter.mpr ⟨by decide +kernel, rfl⟩
theorem kl_12 : Jvm.Cond.methodLink R_law 12 yX12_init ∈ qm_all := List.mem_filter.mpr ⟨by decide +kernel, rfl⟩
theorem cl_7 : Jvm.Cond.classLink R_law 7 RX11 ∈ lw_tbl := by decide +kernel
theorem cl_10 : Jvm.Cond.classLink R_law 10 RX12 ∈ lw_tbl := by decide +kernel
theorem qs_inst : ∀ ci, ci < 13 → Jvm.Cond.instantiable (qm_R ci) (qm_nf ci) ∈ lw_tbl := by
  intro ci h
  exact match ci, h with
  | 0, _ => (qm_all_in zi_RX0).1
  | 1, _ => (qm_all_in zi_RX1).1
  | 2, _ => (qm_all_in zi_RX2).1
  | 3, _ => (qm_all_in zi_RX3).1
  | 4, _ => (qm_all_in zi_RX4).1
  | 5, _ => (qm_all_in zi_RX5).1
  | 6, _ => (qm_all_in zi_RX6).1
  | 7, _ => (qm_all_in zi_RX7).1
  | 8, _ => (qm_all_in zi_RX8).1
  | 9, _ => (qm_all_in zi_RX9).1
  | 10, _ => (qm_all_in zi_RX10).1
  | 11, _ => (qm_all_in zi_RX11).1
  | 12, _ => (qm_all_in zi_RX12).1
  | ci + 13, h => absurd h (by omega)
theorem qs_nest : ∀ w ∈ qz_nest, w ∈ lw_tbl ∧ w.onTables = true := by decide +kernel
theorem qs_over : ∀ C ∈ [RX0, RX1, RX2, RX9, RX10], Jvm.Cond.arrayOver (.object C) ∈ lw_tbl := by decide +kernel
theorem qs_prim : Jvm.Cond.arrayClass .int ∈ lw_tbl ∧ Jvm.Cond.arrayClass .byte ∈ lw_tbl ∧ Jvm.Cond.arrayClass .boolean ∈ lw_tbl ∧ Jvm.Cond.arrayClass .long ∈ lw_tbl := by decide +kernel
def qs_fl : List Jvm.Cond := flatC (Jvm.Cond.and given_1 narrow_1)
theorem qs_str1 : ∀ i, i < 16 → Jvm.Cond.exactly (.string RX3 (qm_sx i)) "java/lang/String" ∈ qs_fl ∧ Jvm.Cond.eq (.field (.string RX3 (qm_sx i)) "java/lang/String" "coder" "B") (.int 0) ∈ qs_fl ∧ Jvm.Cond.arrayOf (.field (.string RX3 (qm_sx i)) "java/lang/String" "value" "[B") .byte ∈ qs_fl ∧ Jvm.Cond.eq (.length (.field (.string RX3 (qm_sx i)) "java/lang/String" "value" "[B")) (.int (Int32.ofNat (qm_slen.getD i 0))) ∈ qs_fl := by decide +kernel
theorem qs_str2 : ∀ i, i < 16 → ∀ j, j < qm_slen.getD i 0 → Jvm.Cond.eq (.elem (.field (.string RX3 (qm_sx i)) "java/lang/String" "value" "[B") (.int (Int32.ofNat j))) (.int ((qm_sbyt.getD i []).getD j 0)) ∈ qs_fl := by decide +kernel
def qs_ne : List Jvm.Cond := (List.range 16).flatMap fun j => (List.range j).map fun i => Jvm.Cond.not (.eq (.string RX3 (qm_sx i)) (.string RX3 (qm_sx j)))
def qs_isne (c : Jvm.Cond) : Bool := match c with
  | .not (.eq (.string _ _) (.string _ _)) => true
  | _ => false
theorem qs_ne_eq : qs_fl.filter qs_isne = qs_ne := by decide +kernel
theorem qs_str3a (i j : Nat) (hj : j < 16) (h : i < j) : Jvm.Cond.not (.eq (.string RX3 (qm_sx i)) (.string RX3 (qm_sx j))) ∈ qs_fl := by
  have h1 : Jvm.Cond.not (.eq (.string RX3 (qm_sx i)) (.string RX3 (qm_sx j))) ∈ qs_ne := List.mem_flatMap.mpr ⟨j, List.mem_range.mpr hj, List.mem_map.mpr ⟨i, List.mem_range.mpr h, rfl⟩⟩
  rw [← qs_ne_eq] at h1
  exact (List.mem_filter.mp h1).1
theorem qs_str3 (i : Nat) (hi : i < 16) (j : Nat) (hj : j < 16) (h : i ≠ j) : Jvm.Cond.not (.eq (.string RX3 (qm_sx i)) (.string RX3 (qm_sx j))) ∈ qs_fl ∨ Jvm.Cond.not (.eq (.string RX3 (qm_sx j)) (.string RX3 (qm_sx i))) ∈ qs_fl := by
  by_cases hlt : i < j
  · exact Or.inl (qs_str3a i j hj hlt)
  · exact Or.inr (qs_str3a j i hi (by omega))
theorem qs_str4 : ∀ i, i < 16 → Jvm.Cond.stringRef RX3 (qm_sx i) (qm_stx i) ∈ lw_tbl := by decide +kernel
theorem qs_stat : Jvm.Cond.laysStatic "java/lang/String" "COMPACT_STRINGS" "Z" ∈ lw_tbl ∧ Jvm.Cond.initialized "java/lang/String" ∈ lw_tbl ∧ Jvm.Cond.laysStatic "jdk/internal/util/Preconditions" "SIOOBE_FORMATTER" "Ljava/util/function/BiFunction;" ∈ lw_tbl ∧ Jvm.Cond.initialized "jdk/internal/util/Preconditions" ∈ lw_tbl := by decide +kernel
theorem qs_stat2 : Jvm.Cond.eq (.static "java/lang/String" "COMPACT_STRINGS" "Z") (.int 1) ∈ qs_fl ∧ Jvm.Cond.isRef (.static "jdk/internal/util/Preconditions" "SIOOBE_FORMATTER" "Ljava/util/function/BiFunction;") ∈ qs_fl := by decide +kernel
