/-! THE STRING CONSTANTS' length() and charAt(k): the JDK's own code, walked. -/
def wJ0_length_8abf5 : qm_C := fun vs h => match vs with
  | [.inr (.inr (some (10, k, 0)))] => (qJ0_length_8abf5 k h).map qm_Gi
  | _ => none
def wJ0_charAt_5068e : qm_C := fun vs h => match vs with
  | [.inr (.inr (some (10, k, 0))), .inl x] => (qJ0_charAt_5068e k x h).map qm_Gi
  | _ => none
theorem qm_keep {g : qm_G} {h : qm_H} {H : Heap} {s : State} (hH : qm_HR g h H) (hS : qm_SR g s) : ∀ a : Nat, a < (qm_H0 g).size → ¬ qm_free g a → H[a]? = (qm_H0 g)[a]? := fun a _ hA => hH.2.1 a (by unfold qm_free at hA; omega)
abbrev qm_wsc (y : MethodName) (cc : ByteArray) (maxL : Nat) (ret : Option FieldType) : List Jvm.Cond := Jvm.Cond.code y cc maxL ret :: qm_all
/-- what holds at a String method's entry: the constants' cells in the heap that is there now -/
def qm_SH (g : qm_G) (adV : Nat → Nat) (U : State) : Prop := vk_S 16 qm_slen qm_sbyt (qm_aS g) adV (qm_free g) U U.heap ∧ va_Z "java/lang/String" "COMPACT_STRINGS" "Z" (.int 1) (qm_free g) U U.heap ∧ va_Zq "jdk/internal/util/Preconditions" "SIOOBE_FORMATTER" "Ljava/util/function/BiFunction;" (qm_free g) U U.heap
theorem qm_SH.blind {g : qm_G} {adV : Nat → Nat} (av : List Value) (H0 : Heap) : FrameBlind (va_Pc av fun U => qm_SH g adV U ∧ U.heap = H0) := by
  intro a U fr mk q
  obtain ⟨q0, ⟨q1, q2, q3⟩, q4⟩ := q
  have ha : U.vm.Alike (U.calling fr mk a).vm := Vm.Alike.refl U.vm
  exact ⟨q0, ⟨q1.moved ha, q2.moved ha, q3.moved ha⟩, q4⟩
theorem qm_SH.warm {g : qm_G} {adV : Nat → Nat} {s U : State} (hW : s.WarmedH U.vm) (hh : U.heap = s.heap) (h : qm_SH g adV s) : qm_SH g adV U := by
  obtain ⟨q1, q2, q3⟩ := h
  refine ⟨?_, ?_, ?_⟩
  · rw [hh]; exact q1.moved hW.alike
  · rw [hh]; exact q2.moved hW.alike
  · rw [hh]; exact q3.moved hW.alike
/-- an answer, and the heap as it was -/
def qm_Qh (r : Option Value) (H0 : Heap) : Array Value → State → Outcome → State → Prop := fun _ _ oc t => oc = .returned r ∧ t.heap = H0
section QZ
variable {p : Program} {l : Launch} {e : Env} {R : Room} {s : State} {m : MethodId} {args : Array Value} {below : List Frame} {meth : Method} {c : Code} {Q : State → Prop} {H : Heap} {g : qm_G}
theorem qm_afterh {rest : List Value} {a : Array Value} {r : Option Value} {pc : Nat} {ls : Array Slot} {st : List Value} (hr : va_Run p l e R s m args below meth c H [] 0 0 0 0 (F0 m pc ls st) rest (qm_Qh r H a) (fun _ => False))
    (kk : W p l e R s m args below meth c H [] 0 0 Q (F0 m (pc + 3) ls (r.toList ++ rest))) : W p l e R s m args below meth c H [] 0 0 Q (F0 m pc ls st) := by
  intro T hT X
  obtain ⟨v, st₀, t, T', L, h0, X', hL, e1, e2, ⟨hv, hH⟩, st⟩ := hr T hT X
  have hv' : v = r := Outcome.returned.inj hv
  subst hv'
  have hLe : L = [] := by
    cases L with
    | nil => rfl
    | cons q L => exact (hL q List.mem_cons_self).elim
  subst hLe
  obtain ⟨t2, a1, b1⟩ := kk T' (by rw [e1, hH]) X'
  exact ⟨t2, st t2 a1, b1⟩
end QZ
theorem qm_MQ_mono {below : List Frame} {Qc Qd : Array Value → State → Outcome → State → Prop} {a : Array Value} {s : State} {f1 f2 : Addr → Prop} (hq : ∀ a s o t, Qc a s o t → Qd a s o t) (hf : ∀ q, f1 q → f2 q) (t : State) (h : MQ below Qc a s 0 0 f1 t) : MQ below Qd a s 0 0 f2 t := by
  obtain ⟨o, h1, h2, h3, L, h4, h5⟩ := h
  exact ⟨o, h1, h2, hq _ _ _ _ h3, L, h4, fun q hq => hf _ (h5 q hq)⟩
theorem dJ0_length_8abf5_0 : decode cJ0_length_8abf5 0 = .ok (.aload_n 0, 1) := by decide +kernel
theorem dJ0_length_8abf5_1 : decode cJ0_length_8abf5 1 = .ok (.getfield 9, 3) := by decide +kernel
theorem dJ0_length_8abf5_4 : decode cJ0_length_8abf5 4 = .ok (.arraylength, 1) := by decide +kernel
theorem dJ0_length_8abf5_5 : decode cJ0_length_8abf5 5 = .ok (.aload_n 0, 1) := by decide +kernel
theorem dJ0_length_8abf5_6 : decode cJ0_length_8abf5 6 = .ok (.invokevirtual 335, 3) := by decide +kernel
theorem dJ0_length_8abf5_9 : decode cJ0_length_8abf5 9 = .ok (.ishr, 1) := by decide +kernel
theorem dJ0_length_8abf5_10 : decode cJ0_length_8abf5 10 = .ok (.ireturn, 1) := by decide +kernel
theorem dJ0_charAt_5068e_0 : decode cJ0_charAt_5068e 0 = .ok (.aload_n 0, 1) := by decide +kernel
theorem dJ0_charAt_5068e_1 : decode cJ0_charAt_5068e 1 = .ok (.invokevirtual 492, 3) := by decide +kernel
theorem dJ0_charAt_5068e_4 : decode cJ0_charAt_5068e 4 = .ok (.ifCond .eq 12, 3) := by decide +kernel
theorem dJ0_charAt_5068e_7 : decode cJ0_charAt_5068e 7 = .ok (.aload_n 0, 1) := by decide +kernel
theorem dJ0_charAt_5068e_8 : decode cJ0_charAt_5068e 8 = .ok (.getfield 9, 3) := by decide +kernel
theorem dJ0_charAt_5068e_11 : decode cJ0_charAt_5068e 11 = .ok (.iload_n 1, 1) := by decide +kernel
theorem dJ0_charAt_5068e_12 : decode cJ0_charAt_5068e 12 = .ok (.invokestatic 495, 3) := by decide +kernel
theorem dJ0_charAt_5068e_15 : decode cJ0_charAt_5068e 15 = .ok (.ireturn, 1) := by decide +kernel
theorem dJ0_charAt_5068e_16 : decode cJ0_charAt_5068e 16 = .ok (.aload_n 0, 1) := by decide +kernel
theorem dJ0_charAt_5068e_17 : decode cJ0_charAt_5068e 17 = .ok (.getfield 9, 3) := by decide +kernel
theorem dJ0_charAt_5068e_20 : decode cJ0_charAt_5068e 20 = .ok (.iload_n 1, 1) := by decide +kernel
theorem dJ0_charAt_5068e_21 : decode cJ0_charAt_5068e 21 = .ok (.invokestatic 498, 3) := by decide +kernel
theorem dJ0_charAt_5068e_24 : decode cJ0_charAt_5068e 24 = .ok (.ireturn, 1) := by decide +kernel
theorem dJ0_coder_7d493_0 : decode cJ0_coder_7d493 0 = .ok (.getstatic 38, 3) := by decide +kernel
theorem dJ0_coder_7d493_3 : decode cJ0_coder_7d493 3 = .ok (.ifCond .eq 10, 3) := by decide +kernel
theorem dJ0_coder_7d493_6 : decode cJ0_coder_7d493 6 = .ok (.aload_n 0, 1) := by decide +kernel
theorem dJ0_coder_7d493_7 : decode cJ0_coder_7d493 7 = .ok (.getfield 15, 3) := by decide +kernel
theorem dJ0_coder_7d493_10 : decode cJ0_coder_7d493 10 = .ok (.goto 4, 3) := by decide +kernel
theorem dJ0_coder_7d493_13 : decode cJ0_coder_7d493 13 = .ok (.iconst 1, 1) := by decide +kernel
theorem dJ0_coder_7d493_14 : decode cJ0_coder_7d493 14 = .ok (.ireturn, 1) := by decide +kernel
theorem dJ0_isLatin1_aae02_0 : decode cJ0_isLatin1_aae02 0 = .ok (.getstatic 38, 3) := by decide +kernel
theorem dJ0_isLatin1_aae02_3 : decode cJ0_isLatin1_aae02 3 = .ok (.ifCond .eq 14, 3) := by decide +kernel
theorem dJ0_isLatin1_aae02_6 : decode cJ0_isLatin1_aae02 6 = .ok (.aload_n 0, 1) := by decide +kernel
theorem dJ0_isLatin1_aae02_7 : decode cJ0_isLatin1_aae02 7 = .ok (.getfield 15, 3) := by decide +kernel
theorem dJ0_isLatin1_aae02_10 : decode cJ0_isLatin1_aae02 10 = .ok (.ifCond .ne 7, 3) := by decide +kernel
theorem dJ0_isLatin1_aae02_13 : decode cJ0_isLatin1_aae02 13 = .ok (.iconst 1, 1) := by decide +kernel
theorem dJ0_isLatin1_aae02_14 : decode cJ0_isLatin1_aae02 14 = .ok (.goto 4, 3) := by decide +kernel
theorem dJ0_isLatin1_aae02_17 : decode cJ0_isLatin1_aae02 17 = .ok (.iconst 0, 1) := by decide +kernel
theorem dJ0_isLatin1_aae02_18 : decode cJ0_isLatin1_aae02 18 = .ok (.ireturn, 1) := by decide +kernel
theorem dJ0_checkIndex_df160_0 : decode cJ0_checkIndex_df160 0 = .ok (.iload_n 0, 1) := by decide +kernel
theorem dJ0_checkIndex_df160_1 : decode cJ0_checkIndex_df160 1 = .ok (.iload_n 1, 1) := by decide +kernel
theorem dJ0_checkIndex_df160_2 : decode cJ0_checkIndex_df160 2 = .ok (.getstatic 1053, 3) := by decide +kernel
theorem dJ0_checkIndex_df160_5 : decode cJ0_checkIndex_df160 5 = .ok (.invokestatic 1059, 3) := by decide +kernel
theorem dJ0_checkIndex_df160_8 : decode cJ0_checkIndex_df160 8 = .ok (.pop, 1) := by decide +kernel
theorem dJ0_checkIndex_df160_9 : decode cJ0_checkIndex_df160 9 = .ok (.return_, 1) := by decide +kernel
theorem dJ1_charAt_3b067_0 : decode cJ1_charAt_3b067 0 = .ok (.iload_n 1, 1) := by decide +kernel
theorem dJ1_charAt_3b067_1 : decode cJ1_charAt_3b067 1 = .ok (.aload_n 0, 1) := by decide +kernel
theorem dJ1_charAt_3b067_2 : decode cJ1_charAt_3b067 2 = .ok (.arraylength, 1) := by decide +kernel
theorem dJ1_charAt_3b067_3 : decode cJ1_charAt_3b067 3 = .ok (.invokestatic 9, 3) := by decide +kernel
theorem dJ1_charAt_3b067_6 : decode cJ1_charAt_3b067 6 = .ok (.aload_n 0, 1) := by decide +kernel
theorem dJ1_charAt_3b067_7 : decode cJ1_charAt_3b067 7 = .ok (.iload_n 1, 1) := by decide +kernel
theorem dJ1_charAt_3b067_8 : decode cJ1_charAt_3b067 8 = .ok (.baload, 1) := by decide +kernel
theorem dJ1_charAt_3b067_9 : decode cJ1_charAt_3b067 9 = .ok (.sipush 255, 3) := by decide +kernel
theorem dJ1_charAt_3b067_12 : decode cJ1_charAt_3b067 12 = .ok (.iand, 1) := by decide +kernel
theorem dJ1_charAt_3b067_13 : decode cJ1_charAt_3b067 13 = .ok (.i2c, 1) := by decide +kernel
theorem dJ1_charAt_3b067_14 : decode cJ1_charAt_3b067 14 = .ok (.ireturn, 1) := by decide +kernel
theorem dJ3_checkIndex_8e157_0 : decode cJ3_checkIndex_8e157 0 = .ok (.iload_n 0, 1) := by decide +kernel
theorem dJ3_checkIndex_8e157_1 : decode cJ3_checkIndex_8e157 1 = .ok (.ifCond .lt 8, 3) := by decide +kernel
theorem dJ3_checkIndex_8e157_4 : decode cJ3_checkIndex_8e157 4 = .ok (.iload_n 0, 1) := by decide +kernel
theorem dJ3_checkIndex_8e157_5 : decode cJ3_checkIndex_8e157 5 = .ok (.iload_n 1, 1) := by decide +kernel
theorem dJ3_checkIndex_8e157_6 : decode cJ3_checkIndex_8e157 6 = .ok (.if_icmp .lt 10, 3) := by decide +kernel
theorem dJ3_checkIndex_8e157_9 : decode cJ3_checkIndex_8e157 9 = .ok (.aload_n 2, 1) := by decide +kernel
theorem dJ3_checkIndex_8e157_10 : decode cJ3_checkIndex_8e157 10 = .ok (.iload_n 0, 1) := by decide +kernel
theorem dJ3_checkIndex_8e157_11 : decode cJ3_checkIndex_8e157 11 = .ok (.iload_n 1, 1) := by decide +kernel
theorem dJ3_checkIndex_8e157_12 : decode cJ3_checkIndex_8e157 12 = .ok (.invokestatic 95, 3) := by decide +kernel
theorem dJ3_checkIndex_8e157_15 : decode cJ3_checkIndex_8e157 15 = .ok (.athrow, 1) := by decide +kernel
theorem dJ3_checkIndex_8e157_16 : decode cJ3_checkIndex_8e157 16 = .ok (.iload_n 0, 1) := by decide +kernel
theorem dJ3_checkIndex_8e157_17 : decode cJ3_checkIndex_8e157 17 = .ok (.ireturn, 1) := by decide +kernel
theorem zf38 : (Jvm.Cond.fieldLink RJ0 38 "java/lang/String" "COMPACT_STRINGS" "Z" : Jvm.Cond) ∈ qm_all := List.mem_filter.mpr ⟨by decide +kernel, rfl⟩
theorem zf15 : (Jvm.Cond.fieldLink RJ0 15 "java/lang/String" "coder" "B" : Jvm.Cond) ∈ qm_all := List.mem_filter.mpr ⟨by decide +kernel, rfl⟩
theorem zf9 : (Jvm.Cond.fieldLink RJ0 9 "java/lang/String" "value" "[B" : Jvm.Cond) ∈ qm_all := List.mem_filter.mpr ⟨by decide +kernel, rfl⟩
theorem zf1053 : (Jvm.Cond.fieldLink RJ0 1053 "jdk/internal/util/Preconditions" "SIOOBE_FORMATTER" "Ljava/util/function/BiFunction;" : Jvm.Cond) ∈ qm_all := List.mem_filter.mpr ⟨by decide +kernel, rfl⟩
theorem zm335 : (Jvm.Cond.methodLink RJ0 335 yJ0_coder_7d493 : Jvm.Cond) ∈ qm_all := List.mem_filter.mpr ⟨by decide +kernel, rfl⟩
theorem zm492 : (Jvm.Cond.methodLink RJ0 492 yJ0_isLatin1_aae02 : Jvm.Cond) ∈ qm_all := List.mem_filter.mpr ⟨by decide +kernel, rfl⟩
theorem zm495 : (Jvm.Cond.methodLink RJ0 495 yJ1_charAt_3b067 : Jvm.Cond) ∈ qm_all := List.mem_filter.mpr ⟨by decide +kernel, rfl⟩
theorem zm9 : (Jvm.Cond.methodLink RJ1 9 yJ0_checkIndex_df160 : Jvm.Cond) ∈ qm_all := List.mem_filter.mpr ⟨by decide +kernel, rfl⟩
theorem zm1059 : (Jvm.Cond.methodLink RJ0 1059 yJ3_checkIndex_8e157 : Jvm.Cond) ∈ qm_all := List.mem_filter.mpr ⟨by decide +kernel, rfl⟩
theorem zi_c : (Jvm.Cond.instanceMethod yJ0_coder_7d493 : Jvm.Cond) ∈ qm_all := List.mem_filter.mpr ⟨by decide +kernel, rfl⟩
theorem zs_c : (Jvm.Cond.selects RJ0 yJ0_coder_7d493 yJ0_coder_7d493 : Jvm.Cond) ∈ qm_all := List.mem_filter.mpr ⟨by decide +kernel, rfl⟩
theorem zc_c : (Jvm.Cond.code yJ0_coder_7d493 cJ0_coder_7d493 1 (some .byte) : Jvm.Cond) ∈ qm_all := List.mem_filter.mpr ⟨by decide +kernel, rfl⟩
theorem zi_l : (Jvm.Cond.instanceMethod yJ0_isLatin1_aae02 : Jvm.Cond) ∈ qm_all := List.mem_filter.mpr ⟨by decide +kernel, rfl⟩
theorem zs_l : (Jvm.Cond.selects RJ0 yJ0_isLatin1_aae02 yJ0_isLatin1_aae02 : Jvm.Cond) ∈ qm_all := List.mem_filter.mpr ⟨by decide +kernel, rfl⟩
theorem zc_l : (Jvm.Cond.code yJ0_isLatin1_aae02 cJ0_isLatin1_aae02 1 (some .boolean) : Jvm.Cond) ∈ qm_all := List.mem_filter.mpr ⟨by decide +kernel, rfl⟩
theorem zt_p : (Jvm.Cond.static yJ3_checkIndex_8e157 : Jvm.Cond) ∈ qm_all := List.mem_filter.mpr ⟨by decide +kernel, rfl⟩
theorem zc_p : (Jvm.Cond.code yJ3_checkIndex_8e157 cJ3_checkIndex_8e157 3 (some .int) : Jvm.Cond) ∈ qm_all := List.mem_filter.mpr ⟨by decide +kernel, rfl⟩
theorem zt_k : (Jvm.Cond.static yJ0_checkIndex_df160 : Jvm.Cond) ∈ qm_all := List.mem_filter.mpr ⟨by decide +kernel, rfl⟩
theorem zc_k : (Jvm.Cond.code yJ0_checkIndex_df160 cJ0_checkIndex_df160 2 none : Jvm.Cond) ∈ qm_all := List.mem_filter.mpr ⟨by decide +kernel, rfl⟩
theorem zt_a : (Jvm.Cond.static yJ1_charAt_3b067 : Jvm.Cond) ∈ qm_all := List.mem_filter.mpr ⟨by decide +kernel, rfl⟩
theorem zc_a : (Jvm.Cond.code yJ1_charAt_3b067 cJ1_charAt_3b067 2 (some .char) : Jvm.Cond) ∈ qm_all := List.mem_filter.mpr ⟨by decide +kernel, rfl⟩
theorem zu0 : (Jvm.Cond.initialized RJ0 : Jvm.Cond) ∈ qm_all := List.mem_filter.mpr ⟨by decide +kernel, rfl⟩
theorem zu1 : (Jvm.Cond.initialized RJ1 : Jvm.Cond) ∈ qm_all := List.mem_filter.mpr ⟨by decide +kernel, rfl⟩
theorem zu3 : (Jvm.Cond.initialized RJ3 : Jvm.Cond) ∈ qm_all := List.mem_filter.mpr ⟨by decide +kernel, rfl⟩
set_option maxRecDepth 100000 in
set_option maxHeartbeats 4000000 in
/-- coder(): 0 -/
theorem zJ0_coder (l : Launch) (g : qm_G) (adV : Nat → Nat) (H0 : Heap) (k : Nat) (hk : k < 16) : Met l yJ0_coder_7d493 (qm_wsc yJ0_coder_7d493 cJ0_coder_7d493 1 (some .byte)) (qm_rm 0 0) (va_Pc [.ref (qm_aS g k)] fun U => qm_SH g adV U ∧ U.heap = H0) (qm_Qh (some (.int 0)) H0) 0 0 (fun _ => False) := by
  refine va_MetF (cc := cJ0_coder_7d493) (maxL := 1) (ret := (some .byte)) (by decide +kernel) rfl ?_
  intro p e s m args below meth c s₁ B hml hv
  obtain ⟨rfl, HV⟩ := hv
  have hx := B.exec
  have hb := B.bytes
  have hr := B.returns
  have hts := atoms_spec (ws := qm_wsc yJ0_coder_7d493 cJ0_coder_7d493 1 (some .byte)) B.pre
  have tsa : ∀ w ∈ qm_all, w.before _ s = true := fun w hw => hts w (List.mem_cons_of_mem _ hw)
  have hown : s.vm.findClass RJ0 = some m.cls := findClass_of_methodNamed B.named
  have hlocks := B.notSynchronized
  have hS : va_S (qm_free g) s.heap s.heap [] := va_S.rf
  have hl := lv_entry ([.ref (qm_aS g k)]) (n := 1) (Nat.le_of_ble_eq_true rfl)
  rw [lg_entry_eq]
  generalize (lg_sl ([.ref (qm_aS g k)]) ++ List.replicate (1 - (lg_sl ([.ref (qm_aS g k)])).length) Slot.unset).toArray = ls at hl ⊢
  obtain ⟨hSH, hh⟩ := HV
  have hl : lv_has ls 1 [(0, .ref (qm_aS g k))] := hl
  refine va_gets hx hb hSH.2.1 hS hown (tsa _ zf38) (fun _ h9 => h9) dJ0_coder_7d493_0 ?_
  refine lv_if_eq (tgt := 13) hx hb dJ0_coder_7d493_3 (by decide) (fun q => absurd q (by decide)) (fun _ => ?_)
  refine lv_aload_n hx hb dJ0_coder_7d493_6 rfl (lv_at hl 0 rfl) ?_
  refine vk_getf hx hb (hSH.1.1 k hk).2.1 hS hown (tsa _ zf15) (fun _ h9 => h9) dJ0_coder_7d493_7 ?_
  refine lv_goto (tgt := 14) hx hb dJ0_coder_7d493_10 (by decide) ?_
  exact W.zret hx hb hr rfl (fun t ht _ => ⟨rfl, by rw [ht, hh]⟩) (fun q hq => by cases hq) dJ0_coder_7d493_14
set_option maxRecDepth 100000 in
set_option maxHeartbeats 4000000 in
/-- isLatin1(): 1 -/
theorem zJ0_isLatin1 (l : Launch) (g : qm_G) (adV : Nat → Nat) (H0 : Heap) (k : Nat) (hk : k < 16) : Met l yJ0_isLatin1_aae02 (qm_wsc yJ0_isLatin1_aae02 cJ0_isLatin1_aae02 1 (some .boolean)) (qm_rm 0 0) (va_Pc [.ref (qm_aS g k)] fun U => qm_SH g adV U ∧ U.heap = H0) (qm_Qh (some (.int 1)) H0) 0 0 (fun _ => False) := by
  refine va_MetF (cc := cJ0_isLatin1_aae02) (maxL := 1) (ret := (some .boolean)) (by decide +kernel) rfl ?_
  intro p e s m args below meth c s₁ B hml hv
  obtain ⟨rfl, HV⟩ := hv
  have hx := B.exec
  have hb := B.bytes
  have hr := B.returns
  have hts := atoms_spec (ws := qm_wsc yJ0_isLatin1_aae02 cJ0_isLatin1_aae02 1 (some .boolean)) B.pre
  have tsa : ∀ w ∈ qm_all, w.before _ s = true := fun w hw => hts w (List.mem_cons_of_mem _ hw)
  have hown : s.vm.findClass RJ0 = some m.cls := findClass_of_methodNamed B.named
  have hlocks := B.notSynchronized
  have hS : va_S (qm_free g) s.heap s.heap [] := va_S.rf
  have hl := lv_entry ([.ref (qm_aS g k)]) (n := 1) (Nat.le_of_ble_eq_true rfl)
  rw [lg_entry_eq]
  generalize (lg_sl ([.ref (qm_aS g k)]) ++ List.replicate (1 - (lg_sl ([.ref (qm_aS g k)])).length) Slot.unset).toArray = ls at hl ⊢
  obtain ⟨hSH, hh⟩ := HV
  have hl : lv_has ls 1 [(0, .ref (qm_aS g k))] := hl
  refine va_gets hx hb hSH.2.1 hS hown (tsa _ zf38) (fun _ h9 => h9) dJ0_isLatin1_aae02_0 ?_
  refine lv_if_eq (tgt := 17) hx hb dJ0_isLatin1_aae02_3 (by decide) (fun q => absurd q (by decide)) (fun _ => ?_)
  refine lv_aload_n hx hb dJ0_isLatin1_aae02_6 rfl (lv_at hl 0 rfl) ?_
  refine vk_getf hx hb (hSH.1.1 k hk).2.1 hS hown (tsa _ zf15) (fun _ h9 => h9) dJ0_isLatin1_aae02_7 ?_
  refine lv_if_ne (tgt := 17) hx hb dJ0_isLatin1_aae02_10 (by decide) (fun q => absurd rfl q) (fun _ => ?_)
  refine lv_iconst (v := 1) hx hb dJ0_isLatin1_aae02_13 (by decide) ?_
  refine lv_goto (tgt := 18) hx hb dJ0_isLatin1_aae02_14 (by decide) ?_
  exact W.zret hx hb hr rfl (fun t ht _ => ⟨rfl, by rw [ht, hh]⟩) (fun q hq => by cases hq) dJ0_isLatin1_aae02_18
set_option maxRecDepth 100000 in
set_option maxHeartbeats 4000000 in
/-- Preconditions.checkIndex(x, n, f): x, within -/
theorem zJ3_checkIndex (l : Launch) (g : qm_G) (H0 : Heap) (x n : Int32) (v : Value) (h0 : ¬ x < 0) (h1 : x < n) (hv1 : v.category = 1) : Met l yJ3_checkIndex_8e157 (qm_wsc yJ3_checkIndex_8e157 cJ3_checkIndex_8e157 3 (some .int)) (qm_rm 0 0) (va_Pc [.int x, .int n, v] fun U => U.heap = H0) (qm_Qh (some (.int x)) H0) 0 0 (fun _ => False) := by
  have hlen : (lg_sl [.int x, .int n, v]).length ≤ 3 := by
    show (([Slot.val (.int x)] ++ ([Slot.val (.int n)] ++ ((if v.category = 2 then [Slot.val v, Slot.second] else [Slot.val v]) ++ [])))).length ≤ 3
    rw [if_neg (by omega)]
    exact Nat.le_refl 3
  refine va_MetF (cc := cJ3_checkIndex_8e157) (maxL := 3) (ret := (some .int)) (by decide +kernel) rfl ?_
  intro p e s m args below meth c s₁ B hml hv
  obtain ⟨rfl, HV⟩ := hv
  have hx := B.exec
  have hb := B.bytes
  have hr := B.returns
  have hts := atoms_spec (ws := qm_wsc yJ3_checkIndex_8e157 cJ3_checkIndex_8e157 3 (some .int)) B.pre
  have tsa : ∀ w ∈ qm_all, w.before _ s = true := fun w hw => hts w (List.mem_cons_of_mem _ hw)
  have hown : s.vm.findClass RJ3 = some m.cls := findClass_of_methodNamed B.named
  have hlocks := B.notSynchronized
  have hS : va_S (qm_free g) s.heap s.heap [] := va_S.rf
  have hl := lv_entry ([.int x, .int n, v]) (n := 3) hlen
  rw [lg_entry_eq]
  generalize (lg_sl ([.int x, .int n, v]) ++ List.replicate (3 - (lg_sl ([.int x, .int n, v])).length) Slot.unset).toArray = ls at hl ⊢
  have hh := HV
  have hl : lv_has ls 3 [(0, .int x), (1, .int n)] := ⟨hl.1, hl.2.1, fun q hq => hl.2.2 q (by
    rcases List.mem_cons.mp hq with e | hq
    · rw [e]; exact List.mem_cons_self
    · rw [List.mem_singleton.mp hq]; exact List.mem_cons_of_mem _ List.mem_cons_self)⟩
  refine lv_iload_n hx hb dJ3_checkIndex_8e157_0 rfl (lv_at hl 0 rfl) ?_
  refine lv_if_lt (tgt := 9) hx hb dJ3_checkIndex_8e157_1 (by decide) (fun q => absurd q h0) (fun _ => ?_)
  refine lv_iload_n hx hb dJ3_checkIndex_8e157_4 rfl (lv_at hl 0 rfl) ?_
  refine lv_iload_n hx hb dJ3_checkIndex_8e157_5 rfl (lv_at hl 1 rfl) ?_
  refine lv_icmp_lt (tgt := 16) hx hb dJ3_checkIndex_8e157_6 (by decide) (fun _ => ?_) (fun q => absurd h1 q)
  refine lv_iload_n hx hb dJ3_checkIndex_8e157_16 rfl (lv_at hl 0 rfl) ?_
  exact W.iret hx hb hr (fun t ht _ => ⟨rfl, by rw [ht, hh]⟩) (fun q hq => by cases hq) dJ3_checkIndex_8e157_17
set_option maxRecDepth 100000 in
set_option maxHeartbeats 4000000 in
/-- String.checkIndex(x, n), within -/
theorem zJ0_checkIndex (l : Launch) (g : qm_G) (adV : Nat → Nat) (H0 : Heap) (x n : Int32) (h0 : ¬ x < 0) (h1 : x < n) : Met l yJ0_checkIndex_df160 (qm_wsc yJ0_checkIndex_df160 cJ0_checkIndex_df160 2 none) (qm_rm 1 22) (va_Pc [.int x, .int n] fun U => qm_SH g adV U ∧ U.heap = H0) (qm_Qh none H0) 0 0 (fun _ => False) := by
  refine va_MetF (cc := cJ0_checkIndex_df160) (maxL := 2) (ret := none) (by decide +kernel) rfl ?_
  intro p e s m args below meth c s₁ B hml hv
  obtain ⟨rfl, HV⟩ := hv
  have hx := B.exec
  have hb := B.bytes
  have hr := B.returns
  have hts := atoms_spec (ws := qm_wsc yJ0_checkIndex_df160 cJ0_checkIndex_df160 2 none) B.pre
  have tsa : ∀ w ∈ qm_all, w.before _ s = true := fun w hw => hts w (List.mem_cons_of_mem _ hw)
  have hown : s.vm.findClass RJ0 = some m.cls := findClass_of_methodNamed B.named
  have hlocks := B.notSynchronized
  have hS : va_S (qm_free g) s.heap s.heap [] := va_S.rf
  have hl := lv_entry ([.int x, .int n]) (n := 2) (Nat.le_of_ble_eq_true rfl)
  rw [lg_entry_eq]
  generalize (lg_sl ([.int x, .int n]) ++ List.replicate (2 - (lg_sl ([.int x, .int n])).length) Slot.unset).toArray = ls at hl ⊢
  obtain ⟨hSH, hh⟩ := HV
  have hl : lv_has ls 2 [(0, .int x), (1, .int n)] := hl
  refine lv_iload_n hx hb dJ0_checkIndex_df160_0 rfl (lv_at hl 0 rfl) ?_
  refine lv_iload_n hx hb dJ0_checkIndex_df160_1 rfl (lv_at hl 1 rfl) ?_
  have go : ∀ v : Value, v.category = 1 → W p l e (headSpec (qm_wsc yJ0_checkIndex_df160 cJ0_checkIndex_df160 2 none) (qm_rm 1 22)).room s m #[Value.int x, Value.int n] below meth c s.heap [] 0 0 (MQ below (qm_Qh none H0) #[Value.int x, Value.int n] s 0 0 (fun _ => False)) (F0 m 5 ls [v, .int n, .int x]) := by
    intro v hv1
    refine qm_afterh (va_runS (S := ⟨hx, hb, hml, hown, hts⟩) (hM := zJ3_checkIndex l g s.heap x n v h0 h1 hv1) (cw := ⟨callB_of 3 hts (qm_GoodIn zc_p) rfl rfl rfl (tsa _ zu3) (tsa _ zm1059) ⟨by decide, by decide, rfl⟩ ⟨by decide, by decide⟩, tsa _ zt_p⟩) (As := [.int x, .int n, v]) (rest := []) ⟨fun a U fr mk q => q, fun U hU hW => ⟨rfl, hU⟩⟩ rfl rfl hl.1 rfl (lv_room (Nat.le_of_ble_eq_true rfl)) dJ0_checkIndex_df160_5 ⟨Nat.le_refl _, Nat.le_refl _⟩) ?_
    refine lv_pop hx hb dJ0_checkIndex_df160_8 rfl ?_
    exact W.vret hx hb hr (fun t ht _ => ⟨rfl, by rw [ht, hh]⟩) (fun q hq => by cases hq) dJ0_checkIndex_df160_9
  rcases hSH.2.2 with hz | ⟨tz, hz⟩
  · exact va_gets hx hb hz hS hown (tsa _ zf1053) (fun _ h9 => h9) dJ0_checkIndex_df160_2 (go _ rfl)
  · exact va_gets hx hb hz hS hown (tsa _ zf1053) (fun _ h9 => h9) dJ0_checkIndex_df160_2 (go _ rfl)
theorem qm_sb_ok : ∀ k, k < 16 → qm_slen.getD k 0 < 100 ∧ ∀ j, j < qm_slen.getD k 0 → (qm_sbyt.getD k []).getD j 0 &&& 255 = (qm_sbyt.getD k []).getD j 0 ∧ ((qm_sbyt.getD k []).getD j 0 &&& 255).toUInt32 % 65536 = ((qm_sbyt.getD k []).getD j 0).toUInt32 := by decide +kernel
set_option maxRecDepth 100000 in
set_option maxHeartbeats 4000000 in
/-- StringLatin1.charAt(value, x), within -/
theorem zJ1_charAt (l : Launch) (g : qm_G) (adV : Nat → Nat) (H0 : Heap) (k : Nat) (hk : k < 16) (x : Int32) (h0 : ¬ x < 0) (h1 : x.toNatClampNeg < qm_slen.getD k 0) : Met l yJ1_charAt_3b067 (qm_wsc yJ1_charAt_3b067 cJ1_charAt_3b067 2 (some .char)) (qm_rm 2 43) (va_Pc [.ref (adV k), .int x] fun U => qm_SH g adV U ∧ U.heap = H0) (qm_Qh (some (.int ((qm_sbyt.getD k []).getD x.toNatClampNeg 0))) H0) 0 0 (fun _ => False) := by
  refine va_MetF (cc := cJ1_charAt_3b067) (maxL := 2) (ret := (some .char)) (by decide +kernel) rfl ?_
  intro p e s m args below meth c s₁ B hml hv
  obtain ⟨rfl, HV⟩ := hv
  have hx := B.exec
  have hb := B.bytes
  have hr := B.returns
  have hts := atoms_spec (ws := qm_wsc yJ1_charAt_3b067 cJ1_charAt_3b067 2 (some .char)) B.pre
  have tsa : ∀ w ∈ qm_all, w.before _ s = true := fun w hw => hts w (List.mem_cons_of_mem _ hw)
  have hown : s.vm.findClass RJ1 = some m.cls := findClass_of_methodNamed B.named
  have hlocks := B.notSynchronized
  have hS : va_S (qm_free g) s.heap s.heap [] := va_S.rf
  have hl := lv_entry ([.ref (adV k), .int x]) (n := 2) (Nat.le_of_ble_eq_true rfl)
  rw [lg_entry_eq]
  generalize (lg_sl ([.ref (adV k), .int x]) ++ List.replicate (2 - (lg_sl ([.ref (adV k), .int x])).length) Slot.unset).toArray = ls at hl ⊢
  obtain ⟨hSH, hh⟩ := HV
  obtain ⟨h100, hbyt⟩ := qm_sb_ok k hk
  obtain ⟨j, hj⟩ := nI_of h0
  have hxj : x = nI x.toNatClampNeg := by rw [hj.2, nI_clamp hj.1]
  have hlt : x < Int32.ofNat (qm_slen.getD k 0) := by
    rw [hxj]
    exact nI_lt h1 (by omega)
  have hvin : vp_in x (qm_slen.getD k 0) := fun q => q.elim h0 (fun q => by omega)
  have hl : lv_has ls 2 [(0, .ref (adV k)), (1, .int x)] := hl
  refine lv_iload_n hx hb dJ1_charAt_3b067_0 rfl (lv_at hl 1 rfl) ?_
  refine lv_aload_n hx hb dJ1_charAt_3b067_1 rfl (lv_at hl 0 rfl) ?_
  refine va_tlen hx hb (hSH.1.1 k hk).2.2.2 hS rfl dJ1_charAt_3b067_2 ?_
  refine qm_afterh (va_runS (S := ⟨hx, hb, hml, hown, hts⟩) (hM := zJ0_checkIndex l g adV s.heap x (Int32.ofNat (qm_slen.getD k 0)) h0 hlt) (cw := ⟨callB_of 2 hts (qm_GoodIn zc_k) rfl rfl rfl (tsa _ zu0) (tsa _ zm9) ⟨by decide, by decide, rfl⟩ ⟨by decide, by decide⟩, tsa _ zt_k⟩) (As := [.int x, .int (Int32.ofNat (qm_slen.getD k 0))]) (rest := []) ⟨qm_SH.blind _ _, fun U hU hW => ⟨rfl, hSH.warm hW hU, hU⟩⟩ rfl rfl hl.1 rfl (lv_room (Nat.le_of_ble_eq_true rfl)) dJ1_charAt_3b067_3 ⟨Nat.le_refl _, Nat.le_refl _⟩) ?_
  refine lv_aload_n hx hb dJ1_charAt_3b067_6 rfl (lv_at hl 0 rfl) ?_
  refine lv_iload_n hx hb dJ1_charAt_3b067_7 rfl (lv_at hl 1 rfl) ?_
  refine va_tb hx hb (hSH.1.1 k hk).2.2.2 hS hvin rfl dJ1_charAt_3b067_8 ?_
  refine lv_sipush (v := 255) hx hb dJ1_charAt_3b067_9 (by decide) ?_
  refine lv_iand hx hb dJ1_charAt_3b067_12 ?_
  have e1 : (((qm_sbyt.getD k []).getD x.toNatClampNeg 0 &&& 255).toUInt32 % 65536).toInt32 = (qm_sbyt.getD k []).getD x.toNatClampNeg 0 := by
    rw [(hbyt _ h1).2]
    rfl
  refine lv_i2c hx hb dJ1_charAt_3b067_13 e1 ?_
  exact W.zret hx hb hr (by
    have := sc_nar ((qm_sbyt.getD k []).getD x.toNatClampNeg 0)
    rwa [(hbyt _ h1).1] at this) (fun t ht _ => ⟨rfl, by rw [ht, hh]⟩) (fun q hq => by cases hq) dJ1_charAt_3b067_14
/-- out of what a method's entry has, what the String methods ask -/
theorem qm_SR.sh {g : qm_G} {h : qm_H} {s : State} (hS : qm_SR g s) (hH : qm_HR g h s.heap) : ∃ adV, qm_SH g adV s := by
  have hk := qm_keep hH hS
  obtain ⟨-, ⟨adV, h2⟩, h3, h5, -⟩ := hS
  exact ⟨adV, h2.kept hk, h3.kept hk, h5.kept hk⟩
set_option maxRecDepth 100000 in
set_option maxHeartbeats 4000000 in
theorem sJ0_length_8abf5 : qm_Snd yJ0_length_8abf5 cJ0_length_8abf5 1 (some .int) 1 20 wJ0_length_8abf5 := by
  intro l g hG vs h o hfo hok
  unfold wJ0_length_8abf5 at hfo
  split at hfo
  case h_2 => cases hfo
  rename_i k
  obtain ⟨r, hr0, rfl⟩ := Option.map_eq_some_iff.mp hfo
  unfold qJ0_length_8abf5 at hr0
  obtain ⟨hk, hr1⟩ := qm_if hr0
  cases hr1
  refine va_MetF (cc := cJ0_length_8abf5) (maxL := 1) (ret := (some .int)) (by decide +kernel) rfl ?_
  intro p e s m args below meth c s₁ B hml hv
  obtain ⟨rfl, hH, hK, hSR⟩ := hv
  obtain ⟨adV, hSH⟩ := hSR.sh hH
  have hx := B.exec
  have hb := B.bytes
  have hr := B.returns
  have hts := atoms_spec (ws := qm_wsc yJ0_length_8abf5 cJ0_length_8abf5 1 (some .int)) B.pre
  have tsa : ∀ w ∈ qm_all, w.before _ s = true := fun w hw => hts w (List.mem_cons_of_mem _ hw)
  have hown : s.vm.findClass RJ0 = some m.cls := findClass_of_methodNamed B.named
  have hlocks := B.notSynchronized
  have hS : va_S (qm_free g) s.heap s.heap [] := va_S.rf
  have hl := lv_entry ([.ref (qm_aS g k)]) (n := 1) (Nat.le_of_ble_eq_true rfl)
  rw [show (([qm_r 10 k 0].map (qm_tr g)).toArray : Array Value) = ([.ref (qm_aS g k)] : List Value).toArray from rfl, lg_entry_eq]
  generalize (lg_sl ([.ref (qm_aS g k)]) ++ List.replicate (1 - (lg_sl ([.ref (qm_aS g k)])).length) Slot.unset).toArray = ls at hl ⊢
  have hl : lv_has ls 1 [(0, .ref (qm_aS g k))] := hl
  refine lv_aload_n hx hb dJ0_length_8abf5_0 rfl (lv_at hl 0 rfl) ?_
  refine vk_getf hx hb (hSH.1.1 k hk).2.2.1 hS hown (tsa _ zf9) (fun _ h9 => h9) dJ0_length_8abf5_1 ?_
  refine va_tlen hx hb (hSH.1.1 k hk).2.2.2 hS rfl dJ0_length_8abf5_4 ?_
  refine lv_aload_n hx hb dJ0_length_8abf5_5 rfl (lv_at hl 0 rfl) ?_
  refine qm_afterh (va_runV (S := ⟨hx, hb, hml, hown, hts⟩) (hM := zJ0_coder l g adV s.heap k hk) (cw := ⟨callB_of 0 hts (qm_GoodIn zc_c) rfl rfl rfl (tsa _ zu0) (tsa _ zm335) ⟨by decide, by decide, rfl⟩ ⟨by decide, by decide⟩, tsa _ zi_c, tsa _ zs_c⟩) (As := []) (rest := [.int (Int32.ofNat (qm_slen.getD k 0))]) (b := qm_aS g k) ⟨qm_SH.blind _ _, vk_recv hSH.1 hk hS, fun U hU hW => ⟨rfl, hSH.warm hW hU, hU⟩⟩ rfl rfl hl.1 rfl (lv_room (Nat.le_of_ble_eq_true rfl)) dJ0_length_8abf5_6 ⟨Nat.le_refl _, Nat.le_refl _⟩) ?_
  refine lv_ishr hx hb dJ0_length_8abf5_9 ?_
  have e1 : Int32.ofNat (qm_slen.getD k 0) >>> ((0 : Int32) &&& 31) = nI (qm_slen.getD k 0) := sc_shr0 (by have := (qm_sb_ok k hk).1; omega)
  rw [e1]
  exact W.iret hx hb hr (fun t ht _ => ⟨rfl, by rw [ht]; exact hH, fun v hv => by cases hv; trivial⟩) (fun q hq => by cases hq) dJ0_length_8abf5_10
set_option maxRecDepth 100000 in
set_option maxHeartbeats 4000000 in
theorem sJ0_charAt_5068e : qm_Snd yJ0_charAt_5068e cJ0_charAt_5068e 2 (some .char) 3 64 wJ0_charAt_5068e := by
  intro l g hG vs h o hfo hok
  unfold wJ0_charAt_5068e at hfo
  split at hfo
  case h_2 => cases hfo
  rename_i k x
  obtain ⟨r, hr0, rfl⟩ := Option.map_eq_some_iff.mp hfo
  unfold qJ0_charAt_5068e at hr0
  obtain ⟨⟨hk, h0, h1⟩, hr1⟩ := qm_if hr0
  cases hr1
  refine va_MetF (cc := cJ0_charAt_5068e) (maxL := 2) (ret := (some .char)) (by decide +kernel) rfl ?_
  intro p e s m args below meth c s₁ B hml hv
  obtain ⟨rfl, hH, hK, hSR⟩ := hv
  obtain ⟨adV, hSH⟩ := hSR.sh hH
  have hx := B.exec
  have hb := B.bytes
  have hr := B.returns
  have hts := atoms_spec (ws := qm_wsc yJ0_charAt_5068e cJ0_charAt_5068e 2 (some .char)) B.pre
  have tsa : ∀ w ∈ qm_all, w.before _ s = true := fun w hw => hts w (List.mem_cons_of_mem _ hw)
  have hown : s.vm.findClass RJ0 = some m.cls := findClass_of_methodNamed B.named
  have hlocks := B.notSynchronized
  have hS : va_S (qm_free g) s.heap s.heap [] := va_S.rf
  have hl := lv_entry ([.ref (qm_aS g k), .int x]) (n := 2) (Nat.le_of_ble_eq_true rfl)
  rw [show (([qm_r 10 k 0, qm_i x].map (qm_tr g)).toArray : Array Value) = ([.ref (qm_aS g k), .int x] : List Value).toArray from rfl, lg_entry_eq]
  generalize (lg_sl ([.ref (qm_aS g k), .int x]) ++ List.replicate (2 - (lg_sl ([.ref (qm_aS g k), .int x])).length) Slot.unset).toArray = ls at hl ⊢
  have hl : lv_has ls 2 [(0, .ref (qm_aS g k)), (1, .int x)] := hl
  refine lv_aload_n hx hb dJ0_charAt_5068e_0 rfl (lv_at hl 0 rfl) ?_
  refine qm_afterh (va_runV (S := ⟨hx, hb, hml, hown, hts⟩) (hM := zJ0_isLatin1 l g adV s.heap k hk) (cw := ⟨callB_of 0 hts (qm_GoodIn zc_l) rfl rfl rfl (tsa _ zu0) (tsa _ zm492) ⟨by decide, by decide, rfl⟩ ⟨by decide, by decide⟩, tsa _ zi_l, tsa _ zs_l⟩) (As := []) (rest := []) (b := qm_aS g k) ⟨qm_SH.blind _ _, vk_recv hSH.1 hk hS, fun U hU hW => ⟨rfl, hSH.warm hW hU, hU⟩⟩ rfl rfl hl.1 rfl (lv_room (Nat.le_of_ble_eq_true rfl)) dJ0_charAt_5068e_1 ⟨Nat.le_refl _, Nat.le_refl _⟩) ?_
  refine lv_if_eq (tgt := 16) hx hb dJ0_charAt_5068e_4 (by decide) (fun q => absurd q (by decide)) (fun _ => ?_)
  refine lv_aload_n hx hb dJ0_charAt_5068e_7 rfl (lv_at hl 0 rfl) ?_
  refine vk_getf hx hb (hSH.1.1 k hk).2.2.1 hS hown (tsa _ zf9) (fun _ h9 => h9) dJ0_charAt_5068e_8 ?_
  refine lv_iload_n hx hb dJ0_charAt_5068e_11 rfl (lv_at hl 1 rfl) ?_
  refine qm_afterh (va_runS (S := ⟨hx, hb, hml, hown, hts⟩) (hM := zJ1_charAt l g adV s.heap k hk x h0 h1) (cw := ⟨callB_of 2 hts (qm_GoodIn zc_a) rfl rfl rfl (tsa _ zu1) (tsa _ zm495) ⟨by decide, by decide, rfl⟩ ⟨by decide, by decide⟩, tsa _ zt_a⟩) (As := [.ref (adV k), .int x]) (rest := []) ⟨qm_SH.blind _ _, fun U hU hW => ⟨rfl, hSH.warm hW hU, hU⟩⟩ rfl rfl hl.1 rfl (lv_room (Nat.le_of_ble_eq_true rfl)) dJ0_charAt_5068e_12 ⟨Nat.le_refl _, Nat.le_refl _⟩) ?_
  exact W.zret hx hb hr (by
    have := sc_nar ((qm_sbyt.getD k []).getD x.toNatClampNeg 0)
    rwa [((qm_sb_ok k hk).2 _ h1).1] at this) (fun t ht _ => ⟨rfl, by rw [ht]; exact hH, fun v hv => by cases hv; trivial⟩) (fun q hq => by cases hq) dJ0_charAt_5068e_15
theorem jJ0_length_8abf5 : Jvm.Cond.code yJ0_length_8abf5 cJ0_length_8abf5 1 (some .int) ∈ qm_all := List.mem_filter.mpr ⟨by decide +kernel, rfl⟩
theorem iJ0_length_8abf5 : Jvm.Cond.instanceMethod yJ0_length_8abf5 ∈ qm_all ∧ Jvm.Cond.selects yJ0_length_8abf5.cls yJ0_length_8abf5 yJ0_length_8abf5 ∈ qm_all := ⟨List.mem_filter.mpr ⟨by decide +kernel, rfl⟩, List.mem_filter.mpr ⟨by decide +kernel, rfl⟩⟩
theorem jJ0_charAt_5068e : Jvm.Cond.code yJ0_charAt_5068e cJ0_charAt_5068e 2 (some .char) ∈ qm_all := List.mem_filter.mpr ⟨by decide +kernel, rfl⟩
theorem iJ0_charAt_5068e : Jvm.Cond.instanceMethod yJ0_charAt_5068e ∈ qm_all ∧ Jvm.Cond.selects yJ0_charAt_5068e.cls yJ0_charAt_5068e yJ0_charAt_5068e ∈ qm_all := ⟨List.mem_filter.mpr ⟨by decide +kernel, rfl⟩, List.mem_filter.mpr ⟨by decide +kernel, rfl⟩⟩
theorem uRJ0 : Jvm.Cond.initialized RJ0 ∈ qm_all := zu0
theorem recvJ0_length_8abf5 : ∀ vs h o, wJ0_length_8abf5 vs h = some o → ∃ j rest, vs = qm_r 10 j 0 :: rest := by
  intro vs h o hw
  unfold wJ0_length_8abf5 at hw
  split at hw
  · exact ⟨_, _, rfl⟩
  · cases hw
theorem recvJ0_charAt_5068e : ∀ vs h o, wJ0_charAt_5068e vs h = some o → ∃ j rest, vs = qm_r 10 j 0 :: rest := by
  intro vs h o hw
  unfold wJ0_charAt_5068e at hw
  split at hw
  · exact ⟨_, _, rfl⟩
  · cases hw
