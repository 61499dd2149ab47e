theorem dl_929 : decode code 929 = .ok (.aload_n 1, 1) := by decide +kernel
theorem dl_930 : decode code 930 = .ok (.aload_n 0, 1) := by decide +kernel
theorem dl_931 : decode code 931 = .ok (.iload_n 3, 1) := by decide +kernel
theorem dl_932 : decode code 932 = .ok (.iconst 1, 1) := by decide +kernel
theorem dl_933 : decode code 933 = .ok (.iadd, 1) := by decide +kernel
theorem dl_934 : decode code 934 = .ok (.iaload, 1) := by decide +kernel
theorem dl_935 : decode code 935 = .ok (.aload_n 0, 1) := by decide +kernel
theorem dl_936 : decode code 936 = .ok (.iload_n 3, 1) := by decide +kernel
theorem dl_937 : decode code 937 = .ok (.iconst 2, 1) := by decide +kernel
theorem dl_938 : decode code 938 = .ok (.iadd, 1) := by decide +kernel
theorem dl_939 : decode code 939 = .ok (.iaload, 1) := by decide +kernel
theorem dl_940 : decode code 940 = .ok (.invokevirtual 85, 3) := by decide +kernel
theorem dl_943 : decode code 943 = .ok (.aload_n 2, 1) := by decide +kernel
theorem dl_944 : decode code 944 = .ok (.aload_n 0, 1) := by decide +kernel
theorem dl_945 : decode code 945 = .ok (.iload_n 3, 1) := by decide +kernel
theorem dl_946 : decode code 946 = .ok (.iconst 1, 1) := by decide +kernel
theorem dl_947 : decode code 947 = .ok (.iadd, 1) := by decide +kernel
theorem dl_948 : decode code 948 = .ok (.iaload, 1) := by decide +kernel
theorem dl_949 : decode code 949 = .ok (.aload_n 0, 1) := by decide +kernel
theorem dl_950 : decode code 950 = .ok (.iload_n 3, 1) := by decide +kernel
theorem dl_951 : decode code 951 = .ok (.iconst 2, 1) := by decide +kernel
theorem dl_952 : decode code 952 = .ok (.iadd, 1) := by decide +kernel
theorem dl_953 : decode code 953 = .ok (.iaload, 1) := by decide +kernel
theorem dl_954 : decode code 954 = .ok (.invokevirtual 88, 3) := by decide +kernel
theorem dl_957 : decode code 957 = .ok (.if_icmp .eq 624, 3) := by decide +kernel
theorem kl_85 : Jvm.Cond.methodLink R_law 85 yX11_parish ∈ qm_all := List.mem_filter.mpr ⟨by decide +kernel, rfl⟩
theorem kl_88 : Jvm.Cond.methodLink R_law 88 yX12_parish ∈ qm_all := List.mem_filter.mpr ⟨by decide +kernel, rfl⟩
set_option maxRecDepth 20000 in
theorem law_16 {p : Program} {l : Launch} {e : Env} {s : State} {m : MethodId} {below : List Frame} {meth : Method} {c : Code} {b L : Nat} {xs : Nat → Int32} {g : qm_G} {cells slots i : Nat} {h : qm_H} (C : qL_C p s m meth c b L xs g) (hL : L ≤ 3072) (hik : i + 6 ≤ L) (hcs : cells ≤ 600000 ∧ slots ≤ 7302250) {r : Int32} {h1 h2 : qm_H} (q1 : qX11_parish 0 (xs (i + 1)) (xs (i + 2)) h = some (r, h1)) (q2 : qX12_parish 62 (xs (i + 1)) (xs (i + 2)) h1 = some (r, h2)) (kk : qL_W p l e s m below meth c b g cells slots i 1581 [] h2) : qL_W p l e s m below meth c b g cells slots i 929 [] h := by
  refine qL_ldx C dl_929 ?_
  refine qL_arg C (k := 1) (by decide) (by omega) hL dl_930 dl_931 dl_932 dl_933 dl_934 ?_
  refine qL_arg C (k := 2) (by decide) (by omega) hL dl_935 dl_936 dl_937 dl_938 dl_939 ?_
  refine qL_call C (vs := [qm_i (xs (i + 1)), qm_i (xs (i + 2))]) (S := []) (ci := 11) (a := 0) (o := (some (qm_i r), h1)) sX11_parish ⟨by decide, by decide⟩ jX11_parish kl_85 uRX11 ⟨by decide, by decide, rfl⟩ iX11_parish rfl C.2.2.2.2.2.2.1 (qL_ints _ (by intro v hv; simp only [List.mem_cons, List.not_mem_nil, or_false] at hv; rcases hv with rfl | rfl <;> exact ⟨_, rfl⟩)) rfl (qm_mp (G := qm_Gi) q1) (Nat.le_of_ble_eq_true rfl) dl_940 ?_ hcs
  show qL_W p l e s m below meth c b g cells slots i 943 [qm_i r] h1
  refine qL_ldm C dl_943 ?_
  refine qL_arg C (k := 1) (by decide) (by omega) hL dl_944 dl_945 dl_946 dl_947 dl_948 ?_
  refine qL_arg C (k := 2) (by decide) (by omega) hL dl_949 dl_950 dl_951 dl_952 dl_953 ?_
  refine qL_call C (vs := [qm_i (xs (i + 1)), qm_i (xs (i + 2))]) (S := [qm_i r]) (ci := 12) (a := 62) (o := (some (qm_i r), h2)) sX12_parish ⟨by decide, by decide⟩ jX12_parish kl_88 uRX12 ⟨by decide, by decide, rfl⟩ iX12_parish rfl C.2.2.2.2.2.2.2 (qL_ints _ (by intro v hv; simp only [List.mem_cons, List.not_mem_nil, or_false] at hv; rcases hv with rfl | rfl <;> exact ⟨_, rfl⟩)) rfl (qm_mp (G := qm_Gi) q2) (Nat.le_of_ble_eq_true rfl) dl_954 ?_ hcs
  show qL_W p l e s m below meth c b g cells slots i 957 [qm_i r, qm_i r] h2
  exact qL_cmp C dl_957 (tgt := 1581) (by decide) kk

theorem dl_962 : decode code 962 = .ok (.aload_n 1, 1) := by decide +kernel
theorem dl_963 : decode code 963 = .ok (.aload_n 0, 1) := by decide +kernel
theorem dl_964 : decode code 964 = .ok (.iload_n 3, 1) := by decide +kernel
theorem dl_965 : decode code 965 = .ok (.iconst 1, 1) := by decide +kernel
theorem dl_966 : decode code 966 = .ok (.iadd, 1) := by decide +kernel
theorem dl_967 : decode code 967 = .ok (.iaload, 1) := by decide +kernel
theorem dl_968 : decode code 968 = .ok (.aload_n 0, 1) := by decide +kernel
theorem dl_969 : decode code 969 = .ok (.iload_n 3, 1) := by decide +kernel
theorem dl_970 : decode code 970 = .ok (.iconst 2, 1) := by decide +kernel
theorem dl_971 : decode code 971 = .ok (.iadd, 1) := by decide +kernel
theorem dl_972 : decode code 972 = .ok (.iaload, 1) := by decide +kernel
theorem dl_973 : decode code 973 = .ok (.invokevirtual 89, 3) := by decide +kernel
theorem dl_976 : decode code 976 = .ok (.aload_n 2, 1) := by decide +kernel
theorem dl_977 : decode code 977 = .ok (.aload_n 0, 1) := by decide +kernel
theorem dl_978 : decode code 978 = .ok (.iload_n 3, 1) := by decide +kernel
theorem dl_979 : decode code 979 = .ok (.iconst 1, 1) := by decide +kernel
theorem dl_980 : decode code 980 = .ok (.iadd, 1) := by decide +kernel
theorem dl_981 : decode code 981 = .ok (.iaload, 1) := by decide +kernel
theorem dl_982 : decode code 982 = .ok (.aload_n 0, 1) := by decide +kernel
theorem dl_983 : decode code 983 = .ok (.iload_n 3, 1) := by decide +kernel
theorem dl_984 : decode code 984 = .ok (.iconst 2, 1) := by decide +kernel
theorem dl_985 : decode code 985 = .ok (.iadd, 1) := by decide +kernel
theorem dl_986 : decode code 986 = .ok (.iaload, 1) := by decide +kernel
theorem dl_987 : decode code 987 = .ok (.invokevirtual 92, 3) := by decide +kernel
theorem dl_990 : decode code 990 = .ok (.if_icmp .eq 591, 3) := by decide +kernel
theorem kl_89 : Jvm.Cond.methodLink R_law 89 yX11_cutting ∈ qm_all := List.mem_filter.mpr ⟨by decide +kernel, rfl⟩
theorem kl_92 : Jvm.Cond.methodLink R_law 92 yX12_cutting ∈ qm_all := List.mem_filter.mpr ⟨by decide +kernel, rfl⟩
set_option maxRecDepth 20000 in
theorem law_17 {p : Program} {l : Launch} {e : Env} {s : State} {m : MethodId} {below : List Frame} {meth : Method} {c : Code} {b L : Nat} {xs : Nat → Int32} {g : qm_G} {cells slots i : Nat} {h : qm_H} (C : qL_C p s m meth c b L xs g) (hL : L ≤ 3072) (hik : i + 6 ≤ L) (hcs : cells ≤ 600000 ∧ slots ≤ 7302250) {r : Int32} {h1 h2 : qm_H} (q1 : qX11_cutting 0 (xs (i + 1)) (xs (i + 2)) h = some (r, h1)) (q2 : qX12_cutting 62 (xs (i + 1)) (xs (i + 2)) h1 = some (r, h2)) (kk : qL_W p l e s m below meth c b g cells slots i 1581 [] h2) : qL_W p l e s m below meth c b g cells slots i 962 [] h := by
  refine qL_ldx C dl_962 ?_
  refine qL_arg C (k := 1) (by decide) (by omega) hL dl_963 dl_964 dl_965 dl_966 dl_967 ?_
  refine qL_arg C (k := 2) (by decide) (by omega) hL dl_968 dl_969 dl_970 dl_971 dl_972 ?_
  refine qL_call C (vs := [qm_i (xs (i + 1)), qm_i (xs (i + 2))]) (S := []) (ci := 11) (a := 0) (o := (some (qm_i r), h1)) sX11_cutting ⟨by decide, by decide⟩ jX11_cutting kl_89 uRX11 ⟨by decide, by decide, rfl⟩ iX11_cutting rfl C.2.2.2.2.2.2.1 (qL_ints _ (by intro v hv; simp only [List.mem_cons, List.not_mem_nil, or_false] at hv; rcases hv with rfl | rfl <;> exact ⟨_, rfl⟩)) rfl (qm_mp (G := qm_Gi) q1) (Nat.le_of_ble_eq_true rfl) dl_973 ?_ hcs
  show qL_W p l e s m below meth c b g cells slots i 976 [qm_i r] h1
  refine qL_ldm C dl_976 ?_
  refine qL_arg C (k := 1) (by decide) (by omega) hL dl_977 dl_978 dl_979 dl_980 dl_981 ?_
  refine qL_arg C (k := 2) (by decide) (by omega) hL dl_982 dl_983 dl_984 dl_985 dl_986 ?_
  refine qL_call C (vs := [qm_i (xs (i + 1)), qm_i (xs (i + 2))]) (S := [qm_i r]) (ci := 12) (a := 62) (o := (some (qm_i r), h2)) sX12_cutting ⟨by decide, by decide⟩ jX12_cutting kl_92 uRX12 ⟨by decide, by decide, rfl⟩ iX12_cutting rfl C.2.2.2.2.2.2.2 (qL_ints _ (by intro v hv; simp only [List.mem_cons, List.not_mem_nil, or_false] at hv; rcases hv with rfl | rfl <;> exact ⟨_, rfl⟩)) rfl (qm_mp (G := qm_Gi) q2) (Nat.le_of_ble_eq_true rfl) dl_987 ?_ hcs
  show qL_W p l e s m below meth c b g cells slots i 990 [qm_i r, qm_i r] h2
  exact qL_cmp C dl_990 (tgt := 1581) (by decide) kk

theorem dl_995 : decode code 995 = .ok (.aload_n 1, 1) := by decide +kernel
theorem dl_996 : decode code 996 = .ok (.aload_n 0, 1) := by decide +kernel
theorem dl_997 : decode code 997 = .ok (.iload_n 3, 1) := by decide +kernel
theorem dl_998 : decode code 998 = .ok (.iconst 1, 1) := by decide +kernel
theorem dl_999 : decode code 999 = .ok (.iadd, 1) := by decide +kernel
theorem dl_1000 : decode code 1000 = .ok (.iaload, 1) := by decide +kernel
theorem dl_1001 : decode code 1001 = .ok (.aload_n 0, 1) := by decide +kernel
theorem dl_1002 : decode code 1002 = .ok (.iload_n 3, 1) := by decide +kernel
theorem dl_1003 : decode code 1003 = .ok (.iconst 2, 1) := by decide +kernel
theorem dl_1004 : decode code 1004 = .ok (.iadd, 1) := by decide +kernel
theorem dl_1005 : decode code 1005 = .ok (.iaload, 1) := by decide +kernel
theorem dl_1006 : decode code 1006 = .ok (.ifCond .eq 7, 3) := by decide +kernel
theorem dl_1009 : decode code 1009 = .ok (.iconst 1, 1) := by decide +kernel
theorem dl_1010 : decode code 1010 = .ok (.goto 4, 3) := by decide +kernel
theorem dl_1013 : decode code 1013 = .ok (.iconst 0, 1) := by decide +kernel
theorem dl_1014 : decode code 1014 = .ok (.aload_n 0, 1) := by decide +kernel
theorem dl_1015 : decode code 1015 = .ok (.iload_n 3, 1) := by decide +kernel
theorem dl_1016 : decode code 1016 = .ok (.iconst 3, 1) := by decide +kernel
theorem dl_1017 : decode code 1017 = .ok (.iadd, 1) := by decide +kernel
theorem dl_1018 : decode code 1018 = .ok (.iaload, 1) := by decide +kernel
theorem dl_1019 : decode code 1019 = .ok (.ifCond .eq 7, 3) := by decide +kernel
theorem dl_1022 : decode code 1022 = .ok (.iconst 1, 1) := by decide +kernel
theorem dl_1023 : decode code 1023 = .ok (.goto 4, 3) := by decide +kernel
theorem dl_1026 : decode code 1026 = .ok (.iconst 0, 1) := by decide +kernel
theorem dl_1027 : decode code 1027 = .ok (.invokevirtual 93, 3) := by decide +kernel
theorem dl_1030 : decode code 1030 = .ok (.aload_n 2, 1) := by decide +kernel
theorem dl_1031 : decode code 1031 = .ok (.aload_n 0, 1) := by decide +kernel
theorem dl_1032 : decode code 1032 = .ok (.iload_n 3, 1) := by decide +kernel
theorem dl_1033 : decode code 1033 = .ok (.iconst 1, 1) := by decide +kernel
theorem dl_1034 : decode code 1034 = .ok (.iadd, 1) := by decide +kernel
theorem dl_1035 : decode code 1035 = .ok (.iaload, 1) := by decide +kernel
theorem dl_1036 : decode code 1036 = .ok (.aload_n 0, 1) := by decide +kernel
theorem dl_1037 : decode code 1037 = .ok (.iload_n 3, 1) := by decide +kernel
theorem dl_1038 : decode code 1038 = .ok (.iconst 2, 1) := by decide +kernel
theorem dl_1039 : decode code 1039 = .ok (.iadd, 1) := by decide +kernel
theorem dl_1040 : decode code 1040 = .ok (.iaload, 1) := by decide +kernel
theorem dl_1041 : decode code 1041 = .ok (.ifCond .eq 7, 3) := by decide +kernel
theorem dl_1044 : decode code 1044 = .ok (.iconst 1, 1) := by decide +kernel
theorem dl_1045 : decode code 1045 = .ok (.goto 4, 3) := by decide +kernel
theorem dl_1048 : decode code 1048 = .ok (.iconst 0, 1) := by decide +kernel
theorem dl_1049 : decode code 1049 = .ok (.aload_n 0, 1) := by decide +kernel
theorem dl_1050 : decode code 1050 = .ok (.iload_n 3, 1) := by decide +kernel
theorem dl_1051 : decode code 1051 = .ok (.iconst 3, 1) := by decide +kernel
theorem dl_1052 : decode code 1052 = .ok (.iadd, 1) := by decide +kernel
theorem dl_1053 : decode code 1053 = .ok (.iaload, 1) := by decide +kernel
theorem dl_1054 : decode code 1054 = .ok (.ifCond .eq 7, 3) := by decide +kernel
theorem dl_1057 : decode code 1057 = .ok (.iconst 1, 1) := by decide +kernel
theorem dl_1058 : decode code 1058 = .ok (.goto 4, 3) := by decide +kernel
theorem dl_1061 : decode code 1061 = .ok (.iconst 0, 1) := by decide +kernel
theorem dl_1062 : decode code 1062 = .ok (.invokevirtual 97, 3) := by decide +kernel
theorem dl_1065 : decode code 1065 = .ok (.if_icmp .eq 516, 3) := by decide +kernel
theorem kl_93 : Jvm.Cond.methodLink R_law 93 yX11_game ∈ qm_all := List.mem_filter.mpr ⟨by decide +kernel, rfl⟩
theorem kl_97 : Jvm.Cond.methodLink R_law 97 yX12_game ∈ qm_all := List.mem_filter.mpr ⟨by decide +kernel, rfl⟩
set_option maxRecDepth 20000 in
theorem law_18 {p : Program} {l : Launch} {e : Env} {s : State} {m : MethodId} {below : List Frame} {meth : Method} {c : Code} {b L : Nat} {xs : Nat → Int32} {g : qm_G} {cells slots i : Nat} {h : qm_H} (C : qL_C p s m meth c b L xs g) (hL : L ≤ 3072) (hik : i + 6 ≤ L) (hcs : cells ≤ 600000 ∧ slots ≤ 7302250) {r : Int32} {h1 h2 : qm_H} (q1 : qX11_game 0 (xs (i + 1)) (qL_b (xs (i + 2))) (qL_b (xs (i + 3))) h = some (r, h1)) (q2 : qX12_game 62 (xs (i + 1)) (qL_b (xs (i + 2))) (qL_b (xs (i + 3))) h1 = some (r, h2)) (kk : qL_W p l e s m below meth c b g cells slots i 1581 [] h2) : qL_W p l e s m below meth c b g cells slots i 995 [] h := by
  refine qL_ldx C dl_995 ?_
  refine qL_arg C (k := 1) (by decide) (by omega) hL dl_996 dl_997 dl_998 dl_999 dl_1000 ?_
  refine qL_arg C (k := 2) (by decide) (by omega) hL dl_1001 dl_1002 dl_1003 dl_1004 dl_1005 ?_
  refine qL_bool C dl_1006 dl_1009 dl_1010 dl_1013 ?_
  refine qL_arg C (k := 3) (by decide) (by omega) hL dl_1014 dl_1015 dl_1016 dl_1017 dl_1018 ?_
  refine qL_bool C dl_1019 dl_1022 dl_1023 dl_1026 ?_
  refine qL_call C (vs := [qm_i (xs (i + 1)), qm_i (qL_b (xs (i + 2))), qm_i (qL_b (xs (i + 3)))]) (S := []) (ci := 11) (a := 0) (o := (some (qm_i r), h1)) sX11_game ⟨by decide, by decide⟩ jX11_game kl_93 uRX11 ⟨by decide, by decide, rfl⟩ iX11_game rfl C.2.2.2.2.2.2.1 (qL_ints _ (by intro v hv; simp only [List.mem_cons, List.not_mem_nil, or_false] at hv; rcases hv with rfl | rfl | rfl <;> exact ⟨_, rfl⟩)) rfl (qm_mp (G := qm_Gi) q1) (Nat.le_of_ble_eq_true rfl) dl_1027 ?_ hcs
  show qL_W p l e s m below meth c b g cells slots i 1030 [qm_i r] h1
  refine qL_ldm C dl_1030 ?_
  refine qL_arg C (k := 1) (by decide) (by omega) hL dl_1031 dl_1032 dl_1033 dl_1034 dl_1035 ?_
  refine qL_arg C (k := 2) (by decide) (by omega) hL dl_1036 dl_1037 dl_1038 dl_1039 dl_1040 ?_
  refine qL_bool C dl_1041 dl_1044 dl_1045 dl_1048 ?_
  refine qL_arg C (k := 3) (by decide) (by omega) hL dl_1049 dl_1050 dl_1051 dl_1052 dl_1053 ?_
  refine qL_bool C dl_1054 dl_1057 dl_1058 dl_1061 ?_
  refine qL_call C (vs := [qm_i (xs (i + 1)), qm_i (qL_b (xs (i + 2))), qm_i (qL_b (xs (i + 3)))]) (S := [qm_i r]) (ci := 12) (a := 62) (o := (some (qm_i r), h2)) sX12_game ⟨by decide, by decide⟩ jX12_game kl_97 uRX12 ⟨by decide, by decide, rfl⟩ iX12_game rfl C.2.2.2.2.2.2.2 (qL_ints _ (by intro v hv; simp only [List.mem_cons, List.not_mem_nil, or_false] at hv; rcases hv with rfl | rfl | rfl <;> exact ⟨_, rfl⟩)) rfl (qm_mp (G := qm_Gi) q2) (Nat.le_of_ble_eq_true rfl) dl_1062 ?_ hcs
  show qL_W p l e s m below meth c b g cells slots i 1065 [qm_i r, qm_i r] h2
  exact qL_cmp C dl_1065 (tgt := 1581) (by decide) kk

theorem dl_1070 : decode code 1070 = .ok (.aload_n 1, 1) := by decide +kernel
theorem dl_1071 : decode code 1071 = .ok (.aload_n 0, 1) := by decide +kernel
theorem dl_1072 : decode code 1072 = .ok (.iload_n 3, 1) := by decide +kernel
theorem dl_1073 : decode code 1073 = .ok (.iconst 1, 1) := by decide +kernel
theorem dl_1074 : decode code 1074 = .ok (.iadd, 1) := by decide +kernel
theorem dl_1075 : decode code 1075 = .ok (.iaload, 1) := by decide +kernel
theorem dl_1076 : decode code 1076 = .ok (.aload_n 0, 1) := by decide +kernel
theorem dl_1077 : decode code 1077 = .ok (.iload_n 3, 1) := by decide +kernel
theorem dl_1078 : decode code 1078 = .ok (.iconst 2, 1) := by decide +kernel
theorem dl_1079 : decode code 1079 = .ok (.iadd, 1) := by decide +kernel
theorem dl_1080 : decode code 1080 = .ok (.iaload, 1) := by decide +kernel
theorem dl_1081 : decode code 1081 = .ok (.invokevirtual 98, 3) := by decide +kernel
theorem dl_1084 : decode code 1084 = .ok (.aload_n 2, 1) := by decide +kernel
theorem dl_1085 : decode code 1085 = .ok (.aload_n 0, 1) := by decide +kernel
theorem dl_1086 : decode code 1086 = .ok (.iload_n 3, 1) := by decide +kernel
theorem dl_1087 : decode code 1087 = .ok (.iconst 1, 1) := by decide +kernel
theorem dl_1088 : decode code 1088 = .ok (.iadd, 1) := by decide +kernel
theorem dl_1089 : decode code 1089 = .ok (.iaload, 1) := by decide +kernel
theorem dl_1090 : decode code 1090 = .ok (.aload_n 0, 1) := by decide +kernel
theorem dl_1091 : decode code 1091 = .ok (.iload_n 3, 1) := by decide +kernel
theorem dl_1092 : decode code 1092 = .ok (.iconst 2, 1) := by decide +kernel
theorem dl_1093 : decode code 1093 = .ok (.iadd, 1) := by decide +kernel
theorem dl_1094 : decode code 1094 = .ok (.iaload, 1) := by decide +kernel
theorem dl_1095 : decode code 1095 = .ok (.invokevirtual 101, 3) := by decide +kernel
theorem dl_1098 : decode code 1098 = .ok (.if_icmp .eq 483, 3) := by decide +kernel
theorem kl_98 : Jvm.Cond.methodLink R_law 98 yX11_clues ∈ qm_all := List.mem_filter.mpr ⟨by decide +kernel, rfl⟩
theorem kl_101 : Jvm.Cond.methodLink R_law 101 yX12_clues ∈ qm_all := List.mem_filter.mpr ⟨by decide +kernel, rfl⟩
set_option maxRecDepth 20000 in
theorem law_19 {p : Program} {l : Launch} {e : Env} {s : State} {m : MethodId} {below : List Frame} {meth : Method} {c : Code} {b L : Nat} {xs : Nat → Int32} {g : qm_G} {cells slots i : Nat} {h : qm_H} (C : qL_C p s m meth c b L xs g) (hL : L ≤ 3072) (hik : i + 6 ≤ L) (hcs : cells ≤ 600000 ∧ slots ≤ 7302250) {r : Int32} {h1 h2 : qm_H} (q1 : qX11_clues 0 (xs (i + 1)) (xs (i + 2)) h = some (r, h1)) (q2 : qX12_clues 62 (xs (i + 1)) (xs (i + 2)) h1 = some (r, h2)) (kk : qL_W p l e s m below meth c b g cells slots i 1581 [] h2) : qL_W p l e s m below meth c b g cells slots i 1070 [] h := by
  refine qL_ldx C dl_1070 ?_
  refine qL_arg C (k := 1) (by decide) (by omega) hL dl_1071 dl_1072 dl_1073 dl_1074 dl_1075 ?_
  refine qL_arg C (k := 2) (by decide) (by omega) hL dl_1076 dl_1077 dl_1078 dl_1079 dl_1080 ?_
  refine qL_call C (vs := [qm_i (xs (i + 1)), qm_i (xs (i + 2))]) (S := []) (ci := 11) (a := 0) (o := (some (qm_i r), h1)) sX11_clues ⟨by decide, by decide⟩ jX11_clues kl_98 uRX11 ⟨by decide, by decide, rfl⟩ iX11_clues rfl C.2.2.2.2.2.2.1 (qL_ints _ (by intro v hv; simp only [List.mem_cons, List.not_mem_nil, or_false] at hv; rcases hv with rfl | rfl <;> exact ⟨_, rfl⟩)) rfl (qm_mp (G := qm_Gi) q1) (Nat.le_of_ble_eq_true rfl) dl_1081 ?_ hcs
  show qL_W p l e s m below meth c b g cells slots i 1084 [qm_i r] h1
  refine qL_ldm C dl_1084 ?_
  refine qL_arg C (k := 1) (by decide) (by omega) hL dl_1085 dl_1086 dl_1087 dl_1088 dl_1089 ?_
  refine qL_arg C (k := 2) (by decide) (by omega) hL dl_1090 dl_1091 dl_1092 dl_1093 dl_1094 ?_
  refine qL_call C (vs := [qm_i (xs (i + 1)), qm_i (xs (i + 2))]) (S := [qm_i r]) (ci := 12) (a := 62) (o := (some (qm_i r), h2)) sX12_clues ⟨by decide, by decide⟩ jX12_clues kl_101 uRX12 ⟨by decide, by decide, rfl⟩ iX12_clues rfl C.2.2.2.2.2.2.2 (qL_ints _ (by intro v hv; simp only [List.mem_cons, List.not_mem_nil, or_false] at hv; rcases hv with rfl | rfl <;> exact ⟨_, rfl⟩)) rfl (qm_mp (G := qm_Gi) q2) (Nat.le_of_ble_eq_true rfl) dl_1095 ?_ hcs
  show qL_W p l e s m below meth c b g cells slots i 1098 [qm_i r, qm_i r] h2
  exact qL_cmp C dl_1098 (tgt := 1581) (by decide) kk

theorem dl_1103 : decode code 1103 = .ok (.aload_n 1, 1) := by decide +kernel
theorem dl_1104 : decode code 1104 = .ok (.aload_n 0, 1) := by decide +kernel
theorem dl_1105 : decode code 1105 = .ok (.iload_n 3, 1) := by decide +kernel
theorem dl_1106 : decode code 1106 = .ok (.iconst 1, 1) := by decide +kernel
theorem dl_1107 : decode code 1107 = .ok (.iadd, 1) := by decide +kernel
theorem dl_1108 : decode code 1108 = .ok (.iaload, 1) := by decide +kernel
theorem dl_1109 : decode code 1109 = .ok (.aload_n 0, 1) := by decide +kernel
theorem dl_1110 : decode code 1110 = .ok (.iload_n 3, 1) := by decide +kernel
theorem dl_1111 : decode code 1111 = .ok (.iconst 2, 1) := by decide +kernel
theorem dl_1112 : decode code 1112 = .ok (.iadd, 1) := by decide +kernel
theorem dl_1113 : decode code 1113 = .ok (.iaload, 1) := by decide +kernel
theorem dl_1114 : decode code 1114 = .ok (.invokevirtual 102, 3) := by decide +kernel
theorem dl_1117 : decode code 1117 = .ok (.aload_n 2, 1) := by decide +kernel
theorem dl_1118 : decode code 1118 = .ok (.aload_n 0, 1) := by decide +kernel
theorem dl_1119 : decode code 1119 = .ok (.iload_n 3, 1) := by decide +kernel
theorem dl_1120 : decode code 1120 = .ok (.iconst 1, 1) := by decide +kernel
theorem dl_1121 : decode code 1121 = .ok (.iadd, 1) := by decide +kernel
theorem dl_1122 : decode code 1122 = .ok (.iaload, 1) := by decide +kernel
theorem dl_1123 : decode code 1123 = .ok (.aload_n 0, 1) := by decide +kernel
theorem dl_1124 : decode code 1124 = .ok (.iload_n 3, 1) := by decide +kernel
theorem dl_1125 : decode code 1125 = .ok (.iconst 2, 1) := by decide +kernel
theorem dl_1126 : decode code 1126 = .ok (.iadd, 1) := by decide +kernel
theorem dl_1127 : decode code 1127 = .ok (.iaload, 1) := by decide +kernel
theorem dl_1128 : decode code 1128 = .ok (.invokevirtual 105, 3) := by decide +kernel
theorem dl_1131 : decode code 1131 = .ok (.if_icmp .eq 450, 3) := by decide +kernel
theorem kl_102 : Jvm.Cond.methodLink R_law 102 yX11_gaps ∈ qm_all := List.mem_filter.mpr ⟨by decide +kernel, rfl⟩
theorem kl_105 : Jvm.Cond.methodLink R_law 105 yX12_gaps ∈ qm_all := List.mem_filter.mpr ⟨by decide +kernel, rfl⟩
set_option maxRecDepth 20000 in
theorem law_20 {p : Program} {l : Launch} {e : Env} {s : State} {m : MethodId} {below : List Frame} {meth : Method} {c : Code} {b L : Nat} {xs : Nat → Int32} {g : qm_G} {cells slots i : Nat} {h : qm_H} (C : qL_C p s m meth c b L xs g) (hL : L ≤ 3072) (hik : i + 6 ≤ L) (hcs : cells ≤ 600000 ∧ slots ≤ 7302250) {r : Int32} {h1 h2 : qm_H} (q1 : qX11_gaps 0 (xs (i + 1)) (xs (i + 2)) h = some (r, h1)) (q2 : qX12_gaps 62 (xs (i + 1)) (xs (i + 2)) h1 = some (r, h2)) (kk : qL_W p l e s m below meth c b g cells slots i 1581 [] h2) : qL_W p l e s m below meth c b g cells slots i 1103 [] h := by
  refine qL_ldx C dl_1103 ?_
  refine qL_arg C (k := 1) (by decide) (by omega) hL dl_1104 dl_1105 dl_1106 dl_1107 dl_1108 ?_
  refine qL_arg C (k := 2) (by decide) (by omega) hL dl_1109 dl_1110 dl_1111 dl_1112 dl_1113 ?_
  refine qL_call C (vs := [qm_i (xs (i + 1)), qm_i (xs (i + 2))]) (S := []) (ci := 11) (a := 0) (o := (some (qm_i r), h1)) sX11_gaps ⟨by decide, by decide⟩ jX11_gaps kl_102 uRX11 ⟨by decide, by decide, rfl⟩ iX11_gaps rfl C.2.2.2.2.2.2.1 (qL_ints _ (by intro v hv; simp only [List.mem_cons, List.not_mem_nil, or_false] at hv; rcases hv with rfl | rfl <;> exact ⟨_, rfl⟩)) rfl (qm_mp (G := qm_Gi) q1) (Nat.le_of_ble_eq_true rfl) dl_1114 ?_ hcs
  show qL_W p l e s m below meth c b g cells slots i 1117 [qm_i r] h1
  refine qL_ldm C dl_1117 ?_
  refine qL_arg C (k := 1) (by decide) (by omega) hL dl_1118 dl_1119 dl_1120 dl_1121 dl_1122 ?_
  refine qL_arg C (k := 2) (by decide) (by omega) hL dl_1123 dl_1124 dl_1125 dl_1126 dl_1127 ?_
  refine qL_call C (vs := [qm_i (xs (i + 1)), qm_i (xs (i + 2))]) (S := [qm_i r]) (ci := 12) (a := 62) (o := (some (qm_i r), h2)) sX12_gaps ⟨by decide, by decide⟩ jX12_gaps kl_105 uRX12 ⟨by decide, by decide, rfl⟩ iX12_gaps rfl C.2.2.2.2.2.2.2 (qL_ints _ (by intro v hv; simp only [List.mem_cons, List.not_mem_nil, or_false] at hv; rcases hv with rfl | rfl <;> exact ⟨_, rfl⟩)) rfl (qm_mp (G := qm_Gi) q2) (Nat.le_of_ble_eq_true rfl) dl_1128 ?_ hcs
  show qL_W p l e s m below meth c b g cells slots i 1131 [qm_i r, qm_i r] h2
  exact qL_cmp C dl_1131 (tgt := 1581) (by decide) kk

theorem dl_1136 : decode code 1136 = .ok (.aload_n 1, 1) := by decide +kernel
theorem dl_1137 : decode code 1137 = .ok (.aload_n 0, 1) := by decide +kernel
theorem dl_1138 : decode code 1138 = .ok (.iload_n 3, 1) := by decide +kernel
theorem dl_1139 : decode code 1139 = .ok (.iconst 1, 1) := by decide +kernel
theorem dl_1140 : decode code 1140 = .ok (.iadd, 1) := by decide +kernel
theorem dl_1141 : decode code 1141 = .ok (.iaload, 1) := by decide +kernel
theorem dl_1142 : decode code 1142 = .ok (.aload_n 0, 1) := by decide +kernel
theorem dl_1143 : decode code 1143 = .ok (.iload_n 3, 1) := by decide +kernel
theorem dl_1144 : decode code 1144 = .ok (.iconst 2, 1) := by decide +kernel
theorem dl_1145 : decode code 1145 = .ok (.iadd, 1) := by decide +kernel
theorem dl_1146 : decode code 1146 = .ok (.iaload, 1) := by decide +kernel
theorem dl_1147 : decode code 1147 = .ok (.aload_n 0, 1) := by decide +kernel
theorem dl_1148 : decode code 1148 = .ok (.iload_n 3, 1) := by decide +kernel
theorem dl_1149 : decode code 1149 = .ok (.iconst 3, 1) := by decide +kernel
theorem dl_1150 : decode code 1150 = .ok (.iadd, 1) := by decide +kernel
theorem dl_1151 : decode code 1151 = .ok (.iaload, 1) := by decide +kernel
theorem dl_1152 : decode code 1152 = .ok (.aload_n 0, 1) := by decide +kernel
theorem dl_1153 : decode code 1153 = .ok (.iload_n 3, 1) := by decide +kernel
theorem dl_1154 : decode code 1154 = .ok (.iconst 4, 1) := by decide +kernel
theorem dl_1155 : decode code 1155 = .ok (.iadd, 1) := by decide +kernel
theorem dl_1156 : decode code 1156 = .ok (.iaload, 1) := by decide +kernel
theorem dl_1157 : decode code 1157 = .ok (.invokevirtual 106, 3) := by decide +kernel
theorem dl_1160 : decode code 1160 = .ok (.aload_n 2, 1) := by decide +kernel
theorem dl_1161 : decode code 1161 = .ok (.aload_n 0, 1) := by decide +kernel
theorem dl_1162 : decode code 1162 = .ok (.iload_n 3, 1) := by decide +kernel
theorem dl_1163 : decode code 1163 = .ok (.iconst 1, 1) := by decide +kernel
theorem dl_1164 : decode code 1164 = .ok (.iadd, 1) := by decide +kernel
theorem dl_1165 : decode code 1165 = .ok (.iaload, 1) := by decide +kernel
theorem dl_1166 : decode code 1166 = .ok (.aload_n 0, 1) := by decide +kernel
theorem dl_1167 : decode code 1167 = .ok (.iload_n 3, 1) := by decide +kernel
theorem dl_1168 : decode code 1168 = .ok (.iconst 2, 1) := by decide +kernel
theorem dl_1169 : decode code 1169 = .ok (.iadd, 1) := by decide +kernel
theorem dl_1170 : decode code 1170 = .ok (.iaload, 1) := by decide +kernel
theorem dl_1171 : decode code 1171 = .ok (.aload_n 0, 1) := by decide +kernel
theorem dl_1172 : decode code 1172 = .ok (.iload_n 3, 1) := by decide +kernel
theorem dl_1173 : decode code 1173 = .ok (.iconst 3, 1) := by decide +kernel
theorem dl_1174 : decode code 1174 = .ok (.iadd, 1) := by decide +kernel
theorem dl_1175 : decode code 1175 = .ok (.iaload, 1) := by decide +kernel
theorem dl_1176 : decode code 1176 = .ok (.aload_n 0, 1) := by decide +kernel
theorem dl_1177 : decode code 1177 = .ok (.iload_n 3, 1) := by decide +kernel
theorem dl_1178 : decode code 1178 = .ok (.iconst 4, 1) := by decide +kernel
theorem dl_1179 : decode code 1179 = .ok (.iadd, 1) := by decide +kernel
theorem dl_1180 : decode code 1180 = .ok (.iaload, 1) := by decide +kernel
theorem dl_1181 : decode code 1181 = .ok (.invokevirtual 109, 3) := by decide +kernel
theorem dl_1184 : decode code 1184 = .ok (.if_icmp .eq 397, 3) := by decide +kernel
theorem kl_106 : Jvm.Cond.methodLink R_law 106 yX11_drawn ∈ qm_all := List.mem_filter.mpr ⟨by decide +kernel, rfl⟩
theorem kl_109 : Jvm.Cond.methodLink R_law 109 yX12_drawn ∈ qm_all := List.mem_filter.mpr ⟨by decide +kernel, rfl⟩
set_option maxRecDepth 20000 in
theorem law_21 {p : Program} {l : Launch} {e : Env} {s : State} {m : MethodId} {below : List Frame} {meth : Method} {c : Code} {b L : Nat} {xs : Nat → Int32} {g : qm_G} {cells slots i : Nat} {h : qm_H} (C : qL_C p s m meth c b L xs g) (hL : L ≤ 3072) (hik : i + 6 ≤ L) (hcs : cells ≤ 600000 ∧ slots ≤ 7302250) {r : Int32} {h1 h2 : qm_H} (q1 : qX11_drawn 0 (xs (i + 1)) (xs (i + 2)) (xs (i + 3)) (xs (i + 4)) h = some (r, h1)) (q2 : qX12_drawn 62 (xs (i + 1)) (xs (i + 2)) (xs (i + 3)) (xs (i + 4)) h1 = some (r, h2)) (kk : qL_W p l e s m below meth c b g cells slots i 1581 [] h2) : qL_W p l e s m below meth c b g cells slots i 1136 [] h := by
  refine qL_ldx C dl_1136 ?_
  refine qL_arg C (k := 1) (by decide) (by omega) hL dl_1137 dl_1138 dl_1139 dl_1140 dl_1141 ?_
  refine qL_arg C (k := 2) (by decide) (by omega) hL dl_1142 dl_1143 dl_1144 dl_1145 dl_1146 ?_
  refine qL_arg C (k := 3) (by decide) (by omega) hL dl_1147 dl_1148 dl_1149 dl_1150 dl_1151 ?_
  refine qL_arg C (k := 4) (by decide) (by omega) hL dl_1152 dl_1153 dl_1154 dl_1155 dl_1156 ?_
  refine qL_call C (vs := [qm_i (xs (i + 1)), qm_i (xs (i + 2)), qm_i (xs (i + 3)), qm_i (xs (i + 4))]) (S := []) (ci := 11) (a := 0) (o := (some (qm_i r), h1)) sX11_drawn ⟨by decide, by decide⟩ jX11_drawn kl_106 uRX11 ⟨by decide, by decide, rfl⟩ iX11_drawn rfl C.2.2.2.2.2.2.1 (qL_ints _ (by intro v hv; simp only [List.mem_cons, List.not_mem_nil, or_false] at hv; rcases hv with rfl | rfl | rfl | rfl <;> exact ⟨_, rfl⟩)) rfl (qm_mp (G := qm_Gi) q1) (Nat.le_of_ble_eq_true rfl) dl_1157 ?_ hcs
  show qL_W p l e s m below meth c b g cells slots i 1160 [qm_i r] h1
  refine qL_ldm C dl_1160 ?_
  refine qL_arg C (k := 1) (by decide) (by omega) hL dl_1161 dl_1162 dl_1163 dl_1164 dl_1165 ?_
  refine qL_arg C (k := 2) (by decide) (by omega) hL dl_1166 dl_1167 dl_1168 dl_1169 dl_1170 ?_
  refine qL_arg C (k := 3) (by decide) (by omega) hL dl_1171 dl_1172 dl_1173 dl_1174 dl_1175 ?_
  refine qL_arg C (k := 4) (by decide) (by omega) hL dl_1176 dl_1177 dl_1178 dl_1179 dl_1180 ?_
  refine qL_call C (vs := [qm_i (xs (i + 1)), qm_i (xs (i + 2)), qm_i (xs (i + 3)), qm_i (xs (i + 4))]) (S := [qm_i r]) (ci := 12) (a := 62) (o := (some (qm_i r), h2)) sX12_drawn ⟨by decide, by decide⟩ jX12_drawn kl_109 uRX12 ⟨by decide, by decide, rfl⟩ iX12_drawn rfl C.2.2.2.2.2.2.2 (qL_ints _ (by intro v hv; simp only [List.mem_cons, List.not_mem_nil, or_false] at hv; rcases hv with rfl | rfl | rfl | rfl <;> exact ⟨_, rfl⟩)) rfl (qm_mp (G := qm_Gi) q2) (Nat.le_of_ble_eq_true rfl) dl_1181 ?_ hcs
  show qL_W p l e s m below meth c b g cells slots i 1184 [qm_i r, qm_i r] h2
  exact qL_cmp C dl_1184 (tgt := 1581) (by decide) kk

theorem dl_1189 : decode code 1189 = .ok (.aload_n 1, 1) := by decide +kernel
theorem dl_1190 : decode code 1190 = .ok (.aload_n 0, 1) := by decide +kernel
theorem dl_1191 : decode code 1191 = .ok (.iload_n 3, 1) := by decide +kernel
theorem dl_1192 : decode code 1192 = .ok (.iconst 1, 1) := by decide +kernel
theorem dl_1193 : decode code 1193 = .ok (.iadd, 1) := by decide +kernel
theorem dl_1194 : decode code 1194 = .ok (.iaload, 1) := by decide +kernel
theorem dl_1195 : decode code 1195 = .ok (.aload_n 0, 1) := by decide +kernel
theorem dl_1196 : decode code 1196 = .ok (.iload_n 3, 1) := by decide +kernel
theorem dl_1197 : decode code 1197 = .ok (.iconst 2, 1) := by decide +kernel
theorem dl_1198 : decode code 1198 = .ok (.iadd, 1) := by decide +kernel
theorem dl_1199 : decode code 1199 = .ok (.iaload, 1) := by decide +kernel
theorem dl_1200 : decode code 1200 = .ok (.aload_n 0, 1) := by decide +kernel
theorem dl_1201 : decode code 1201 = .ok (.iload_n 3, 1) := by decide +kernel
theorem dl_1202 : decode code 1202 = .ok (.iconst 3, 1) := by decide +kernel
theorem dl_1203 : decode code 1203 = .ok (.iadd, 1) := by decide +kernel
theorem dl_1204 : decode code 1204 = .ok (.iaload, 1) := by decide +kernel
theorem dl_1205 : decode code 1205 = .ok (.aload_n 0, 1) := by decide +kernel
theorem dl_1206 : decode code 1206 = .ok (.iload_n 3, 1) := by decide +kernel
theorem dl_1207 : decode code 1207 = .ok (.iconst 4, 1) := by decide +kernel
theorem dl_1208 : decode code 1208 = .ok (.iadd, 1) := by decide +kernel
theorem dl_1209 : decode code 1209 = .ok (.iaload, 1) := by decide +kernel
theorem dl_1210 : decode code 1210 = .ok (.invokevirtual 110, 3) := by decide +kernel
theorem dl_1213 : decode code 1213 = .ok (.aload_n 2, 1) := by decide +kernel
theorem dl_1214 : decode code 1214 = .ok (.aload_n 0, 1) := by decide +kernel
theorem dl_1215 : decode code 1215 = .ok (.iload_n 3, 1) := by decide +kernel
theorem dl_1216 : decode code 1216 = .ok (.iconst 1, 1) := by decide +kernel
theorem dl_1217 : decode code 1217 = .ok (.iadd, 1) := by decide +kernel
theorem dl_1218 : decode code 1218 = .ok (.iaload, 1) := by decide +kernel
theorem dl_1219 : decode code 1219 = .ok (.aload_n 0, 1) := by decide +kernel
theorem dl_1220 : decode code 1220 = .ok (.iload_n 3, 1) := by decide +kernel
theorem dl_1221 : decode code 1221 = .ok (.iconst 2, 1) := by decide +kernel
theorem dl_1222 : decode code 1222 = .ok (.iadd, 1) := by decide +kernel
theorem dl_1223 : decode code 1223 = .ok (.iaload, 1) := by decide +kernel
theorem dl_1224 : decode code 1224 = .ok (.aload_n 0, 1) := by decide +kernel
theorem dl_1225 : decode code 1225 = .ok (.iload_n 3, 1) := by decide +kernel
theorem dl_1226 : decode code 1226 = .ok (.iconst 3, 1) := by decide +kernel
theorem dl_1227 : decode code 1227 = .ok (.iadd, 1) := by decide +kernel
theorem dl_1228 : decode code 1228 = .ok (.iaload, 1) := by decide +kernel
theorem dl_1229 : decode code 1229 = .ok (.aload_n 0, 1) := by decide +kernel
theorem dl_1230 : decode code 1230 = .ok (.iload_n 3, 1) := by decide +kernel
theorem dl_1231 : decode code 1231 = .ok (.iconst 4, 1) := by decide +kernel
theorem dl_1232 : decode code 1232 = .ok (.iadd, 1) := by decide +kernel
theorem dl_1233 : decode code 1233 = .ok (.iaload, 1) := by decide +kernel
theorem dl_1234 : decode code 1234 = .ok (.invokevirtual 113, 3) := by decide +kernel
theorem dl_1237 : decode code 1237 = .ok (.if_icmp .eq 344, 3) := by decide +kernel
theorem kl_110 : Jvm.Cond.methodLink R_law 110 yX11_precedent ∈ qm_all := List.mem_filter.mpr ⟨by decide +kernel, rfl⟩
theorem kl_113 : Jvm.Cond.methodLink R_law 113 yX12_precedent ∈ qm_all := List.mem_filter.mpr ⟨by decide +kernel, rfl⟩
set_option maxRecDepth 20000 in
theorem law_22 {p : Program} {l : Launch} {e : Env} {s : State} {m : MethodId} {below : List Frame} {meth : Method} {c : Code} {b L : Nat} {xs : Nat → Int32} {g : qm_G} {cells slots i : Nat} {h : qm_H} (C : qL_C p s m meth c b L xs g) (hL : L ≤ 3072) (hik : i + 6 ≤ L) (hcs : cells ≤ 600000 ∧ slots ≤ 7302250) {r : Int32} {h1 h2 : qm_H} (q1 : qX11_precedent 0 (xs (i + 1)) (xs (i + 2)) (xs (i + 3)) (xs (i + 4)) h = some (r, h1)) (q2 : qX12_precedent 62 (xs (i + 1)) (xs (i + 2)) (xs (i + 3)) (xs (i + 4)) h1 = some (r, h2)) (kk : qL_W p l e s m below meth c b g cells slots i 1581 [] h2) : qL_W p l e s m below meth c b g cells slots i 1189 [] h := by
  refine qL_ldx C dl_1189 ?_
  refine qL_arg C (k := 1) (by decide) (by omega) hL dl_1190 dl_1191 dl_1192 dl_1193 dl_1194 ?_
  refine qL_arg C (k := 2) (by decide) (by omega) hL dl_1195 dl_1196 dl_1197 dl_1198 dl_1199 ?_
  refine qL_arg C (k := 3) (by decide) (by omega) hL dl_1200 dl_1201 dl_1202 dl_1203 dl_1204 ?_
  refine qL_arg C (k := 4) (by decide) (by omega) hL dl_1205 dl_1206 dl_1207 dl_1208 dl_1209 ?_
  refine qL_call C (vs := [qm_i (xs (i + 1)), qm_i (xs (i + 2)), qm_i (xs (i + 3)), qm_i (xs (i + 4))]) (S := []) (ci := 11) (a := 0) (o := (some (qm_i r), h1)) sX11_precedent ⟨by decide, by decide⟩ jX11_precedent kl_110 uRX11 ⟨by decide, by decide, rfl⟩ iX11_precedent rfl C.2.2.2.2.2.2.1 (qL_ints _ (by intro v hv; simp only [List.mem_cons, List.not_mem_nil, or_false] at hv; rcases hv with rfl | rfl | rfl | rfl <;> exact ⟨_, rfl⟩)) rfl (qm_mp (G := qm_Gi) q1) (Nat.le_of_ble_eq_true rfl) dl_1210 ?_ hcs
  show qL_W p l e s m below meth c b g cells slots i 1213 [qm_i r] h1
  refine qL_ldm C dl_1213 ?_
  refine qL_arg C (k := 1) (by decide) (by omega) hL dl_1214 dl_1215 dl_1216 dl_1217 dl_1218 ?_
  refine qL_arg C (k := 2) (by decide) (by omega) hL dl_1219 dl_1220 dl_1221 dl_1222 dl_1223 ?_
  refine qL_arg C (k := 3) (by decide) (by omega) hL dl_1224 dl_1225 dl_1226 dl_1227 dl_1228 ?_
  refine qL_arg C (k := 4) (by decide) (by omega) hL dl_1229 dl_1230 dl_1231 dl_1232 dl_1233 ?_
  refine qL_call C (vs := [qm_i (xs (i + 1)), qm_i (xs (i + 2)), qm_i (xs (i + 3)), qm_i (xs (i + 4))]) (S := [qm_i r]) (ci := 12) (a := 62) (o := (some (qm_i r), h2)) sX12_precedent ⟨by decide, by decide⟩ jX12_precedent kl_113 uRX12 ⟨by decide, by decide, rfl⟩ iX12_precedent rfl C.2.2.2.2.2.2.2 (qL_ints _ (by intro v hv; simp only [List.mem_cons, List.not_mem_nil, or_false] at hv; rcases hv with rfl | rfl | rfl | rfl <;> exact ⟨_, rfl⟩)) rfl (qm_mp (G := qm_Gi) q2) (Nat.le_of_ble_eq_true rfl) dl_1234 ?_ hcs
  show qL_W p l e s m below meth c b g cells slots i 1237 [qm_i r, qm_i r] h2
  exact qL_cmp C dl_1237 (tgt := 1581) (by decide) kk

theorem dl_1242 : decode code 1242 = .ok (.aload_n 1, 1) := by decide +kernel
theorem dl_1243 : decode code 1243 = .ok (.aload_n 0, 1) := by decide +kernel
theorem dl_1244 : decode code 1244 = .ok (.iload_n 3, 1) := by decide +kernel
theorem dl_1245 : decode code 1245 = .ok (.iconst 1, 1) := by decide +kernel
theorem dl_1246 : decode code 1246 = .ok (.iadd, 1) := by decide +kernel
theorem dl_1247 : decode code 1247 = .ok (.iaload, 1) := by decide +kernel
theorem dl_1248 : decode code 1248 = .ok (.aload_n 0, 1) := by decide +kernel
theorem dl_1249 : decode code 1249 = .ok (.iload_n 3, 1) := by decide +kernel
theorem dl_1250 : decode code 1250 = .ok (.iconst 2, 1) := by decide +kernel
theorem dl_1251 : decode code 1251 = .ok (.iadd, 1) := by decide +kernel
theorem dl_1252 : decode code 1252 = .ok (.iaload, 1) := by decide +kernel
theorem dl_1253 : decode code 1253 = .ok (.aload_n 0, 1) := by decide +kernel
theorem dl_1254 : decode code 1254 = .ok (.iload_n 3, 1) := by decide +kernel
theorem dl_1255 : decode code 1255 = .ok (.iconst 3, 1) := by decide +kernel
theorem dl_1256 : decode code 1256 = .ok (.iadd, 1) := by decide +kernel
theorem dl_1257 : decode code 1257 = .ok (.iaload, 1) := by decide +kernel
theorem dl_1258 : decode code 1258 = .ok (.aload_n 0, 1) := by decide +kernel
theorem dl_1259 : decode code 1259 = .ok (.iload_n 3, 1) := by decide +kernel
theorem dl_1260 : decode code 1260 = .ok (.iconst 4, 1) := by decide +kernel
theorem dl_1261 : decode code 1261 = .ok (.iadd, 1) := by decide +kernel
theorem dl_1262 : decode code 1262 = .ok (.iaload, 1) := by decide +kernel
theorem dl_1263 : decode code 1263 = .ok (.ifCond .eq 7, 3) := by decide +kernel
theorem dl_1266 : decode code 1266 = .ok (.iconst 1, 1) := by decide +kernel
theorem dl_1267 : decode code 1267 = .ok (.goto 4, 3) := by decide +kernel
theorem dl_1270 : decode code 1270 = .ok (.iconst 0, 1) := by decide +kernel
theorem dl_1271 : decode code 1271 = .ok (.invokevirtual 114, 3) := by decide +kernel
theorem dl_1274 : decode code 1274 = .ok (.aload_n 2, 1) := by decide +kernel
theorem dl_1275 : decode code 1275 = .ok (.aload_n 0, 1) := by decide +kernel
theorem dl_1276 : decode code 1276 = .ok (.iload_n 3, 1) := by decide +kernel
theorem dl_1277 : decode code 1277 = .ok (.iconst 1, 1) := by decide +kernel
theorem dl_1278 : decode code 1278 = .ok (.iadd, 1) := by decide +kernel
theorem dl_1279 : decode code 1279 = .ok (.iaload, 1) := by decide +kernel
theorem dl_1280 : decode code 1280 = .ok (.aload_n 0, 1) := by decide +kernel
theorem dl_1281 : decode code 1281 = .ok (.iload_n 3, 1) := by decide +kernel
theorem dl_1282 : decode code 1282 = .ok (.iconst 2, 1) := by decide +kernel
theorem dl_1283 : decode code 1283 = .ok (.iadd, 1) := by decide +kernel
theorem dl_1284 : decode code 1284 = .ok (.iaload, 1) := by decide +kernel
theorem dl_1285 : decode code 1285 = .ok (.aload_n 0, 1) := by decide +kernel
theorem dl_1286 : decode code 1286 = .ok (.iload_n 3, 1) := by decide +kernel
theorem dl_1287 : decode code 1287 = .ok (.iconst 3, 1) := by decide +kernel
theorem dl_1288 : decode code 1288 = .ok (.iadd, 1) := by decide +kernel
theorem dl_1289 : decode code 1289 = .ok (.iaload, 1) := by decide +kernel
theorem dl_1290 : decode code 1290 = .ok (.aload_n 0, 1) := by decide +kernel
theorem dl_1291 : decode code 1291 = .ok (.iload_n 3, 1) := by decide +kernel
theorem dl_1292 : decode code 1292 = .ok (.iconst 4, 1) := by decide +kernel
theorem dl_1293 : decode code 1293 = .ok (.iadd, 1) := by decide +kernel
theorem dl_1294 : decode code 1294 = .ok (.iaload, 1) := by decide +kernel
theorem dl_1295 : decode code 1295 = .ok (.ifCond .eq 7, 3) := by decide +kernel
theorem dl_1298 : decode code 1298 = .ok (.iconst 1, 1) := by decide +kernel
theorem dl_1299 : decode code 1299 = .ok (.goto 4, 3) := by decide +kernel
theorem dl_1302 : decode code 1302 = .ok (.iconst 0, 1) := by decide +kernel
theorem dl_1303 : decode code 1303 = .ok (.invokevirtual 117, 3) := by decide +kernel
theorem dl_1306 : decode code 1306 = .ok (.if_icmp .eq 275, 3) := by decide +kernel
theorem kl_114 : Jvm.Cond.methodLink R_law 114 yX11_stout ∈ qm_all := List.mem_filter.mpr ⟨by decide +kernel, rfl⟩
theorem kl_117 : Jvm.Cond.methodLink R_law 117 yX12_stout ∈ qm_all := List.mem_filter.mpr ⟨by decide +kernel, rfl⟩
set_option maxRecDepth 20000 in
theorem law_23 {p : Program} {l : Launch} {e : Env} {s : State} {m : MethodId} {below : List Frame} {meth : Method} {c : Code} {b L : Nat} {xs : Nat → Int32} {g : qm_G} {cells slots i : Nat} {h : qm_H} (C : qL_C p s m meth c b L xs g) (hL : L ≤ 3072) (hik : i + 6 ≤ L) (hcs : cells ≤ 600000 ∧ slots ≤ 7302250) {r : Int32} {h1 h2 : qm_H} (q1 : qX11_stout 0 (xs (i + 1)) (xs (i + 2)) (xs (i + 3)) (qL_b (xs (i + 4))) h = some (r, h1)) (q2 : qX12_stout 62 (xs (i + 1)) (xs (i + 2)) (xs (i + 3)) (qL_b (xs (i + 4))) h1 = some (r, h2)) (kk : qL_W p l e s m below meth c b g cells slots i 1581 [] h2) : qL_W p l e s m below meth c b g cells slots i 1242 [] h := by
  refine qL_ldx C dl_1242 ?_
  refine qL_arg C (k := 1) (by decide) (by omega) hL dl_1243 dl_1244 dl_1245 dl_1246 dl_1247 ?_
  refine qL_arg C (k := 2) (by decide) (by omega) hL dl_1248 dl_1249 dl_1250 dl_1251 dl_1252 ?_
  refine qL_arg C (k := 3) (by decide) (by omega) hL dl_1253 dl_1254 dl_1255 dl_1256 dl_1257 ?_
  refine qL_arg C (k := 4) (by decide) (by omega) hL dl_1258 dl_1259 dl_1260 dl_1261 dl_1262 ?_
  refine qL_bool C dl_1263 dl_1266 dl_1267 dl_1270 ?_
  refine qL_call C (vs := [qm_i (xs (i + 1)), qm_i (xs (i + 2)), qm_i (xs (i + 3)), qm_i (qL_b (xs (i + 4)))]) (S := []) (ci := 11) (a := 0) (o := (some (qm_i r), h1)) sX11_stout ⟨by decide, by decide⟩ jX11_stout kl_114 uRX11 ⟨by decide, by decide, rfl⟩ iX11_stout rfl C.2.2.2.2.2.2.1 (qL_ints _ (by intro v hv; simp only [List.mem_cons, List.not_mem_nil, or_false] at hv; rcases hv with rfl | rfl | rfl | rfl <;> exact ⟨_, rfl⟩)) rfl (qm_mp (G := qm_Gi) q1) (Nat.le_of_ble_eq_true rfl) dl_1271 ?_ hcs
  show qL_W p l e s m below meth c b g cells slots i 1274 [qm_i r] h1
  refine qL_ldm C dl_1274 ?_
  refine qL_arg C (k := 1) (by decide) (by omega) hL dl_1275 dl_1276 dl_1277 dl_1278 dl_1279 ?_
  refine qL_arg C (k := 2) (by decide) (by omega) hL dl_1280 dl_1281 dl_1282 dl_1283 dl_1284 ?_
  refine qL_arg C (k := 3) (by decide) (by omega) hL dl_1285 dl_1286 dl_1287 dl_1288 dl_1289 ?_
  refine qL_arg C (k := 4) (by decide) (by omega) hL dl_1290 dl_1291 dl_1292 dl_1293 dl_1294 ?_
  refine qL_bool C dl_1295 dl_1298 dl_1299 dl_1302 ?_
  refine qL_call C (vs := [qm_i (xs (i + 1)), qm_i (xs (i + 2)), qm_i (xs (i + 3)), qm_i (qL_b (xs (i + 4)))]) (S := [qm_i r]) (ci := 12) (a := 62) (o := (some (qm_i r), h2)) sX12_stout ⟨by decide, by decide⟩ jX12_stout kl_117 uRX12 ⟨by decide, by decide, rfl⟩ iX12_stout rfl C.2.2.2.2.2.2.2 (qL_ints _ (by intro v hv; simp only [List.mem_cons, List.not_mem_nil, or_false] at hv; rcases hv with rfl | rfl | rfl | rfl <;> exact ⟨_, rfl⟩)) rfl (qm_mp (G := qm_Gi) q2) (Nat.le_of_ble_eq_true rfl) dl_1303 ?_ hcs
  show qL_W p l e s m below meth c b g cells slots i 1306 [qm_i r, qm_i r] h2
  exact qL_cmp C dl_1306 (tgt := 1581) (by decide) kk

