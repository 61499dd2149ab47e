theorem qL_ints {g : qm_G} (vs : List qm_V) (h : ∀ v ∈ vs, ∃ x : Int32, v = qm_i x) : ∀ v ∈ vs, qm_okv g v := fun v hv => by
  obtain ⟨x, rfl⟩ := h v hv
  trivial
theorem dl_176 : decode code 176 = .ok (.aload_n 1, 1) := by decide +kernel
theorem dl_177 : decode code 177 = .ok (.aload_n 0, 1) := by decide +kernel
theorem dl_178 : decode code 178 = .ok (.iload_n 3, 1) := by decide +kernel
theorem dl_179 : decode code 179 = .ok (.iconst 1, 1) := by decide +kernel
theorem dl_180 : decode code 180 = .ok (.iadd, 1) := by decide +kernel
theorem dl_181 : decode code 181 = .ok (.iaload, 1) := by decide +kernel
theorem dl_182 : decode code 182 = .ok (.aload_n 0, 1) := by decide +kernel
theorem dl_183 : decode code 183 = .ok (.iload_n 3, 1) := by decide +kernel
theorem dl_184 : decode code 184 = .ok (.iconst 2, 1) := by decide +kernel
theorem dl_185 : decode code 185 = .ok (.iadd, 1) := by decide +kernel
theorem dl_186 : decode code 186 = .ok (.iaload, 1) := by decide +kernel
theorem dl_187 : decode code 187 = .ok (.aload_n 0, 1) := by decide +kernel
theorem dl_188 : decode code 188 = .ok (.iload_n 3, 1) := by decide +kernel
theorem dl_189 : decode code 189 = .ok (.iconst 3, 1) := by decide +kernel
theorem dl_190 : decode code 190 = .ok (.iadd, 1) := by decide +kernel
theorem dl_191 : decode code 191 = .ok (.iaload, 1) := by decide +kernel
theorem dl_192 : decode code 192 = .ok (.aload_n 0, 1) := by decide +kernel
theorem dl_193 : decode code 193 = .ok (.iload_n 3, 1) := by decide +kernel
theorem dl_194 : decode code 194 = .ok (.iconst 4, 1) := by decide +kernel
theorem dl_195 : decode code 195 = .ok (.iadd, 1) := by decide +kernel
theorem dl_196 : decode code 196 = .ok (.iaload, 1) := by decide +kernel
theorem dl_197 : decode code 197 = .ok (.aload_n 0, 1) := by decide +kernel
theorem dl_198 : decode code 198 = .ok (.iload_n 3, 1) := by decide +kernel
theorem dl_199 : decode code 199 = .ok (.iconst 5, 1) := by decide +kernel
theorem dl_200 : decode code 200 = .ok (.iadd, 1) := by decide +kernel
theorem dl_201 : decode code 201 = .ok (.iaload, 1) := by decide +kernel
theorem dl_202 : decode code 202 = .ok (.invokevirtual 13, 3) := by decide +kernel
theorem dl_205 : decode code 205 = .ok (.aload_n 2, 1) := by decide +kernel
theorem dl_206 : decode code 206 = .ok (.aload_n 0, 1) := by decide +kernel
theorem dl_207 : decode code 207 = .ok (.iload_n 3, 1) := by decide +kernel
theorem dl_208 : decode code 208 = .ok (.iconst 1, 1) := by decide +kernel
theorem dl_209 : decode code 209 = .ok (.iadd, 1) := by decide +kernel
theorem dl_210 : decode code 210 = .ok (.iaload, 1) := by decide +kernel
theorem dl_211 : decode code 211 = .ok (.aload_n 0, 1) := by decide +kernel
theorem dl_212 : decode code 212 = .ok (.iload_n 3, 1) := by decide +kernel
theorem dl_213 : decode code 213 = .ok (.iconst 2, 1) := by decide +kernel
theorem dl_214 : decode code 214 = .ok (.iadd, 1) := by decide +kernel
theorem dl_215 : decode code 215 = .ok (.iaload, 1) := by decide +kernel
theorem dl_216 : decode code 216 = .ok (.aload_n 0, 1) := by decide +kernel
theorem dl_217 : decode code 217 = .ok (.iload_n 3, 1) := by decide +kernel
theorem dl_218 : decode code 218 = .ok (.iconst 3, 1) := by decide +kernel
theorem dl_219 : decode code 219 = .ok (.iadd, 1) := by decide +kernel
theorem dl_220 : decode code 220 = .ok (.iaload, 1) := by decide +kernel
theorem dl_221 : decode code 221 = .ok (.aload_n 0, 1) := by decide +kernel
theorem dl_222 : decode code 222 = .ok (.iload_n 3, 1) := by decide +kernel
theorem dl_223 : decode code 223 = .ok (.iconst 4, 1) := by decide +kernel
theorem dl_224 : decode code 224 = .ok (.iadd, 1) := by decide +kernel
theorem dl_225 : decode code 225 = .ok (.iaload, 1) := by decide +kernel
theorem dl_226 : decode code 226 = .ok (.aload_n 0, 1) := by decide +kernel
theorem dl_227 : decode code 227 = .ok (.iload_n 3, 1) := by decide +kernel
theorem dl_228 : decode code 228 = .ok (.iconst 5, 1) := by decide +kernel
theorem dl_229 : decode code 229 = .ok (.iadd, 1) := by decide +kernel
theorem dl_230 : decode code 230 = .ok (.iaload, 1) := by decide +kernel
theorem dl_231 : decode code 231 = .ok (.invokevirtual 17, 3) := by decide +kernel
theorem dl_234 : decode code 234 = .ok (.if_icmp .eq 1347, 3) := by decide +kernel
theorem kl_13 : Jvm.Cond.methodLink R_law 13 yX11_feed ∈ qm_all := List.mem_filter.mpr ⟨by decide +kernel, rfl⟩
theorem kl_17 : Jvm.Cond.methodLink R_law 17 yX12_feed ∈ qm_all := List.mem_filter.mpr ⟨by decide +kernel, rfl⟩
set_option maxRecDepth 20000 in
theorem law_0 {p : Program} {l : Launch} {e : Env} {s : State} {m : MethodId} {below : List Frame} {meth : Method} {c : Code} {b L : Nat} {xs : Nat → Int32} {g : qm_G} {cells slots i : Nat} {h : qm_H} (C : qL_C p s m meth c b L xs g) (hL : L ≤ 3072) (hik : i + 6 ≤ L) (hcs : cells ≤ 600000 ∧ slots ≤ 7302250) {r : Int32} {h1 h2 : qm_H} (q1 : qX11_feed 0 (xs (i + 1)) (xs (i + 2)) (xs (i + 3)) (xs (i + 4)) (xs (i + 5)) h = some (r, h1)) (q2 : qX12_feed 62 (xs (i + 1)) (xs (i + 2)) (xs (i + 3)) (xs (i + 4)) (xs (i + 5)) h1 = some (r, h2)) (kk : qL_W p l e s m below meth c b g cells slots i 1581 [] h2) : qL_W p l e s m below meth c b g cells slots i 176 [] h := by
  refine qL_ldx C dl_176 ?_
  refine qL_arg C (k := 1) (by decide) (by omega) hL dl_177 dl_178 dl_179 dl_180 dl_181 ?_
  refine qL_arg C (k := 2) (by decide) (by omega) hL dl_182 dl_183 dl_184 dl_185 dl_186 ?_
  refine qL_arg C (k := 3) (by decide) (by omega) hL dl_187 dl_188 dl_189 dl_190 dl_191 ?_
  refine qL_arg C (k := 4) (by decide) (by omega) hL dl_192 dl_193 dl_194 dl_195 dl_196 ?_
  refine qL_arg C (k := 5) (by decide) (by omega) hL dl_197 dl_198 dl_199 dl_200 dl_201 ?_
  refine qL_call C (vs := [qm_i (xs (i + 1)), qm_i (xs (i + 2)), qm_i (xs (i + 3)), qm_i (xs (i + 4)), qm_i (xs (i + 5))]) (S := []) (ci := 11) (a := 0) (o := (some (qm_i r), h1)) sX11_feed ⟨by decide, by decide⟩ jX11_feed kl_13 uRX11 ⟨by decide, by decide, rfl⟩ iX11_feed rfl C.2.2.2.2.2.2.1 (qL_ints _ (by intro v hv; simp only [List.mem_cons, List.not_mem_nil, or_false] at hv; rcases hv with rfl | rfl | rfl | rfl | rfl <;> exact ⟨_, rfl⟩)) rfl (qm_mp (G := qm_Gi) q1) (Nat.le_of_ble_eq_true rfl) dl_202 ?_ hcs
  show qL_W p l e s m below meth c b g cells slots i 205 [qm_i r] h1
  refine qL_ldm C dl_205 ?_
  refine qL_arg C (k := 1) (by decide) (by omega) hL dl_206 dl_207 dl_208 dl_209 dl_210 ?_
  refine qL_arg C (k := 2) (by decide) (by omega) hL dl_211 dl_212 dl_213 dl_214 dl_215 ?_
  refine qL_arg C (k := 3) (by decide) (by omega) hL dl_216 dl_217 dl_218 dl_219 dl_220 ?_
  refine qL_arg C (k := 4) (by decide) (by omega) hL dl_221 dl_222 dl_223 dl_224 dl_225 ?_
  refine qL_arg C (k := 5) (by decide) (by omega) hL dl_226 dl_227 dl_228 dl_229 dl_230 ?_
  refine qL_call C (vs := [qm_i (xs (i + 1)), qm_i (xs (i + 2)), qm_i (xs (i + 3)), qm_i (xs (i + 4)), qm_i (xs (i + 5))]) (S := [qm_i r]) (ci := 12) (a := 62) (o := (some (qm_i r), h2)) sX12_feed ⟨by decide, by decide⟩ jX12_feed kl_17 uRX12 ⟨by decide, by decide, rfl⟩ iX12_feed rfl C.2.2.2.2.2.2.2 (qL_ints _ (by intro v hv; simp only [List.mem_cons, List.not_mem_nil, or_false] at hv; rcases hv with rfl | rfl | rfl | rfl | rfl <;> exact ⟨_, rfl⟩)) rfl (qm_mp (G := qm_Gi) q2) (Nat.le_of_ble_eq_true rfl) dl_231 ?_ hcs
  show qL_W p l e s m below meth c b g cells slots i 234 [qm_i r, qm_i r] h2
  exact qL_cmp C dl_234 (tgt := 1581) (by decide) kk

theorem dl_239 : decode code 239 = .ok (.aload_n 1, 1) := by decide +kernel
theorem dl_240 : decode code 240 = .ok (.aload_n 0, 1) := by decide +kernel
theorem dl_241 : decode code 241 = .ok (.iload_n 3, 1) := by decide +kernel
theorem dl_242 : decode code 242 = .ok (.iconst 1, 1) := by decide +kernel
theorem dl_243 : decode code 243 = .ok (.iadd, 1) := by decide +kernel
theorem dl_244 : decode code 244 = .ok (.iaload, 1) := by decide +kernel
theorem dl_245 : decode code 245 = .ok (.invokevirtual 18, 3) := by decide +kernel
theorem dl_248 : decode code 248 = .ok (.aload_n 2, 1) := by decide +kernel
theorem dl_249 : decode code 249 = .ok (.aload_n 0, 1) := by decide +kernel
theorem dl_250 : decode code 250 = .ok (.iload_n 3, 1) := by decide +kernel
theorem dl_251 : decode code 251 = .ok (.iconst 1, 1) := by decide +kernel
theorem dl_252 : decode code 252 = .ok (.iadd, 1) := by decide +kernel
theorem dl_253 : decode code 253 = .ok (.iaload, 1) := by decide +kernel
theorem dl_254 : decode code 254 = .ok (.invokevirtual 22, 3) := by decide +kernel
theorem dl_257 : decode code 257 = .ok (.if_icmp .eq 1324, 3) := by decide +kernel
theorem kl_18 : Jvm.Cond.methodLink R_law 18 yX11_end ∈ qm_all := List.mem_filter.mpr ⟨by decide +kernel, rfl⟩
theorem kl_22 : Jvm.Cond.methodLink R_law 22 yX12_end ∈ qm_all := List.mem_filter.mpr ⟨by decide +kernel, rfl⟩
set_option maxRecDepth 20000 in
theorem law_1 {p : Program} {l : Launch} {e : Env} {s : State} {m : MethodId} {below : List Frame} {meth : Method} {c : Code} {b L : Nat} {xs : Nat → Int32} {g : qm_G} {cells slots i : Nat} {h : qm_H} (C : qL_C p s m meth c b L xs g) (hL : L ≤ 3072) (hik : i + 6 ≤ L) (hcs : cells ≤ 600000 ∧ slots ≤ 7302250) {r : Int32} {h1 h2 : qm_H} (q1 : qX11_end 0 (xs (i + 1)) h = some (r, h1)) (q2 : qX12_end 62 (xs (i + 1)) h1 = some (r, h2)) (kk : qL_W p l e s m below meth c b g cells slots i 1581 [] h2) : qL_W p l e s m below meth c b g cells slots i 239 [] h := by
  refine qL_ldx C dl_239 ?_
  refine qL_arg C (k := 1) (by decide) (by omega) hL dl_240 dl_241 dl_242 dl_243 dl_244 ?_
  refine qL_call C (vs := [qm_i (xs (i + 1))]) (S := []) (ci := 11) (a := 0) (o := (some (qm_i r), h1)) sX11_end ⟨by decide, by decide⟩ jX11_end kl_18 uRX11 ⟨by decide, by decide, rfl⟩ iX11_end rfl C.2.2.2.2.2.2.1 (qL_ints _ (by intro v hv; simp only [List.mem_cons, List.not_mem_nil, or_false] at hv; rcases hv with rfl <;> exact ⟨_, rfl⟩)) rfl (qm_mp (G := qm_Gi) q1) (Nat.le_of_ble_eq_true rfl) dl_245 ?_ hcs
  show qL_W p l e s m below meth c b g cells slots i 248 [qm_i r] h1
  refine qL_ldm C dl_248 ?_
  refine qL_arg C (k := 1) (by decide) (by omega) hL dl_249 dl_250 dl_251 dl_252 dl_253 ?_
  refine qL_call C (vs := [qm_i (xs (i + 1))]) (S := [qm_i r]) (ci := 12) (a := 62) (o := (some (qm_i r), h2)) sX12_end ⟨by decide, by decide⟩ jX12_end kl_22 uRX12 ⟨by decide, by decide, rfl⟩ iX12_end rfl C.2.2.2.2.2.2.2 (qL_ints _ (by intro v hv; simp only [List.mem_cons, List.not_mem_nil, or_false] at hv; rcases hv with rfl <;> exact ⟨_, rfl⟩)) rfl (qm_mp (G := qm_Gi) q2) (Nat.le_of_ble_eq_true rfl) dl_254 ?_ hcs
  show qL_W p l e s m below meth c b g cells slots i 257 [qm_i r, qm_i r] h2
  exact qL_cmp C dl_257 (tgt := 1581) (by decide) kk

theorem dl_262 : decode code 262 = .ok (.aload_n 1, 1) := by decide +kernel
theorem dl_263 : decode code 263 = .ok (.aload_n 0, 1) := by decide +kernel
theorem dl_264 : decode code 264 = .ok (.iload_n 3, 1) := by decide +kernel
theorem dl_265 : decode code 265 = .ok (.iconst 1, 1) := by decide +kernel
theorem dl_266 : decode code 266 = .ok (.iadd, 1) := by decide +kernel
theorem dl_267 : decode code 267 = .ok (.iaload, 1) := by decide +kernel
theorem dl_268 : decode code 268 = .ok (.aload_n 0, 1) := by decide +kernel
theorem dl_269 : decode code 269 = .ok (.iload_n 3, 1) := by decide +kernel
theorem dl_270 : decode code 270 = .ok (.iconst 2, 1) := by decide +kernel
theorem dl_271 : decode code 271 = .ok (.iadd, 1) := by decide +kernel
theorem dl_272 : decode code 272 = .ok (.iaload, 1) := by decide +kernel
theorem dl_273 : decode code 273 = .ok (.invokevirtual 23, 3) := by decide +kernel
theorem dl_276 : decode code 276 = .ok (.aload_n 2, 1) := by decide +kernel
theorem dl_277 : decode code 277 = .ok (.aload_n 0, 1) := by decide +kernel
theorem dl_278 : decode code 278 = .ok (.iload_n 3, 1) := by decide +kernel
theorem dl_279 : decode code 279 = .ok (.iconst 1, 1) := by decide +kernel
theorem dl_280 : decode code 280 = .ok (.iadd, 1) := by decide +kernel
theorem dl_281 : decode code 281 = .ok (.iaload, 1) := by decide +kernel
theorem dl_282 : decode code 282 = .ok (.aload_n 0, 1) := by decide +kernel
theorem dl_283 : decode code 283 = .ok (.iload_n 3, 1) := by decide +kernel
theorem dl_284 : decode code 284 = .ok (.iconst 2, 1) := by decide +kernel
theorem dl_285 : decode code 285 = .ok (.iadd, 1) := by decide +kernel
theorem dl_286 : decode code 286 = .ok (.iaload, 1) := by decide +kernel
theorem dl_287 : decode code 287 = .ok (.invokevirtual 27, 3) := by decide +kernel
theorem dl_290 : decode code 290 = .ok (.if_icmp .eq 1291, 3) := by decide +kernel
theorem kl_23 : Jvm.Cond.methodLink R_law 23 yX11_text ∈ qm_all := List.mem_filter.mpr ⟨by decide +kernel, rfl⟩
theorem kl_27 : Jvm.Cond.methodLink R_law 27 yX12_text ∈ qm_all := List.mem_filter.mpr ⟨by decide +kernel, rfl⟩
set_option maxRecDepth 20000 in
theorem law_2 {p : Program} {l : Launch} {e : Env} {s : State} {m : MethodId} {below : List Frame} {meth : Method} {c : Code} {b L : Nat} {xs : Nat → Int32} {g : qm_G} {cells slots i : Nat} {h : qm_H} (C : qL_C p s m meth c b L xs g) (hL : L ≤ 3072) (hik : i + 6 ≤ L) (hcs : cells ≤ 600000 ∧ slots ≤ 7302250) {r : Int32} {h1 h2 : qm_H} (q1 : qX11_text 0 (xs (i + 1)) (xs (i + 2)) h = some (r, h1)) (q2 : qX12_text 62 (xs (i + 1)) (xs (i + 2)) h1 = some (r, h2)) (kk : qL_W p l e s m below meth c b g cells slots i 1581 [] h2) : qL_W p l e s m below meth c b g cells slots i 262 [] h := by
  refine qL_ldx C dl_262 ?_
  refine qL_arg C (k := 1) (by decide) (by omega) hL dl_263 dl_264 dl_265 dl_266 dl_267 ?_
  refine qL_arg C (k := 2) (by decide) (by omega) hL dl_268 dl_269 dl_270 dl_271 dl_272 ?_
  refine qL_call C (vs := [qm_i (xs (i + 1)), qm_i (xs (i + 2))]) (S := []) (ci := 11) (a := 0) (o := (some (qm_i r), h1)) sX11_text ⟨by decide, by decide⟩ jX11_text kl_23 uRX11 ⟨by decide, by decide, rfl⟩ iX11_text rfl C.2.2.2.2.2.2.1 (qL_ints _ (by intro v hv; simp only [List.mem_cons, List.not_mem_nil, or_false] at hv; rcases hv with rfl | rfl <;> exact ⟨_, rfl⟩)) rfl (qm_mp (G := qm_Gi) q1) (Nat.le_of_ble_eq_true rfl) dl_273 ?_ hcs
  show qL_W p l e s m below meth c b g cells slots i 276 [qm_i r] h1
  refine qL_ldm C dl_276 ?_
  refine qL_arg C (k := 1) (by decide) (by omega) hL dl_277 dl_278 dl_279 dl_280 dl_281 ?_
  refine qL_arg C (k := 2) (by decide) (by omega) hL dl_282 dl_283 dl_284 dl_285 dl_286 ?_
  refine qL_call C (vs := [qm_i (xs (i + 1)), qm_i (xs (i + 2))]) (S := [qm_i r]) (ci := 12) (a := 62) (o := (some (qm_i r), h2)) sX12_text ⟨by decide, by decide⟩ jX12_text kl_27 uRX12 ⟨by decide, by decide, rfl⟩ iX12_text rfl C.2.2.2.2.2.2.2 (qL_ints _ (by intro v hv; simp only [List.mem_cons, List.not_mem_nil, or_false] at hv; rcases hv with rfl | rfl <;> exact ⟨_, rfl⟩)) rfl (qm_mp (G := qm_Gi) q2) (Nat.le_of_ble_eq_true rfl) dl_287 ?_ hcs
  show qL_W p l e s m below meth c b g cells slots i 290 [qm_i r, qm_i r] h2
  exact qL_cmp C dl_290 (tgt := 1581) (by decide) kk

theorem dl_295 : decode code 295 = .ok (.aload_n 1, 1) := by decide +kernel
theorem dl_296 : decode code 296 = .ok (.aload_n 0, 1) := by decide +kernel
theorem dl_297 : decode code 297 = .ok (.iload_n 3, 1) := by decide +kernel
theorem dl_298 : decode code 298 = .ok (.iconst 1, 1) := by decide +kernel
theorem dl_299 : decode code 299 = .ok (.iadd, 1) := by decide +kernel
theorem dl_300 : decode code 300 = .ok (.iaload, 1) := by decide +kernel
theorem dl_301 : decode code 301 = .ok (.invokevirtual 28, 3) := by decide +kernel
theorem dl_304 : decode code 304 = .ok (.aload_n 2, 1) := by decide +kernel
theorem dl_305 : decode code 305 = .ok (.aload_n 0, 1) := by decide +kernel
theorem dl_306 : decode code 306 = .ok (.iload_n 3, 1) := by decide +kernel
theorem dl_307 : decode code 307 = .ok (.iconst 1, 1) := by decide +kernel
theorem dl_308 : decode code 308 = .ok (.iadd, 1) := by decide +kernel
theorem dl_309 : decode code 309 = .ok (.iaload, 1) := by decide +kernel
theorem dl_310 : decode code 310 = .ok (.invokevirtual 31, 3) := by decide +kernel
theorem dl_313 : decode code 313 = .ok (.if_icmp .eq 1268, 3) := by decide +kernel
theorem kl_28 : Jvm.Cond.methodLink R_law 28 yX11_fault ∈ qm_all := List.mem_filter.mpr ⟨by decide +kernel, rfl⟩
theorem kl_31 : Jvm.Cond.methodLink R_law 31 yX12_fault ∈ qm_all := List.mem_filter.mpr ⟨by decide +kernel, rfl⟩
set_option maxRecDepth 20000 in
theorem law_3 {p : Program} {l : Launch} {e : Env} {s : State} {m : MethodId} {below : List Frame} {meth : Method} {c : Code} {b L : Nat} {xs : Nat → Int32} {g : qm_G} {cells slots i : Nat} {h : qm_H} (C : qL_C p s m meth c b L xs g) (hL : L ≤ 3072) (hik : i + 6 ≤ L) (hcs : cells ≤ 600000 ∧ slots ≤ 7302250) {r : Int32} {h1 h2 : qm_H} (q1 : qX11_fault 0 (xs (i + 1)) h = some (r, h1)) (q2 : qX12_fault 62 (xs (i + 1)) h1 = some (r, h2)) (kk : qL_W p l e s m below meth c b g cells slots i 1581 [] h2) : qL_W p l e s m below meth c b g cells slots i 295 [] h := by
  refine qL_ldx C dl_295 ?_
  refine qL_arg C (k := 1) (by decide) (by omega) hL dl_296 dl_297 dl_298 dl_299 dl_300 ?_
  refine qL_call C (vs := [qm_i (xs (i + 1))]) (S := []) (ci := 11) (a := 0) (o := (some (qm_i r), h1)) sX11_fault ⟨by decide, by decide⟩ jX11_fault kl_28 uRX11 ⟨by decide, by decide, rfl⟩ iX11_fault rfl C.2.2.2.2.2.2.1 (qL_ints _ (by intro v hv; simp only [List.mem_cons, List.not_mem_nil, or_false] at hv; rcases hv with rfl <;> exact ⟨_, rfl⟩)) rfl (qm_mp (G := qm_Gi) q1) (Nat.le_of_ble_eq_true rfl) dl_301 ?_ hcs
  show qL_W p l e s m below meth c b g cells slots i 304 [qm_i r] h1
  refine qL_ldm C dl_304 ?_
  refine qL_arg C (k := 1) (by decide) (by omega) hL dl_305 dl_306 dl_307 dl_308 dl_309 ?_
  refine qL_call C (vs := [qm_i (xs (i + 1))]) (S := [qm_i r]) (ci := 12) (a := 62) (o := (some (qm_i r), h2)) sX12_fault ⟨by decide, by decide⟩ jX12_fault kl_31 uRX12 ⟨by decide, by decide, rfl⟩ iX12_fault rfl C.2.2.2.2.2.2.2 (qL_ints _ (by intro v hv; simp only [List.mem_cons, List.not_mem_nil, or_false] at hv; rcases hv with rfl <;> exact ⟨_, rfl⟩)) rfl (qm_mp (G := qm_Gi) q2) (Nat.le_of_ble_eq_true rfl) dl_310 ?_ hcs
  show qL_W p l e s m below meth c b g cells slots i 313 [qm_i r, qm_i r] h2
  exact qL_cmp C dl_313 (tgt := 1581) (by decide) kk

theorem dl_318 : decode code 318 = .ok (.aload_n 1, 1) := by decide +kernel
theorem dl_319 : decode code 319 = .ok (.aload_n 0, 1) := by decide +kernel
theorem dl_320 : decode code 320 = .ok (.iload_n 3, 1) := by decide +kernel
theorem dl_321 : decode code 321 = .ok (.iconst 1, 1) := by decide +kernel
theorem dl_322 : decode code 322 = .ok (.iadd, 1) := by decide +kernel
theorem dl_323 : decode code 323 = .ok (.iaload, 1) := by decide +kernel
theorem dl_324 : decode code 324 = .ok (.aload_n 0, 1) := by decide +kernel
theorem dl_325 : decode code 325 = .ok (.iload_n 3, 1) := by decide +kernel
theorem dl_326 : decode code 326 = .ok (.iconst 2, 1) := by decide +kernel
theorem dl_327 : decode code 327 = .ok (.iadd, 1) := by decide +kernel
theorem dl_328 : decode code 328 = .ok (.iaload, 1) := by decide +kernel
theorem dl_329 : decode code 329 = .ok (.invokevirtual 32, 3) := by decide +kernel
theorem dl_332 : decode code 332 = .ok (.aload_n 2, 1) := by decide +kernel
theorem dl_333 : decode code 333 = .ok (.aload_n 0, 1) := by decide +kernel
theorem dl_334 : decode code 334 = .ok (.iload_n 3, 1) := by decide +kernel
theorem dl_335 : decode code 335 = .ok (.iconst 1, 1) := by decide +kernel
theorem dl_336 : decode code 336 = .ok (.iadd, 1) := by decide +kernel
theorem dl_337 : decode code 337 = .ok (.iaload, 1) := by decide +kernel
theorem dl_338 : decode code 338 = .ok (.aload_n 0, 1) := by decide +kernel
theorem dl_339 : decode code 339 = .ok (.iload_n 3, 1) := by decide +kernel
theorem dl_340 : decode code 340 = .ok (.iconst 2, 1) := by decide +kernel
theorem dl_341 : decode code 341 = .ok (.iadd, 1) := by decide +kernel
theorem dl_342 : decode code 342 = .ok (.iaload, 1) := by decide +kernel
theorem dl_343 : decode code 343 = .ok (.invokevirtual 35, 3) := by decide +kernel
theorem dl_346 : decode code 346 = .ok (.if_icmp .eq 1235, 3) := by decide +kernel
theorem kl_32 : Jvm.Cond.methodLink R_law 32 yX11_basket ∈ qm_all := List.mem_filter.mpr ⟨by decide +kernel, rfl⟩
theorem kl_35 : Jvm.Cond.methodLink R_law 35 yX12_basket ∈ qm_all := List.mem_filter.mpr ⟨by decide +kernel, rfl⟩
set_option maxRecDepth 20000 in
theorem law_4 {p : Program} {l : Launch} {e : Env} {s : State} {m : MethodId} {below : List Frame} {meth : Method} {c : Code} {b L : Nat} {xs : Nat → Int32} {g : qm_G} {cells slots i : Nat} {h : qm_H} (C : qL_C p s m meth c b L xs g) (hL : L ≤ 3072) (hik : i + 6 ≤ L) (hcs : cells ≤ 600000 ∧ slots ≤ 7302250) {r : Int32} {h1 h2 : qm_H} (q1 : qX11_basket 0 (xs (i + 1)) (xs (i + 2)) h = some (r, h1)) (q2 : qX12_basket 62 (xs (i + 1)) (xs (i + 2)) h1 = some (r, h2)) (kk : qL_W p l e s m below meth c b g cells slots i 1581 [] h2) : qL_W p l e s m below meth c b g cells slots i 318 [] h := by
  refine qL_ldx C dl_318 ?_
  refine qL_arg C (k := 1) (by decide) (by omega) hL dl_319 dl_320 dl_321 dl_322 dl_323 ?_
  refine qL_arg C (k := 2) (by decide) (by omega) hL dl_324 dl_325 dl_326 dl_327 dl_328 ?_
  refine qL_call C (vs := [qm_i (xs (i + 1)), qm_i (xs (i + 2))]) (S := []) (ci := 11) (a := 0) (o := (some (qm_i r), h1)) sX11_basket ⟨by decide, by decide⟩ jX11_basket kl_32 uRX11 ⟨by decide, by decide, rfl⟩ iX11_basket rfl C.2.2.2.2.2.2.1 (qL_ints _ (by intro v hv; simp only [List.mem_cons, List.not_mem_nil, or_false] at hv; rcases hv with rfl | rfl <;> exact ⟨_, rfl⟩)) rfl (qm_mp (G := qm_Gi) q1) (Nat.le_of_ble_eq_true rfl) dl_329 ?_ hcs
  show qL_W p l e s m below meth c b g cells slots i 332 [qm_i r] h1
  refine qL_ldm C dl_332 ?_
  refine qL_arg C (k := 1) (by decide) (by omega) hL dl_333 dl_334 dl_335 dl_336 dl_337 ?_
  refine qL_arg C (k := 2) (by decide) (by omega) hL dl_338 dl_339 dl_340 dl_341 dl_342 ?_
  refine qL_call C (vs := [qm_i (xs (i + 1)), qm_i (xs (i + 2))]) (S := [qm_i r]) (ci := 12) (a := 62) (o := (some (qm_i r), h2)) sX12_basket ⟨by decide, by decide⟩ jX12_basket kl_35 uRX12 ⟨by decide, by decide, rfl⟩ iX12_basket rfl C.2.2.2.2.2.2.2 (qL_ints _ (by intro v hv; simp only [List.mem_cons, List.not_mem_nil, or_false] at hv; rcases hv with rfl | rfl <;> exact ⟨_, rfl⟩)) rfl (qm_mp (G := qm_Gi) q2) (Nat.le_of_ble_eq_true rfl) dl_343 ?_ hcs
  show qL_W p l e s m below meth c b g cells slots i 346 [qm_i r, qm_i r] h2
  exact qL_cmp C dl_346 (tgt := 1581) (by decide) kk

theorem dl_351 : decode code 351 = .ok (.aload_n 1, 1) := by decide +kernel
theorem dl_352 : decode code 352 = .ok (.aload_n 0, 1) := by decide +kernel
theorem dl_353 : decode code 353 = .ok (.iload_n 3, 1) := by decide +kernel
theorem dl_354 : decode code 354 = .ok (.iconst 1, 1) := by decide +kernel
theorem dl_355 : decode code 355 = .ok (.iadd, 1) := by decide +kernel
theorem dl_356 : decode code 356 = .ok (.iaload, 1) := by decide +kernel
theorem dl_357 : decode code 357 = .ok (.aload_n 0, 1) := by decide +kernel
theorem dl_358 : decode code 358 = .ok (.iload_n 3, 1) := by decide +kernel
theorem dl_359 : decode code 359 = .ok (.iconst 2, 1) := by decide +kernel
theorem dl_360 : decode code 360 = .ok (.iadd, 1) := by decide +kernel
theorem dl_361 : decode code 361 = .ok (.iaload, 1) := by decide +kernel
theorem dl_362 : decode code 362 = .ok (.aload_n 0, 1) := by decide +kernel
theorem dl_363 : decode code 363 = .ok (.iload_n 3, 1) := by decide +kernel
theorem dl_364 : decode code 364 = .ok (.iconst 3, 1) := by decide +kernel
theorem dl_365 : decode code 365 = .ok (.iadd, 1) := by decide +kernel
theorem dl_366 : decode code 366 = .ok (.iaload, 1) := by decide +kernel
theorem dl_367 : decode code 367 = .ok (.aload_n 0, 1) := by decide +kernel
theorem dl_368 : decode code 368 = .ok (.iload_n 3, 1) := by decide +kernel
theorem dl_369 : decode code 369 = .ok (.iconst 4, 1) := by decide +kernel
theorem dl_370 : decode code 370 = .ok (.iadd, 1) := by decide +kernel
theorem dl_371 : decode code 371 = .ok (.iaload, 1) := by decide +kernel
theorem dl_372 : decode code 372 = .ok (.ifCond .eq 7, 3) := by decide +kernel
theorem dl_375 : decode code 375 = .ok (.iconst 1, 1) := by decide +kernel
theorem dl_376 : decode code 376 = .ok (.goto 4, 3) := by decide +kernel
theorem dl_379 : decode code 379 = .ok (.iconst 0, 1) := by decide +kernel
theorem dl_380 : decode code 380 = .ok (.invokevirtual 36, 3) := by decide +kernel
theorem dl_383 : decode code 383 = .ok (.aload_n 2, 1) := by decide +kernel
theorem dl_384 : decode code 384 = .ok (.aload_n 0, 1) := by decide +kernel
theorem dl_385 : decode code 385 = .ok (.iload_n 3, 1) := by decide +kernel
theorem dl_386 : decode code 386 = .ok (.iconst 1, 1) := by decide +kernel
theorem dl_387 : decode code 387 = .ok (.iadd, 1) := by decide +kernel
theorem dl_388 : decode code 388 = .ok (.iaload, 1) := by decide +kernel
theorem dl_389 : decode code 389 = .ok (.aload_n 0, 1) := by decide +kernel
theorem dl_390 : decode code 390 = .ok (.iload_n 3, 1) := by decide +kernel
theorem dl_391 : decode code 391 = .ok (.iconst 2, 1) := by decide +kernel
theorem dl_392 : decode code 392 = .ok (.iadd, 1) := by decide +kernel
theorem dl_393 : decode code 393 = .ok (.iaload, 1) := by decide +kernel
theorem dl_394 : decode code 394 = .ok (.aload_n 0, 1) := by decide +kernel
theorem dl_395 : decode code 395 = .ok (.iload_n 3, 1) := by decide +kernel
theorem dl_396 : decode code 396 = .ok (.iconst 3, 1) := by decide +kernel
theorem dl_397 : decode code 397 = .ok (.iadd, 1) := by decide +kernel
theorem dl_398 : decode code 398 = .ok (.iaload, 1) := by decide +kernel
theorem dl_399 : decode code 399 = .ok (.aload_n 0, 1) := by decide +kernel
theorem dl_400 : decode code 400 = .ok (.iload_n 3, 1) := by decide +kernel
theorem dl_401 : decode code 401 = .ok (.iconst 4, 1) := by decide +kernel
theorem dl_402 : decode code 402 = .ok (.iadd, 1) := by decide +kernel
theorem dl_403 : decode code 403 = .ok (.iaload, 1) := by decide +kernel
theorem dl_404 : decode code 404 = .ok (.ifCond .eq 7, 3) := by decide +kernel
theorem dl_407 : decode code 407 = .ok (.iconst 1, 1) := by decide +kernel
theorem dl_408 : decode code 408 = .ok (.goto 4, 3) := by decide +kernel
theorem dl_411 : decode code 411 = .ok (.iconst 0, 1) := by decide +kernel
theorem dl_412 : decode code 412 = .ok (.invokevirtual 40, 3) := by decide +kernel
theorem dl_415 : decode code 415 = .ok (.if_icmp .eq 1166, 3) := by decide +kernel
theorem kl_36 : Jvm.Cond.methodLink R_law 36 yX11_slips ∈ qm_all := List.mem_filter.mpr ⟨by decide +kernel, rfl⟩
theorem kl_40 : Jvm.Cond.methodLink R_law 40 yX12_slips ∈ qm_all := List.mem_filter.mpr ⟨by decide +kernel, rfl⟩
set_option maxRecDepth 20000 in
theorem law_5 {p : Program} {l : Launch} {e : Env} {s : State} {m : MethodId} {below : List Frame} {meth : Method} {c : Code} {b L : Nat} {xs : Nat → Int32} {g : qm_G} {cells slots i : Nat} {h : qm_H} (C : qL_C p s m meth c b L xs g) (hL : L ≤ 3072) (hik : i + 6 ≤ L) (hcs : cells ≤ 600000 ∧ slots ≤ 7302250) {r : Int32} {h1 h2 : qm_H} (q1 : qX11_slips 0 (xs (i + 1)) (xs (i + 2)) (xs (i + 3)) (qL_b (xs (i + 4))) h = some (r, h1)) (q2 : qX12_slips 62 (xs (i + 1)) (xs (i + 2)) (xs (i + 3)) (qL_b (xs (i + 4))) h1 = some (r, h2)) (kk : qL_W p l e s m below meth c b g cells slots i 1581 [] h2) : qL_W p l e s m below meth c b g cells slots i 351 [] h := by
  refine qL_ldx C dl_351 ?_
  refine qL_arg C (k := 1) (by decide) (by omega) hL dl_352 dl_353 dl_354 dl_355 dl_356 ?_
  refine qL_arg C (k := 2) (by decide) (by omega) hL dl_357 dl_358 dl_359 dl_360 dl_361 ?_
  refine qL_arg C (k := 3) (by decide) (by omega) hL dl_362 dl_363 dl_364 dl_365 dl_366 ?_
  refine qL_arg C (k := 4) (by decide) (by omega) hL dl_367 dl_368 dl_369 dl_370 dl_371 ?_
  refine qL_bool C dl_372 dl_375 dl_376 dl_379 ?_
  refine qL_call C (vs := [qm_i (xs (i + 1)), qm_i (xs (i + 2)), qm_i (xs (i + 3)), qm_i (qL_b (xs (i + 4)))]) (S := []) (ci := 11) (a := 0) (o := (some (qm_i r), h1)) sX11_slips ⟨by decide, by decide⟩ jX11_slips kl_36 uRX11 ⟨by decide, by decide, rfl⟩ iX11_slips rfl C.2.2.2.2.2.2.1 (qL_ints _ (by intro v hv; simp only [List.mem_cons, List.not_mem_nil, or_false] at hv; rcases hv with rfl | rfl | rfl | rfl <;> exact ⟨_, rfl⟩)) rfl (qm_mp (G := qm_Gi) q1) (Nat.le_of_ble_eq_true rfl) dl_380 ?_ hcs
  show qL_W p l e s m below meth c b g cells slots i 383 [qm_i r] h1
  refine qL_ldm C dl_383 ?_
  refine qL_arg C (k := 1) (by decide) (by omega) hL dl_384 dl_385 dl_386 dl_387 dl_388 ?_
  refine qL_arg C (k := 2) (by decide) (by omega) hL dl_389 dl_390 dl_391 dl_392 dl_393 ?_
  refine qL_arg C (k := 3) (by decide) (by omega) hL dl_394 dl_395 dl_396 dl_397 dl_398 ?_
  refine qL_arg C (k := 4) (by decide) (by omega) hL dl_399 dl_400 dl_401 dl_402 dl_403 ?_
  refine qL_bool C dl_404 dl_407 dl_408 dl_411 ?_
  refine qL_call C (vs := [qm_i (xs (i + 1)), qm_i (xs (i + 2)), qm_i (xs (i + 3)), qm_i (qL_b (xs (i + 4)))]) (S := [qm_i r]) (ci := 12) (a := 62) (o := (some (qm_i r), h2)) sX12_slips ⟨by decide, by decide⟩ jX12_slips kl_40 uRX12 ⟨by decide, by decide, rfl⟩ iX12_slips rfl C.2.2.2.2.2.2.2 (qL_ints _ (by intro v hv; simp only [List.mem_cons, List.not_mem_nil, or_false] at hv; rcases hv with rfl | rfl | rfl | rfl <;> exact ⟨_, rfl⟩)) rfl (qm_mp (G := qm_Gi) q2) (Nat.le_of_ble_eq_true rfl) dl_412 ?_ hcs
  show qL_W p l e s m below meth c b g cells slots i 415 [qm_i r, qm_i r] h2
  exact qL_cmp C dl_415 (tgt := 1581) (by decide) kk

theorem dl_420 : decode code 420 = .ok (.aload_n 1, 1) := by decide +kernel
theorem dl_421 : decode code 421 = .ok (.aload_n 0, 1) := by decide +kernel
theorem dl_422 : decode code 422 = .ok (.iload_n 3, 1) := by decide +kernel
theorem dl_423 : decode code 423 = .ok (.iconst 1, 1) := by decide +kernel
theorem dl_424 : decode code 424 = .ok (.iadd, 1) := by decide +kernel
theorem dl_425 : decode code 425 = .ok (.iaload, 1) := by decide +kernel
theorem dl_426 : decode code 426 = .ok (.aload_n 0, 1) := by decide +kernel
theorem dl_427 : decode code 427 = .ok (.iload_n 3, 1) := by decide +kernel
theorem dl_428 : decode code 428 = .ok (.iconst 2, 1) := by decide +kernel
theorem dl_429 : decode code 429 = .ok (.iadd, 1) := by decide +kernel
theorem dl_430 : decode code 430 = .ok (.iaload, 1) := by decide +kernel
theorem dl_431 : decode code 431 = .ok (.aload_n 0, 1) := by decide +kernel
theorem dl_432 : decode code 432 = .ok (.iload_n 3, 1) := by decide +kernel
theorem dl_433 : decode code 433 = .ok (.iconst 3, 1) := by decide +kernel
theorem dl_434 : decode code 434 = .ok (.iadd, 1) := by decide +kernel
theorem dl_435 : decode code 435 = .ok (.iaload, 1) := by decide +kernel
theorem dl_436 : decode code 436 = .ok (.invokevirtual 41, 3) := by decide +kernel
theorem dl_439 : decode code 439 = .ok (.aload_n 2, 1) := by decide +kernel
theorem dl_440 : decode code 440 = .ok (.aload_n 0, 1) := by decide +kernel
theorem dl_441 : decode code 441 = .ok (.iload_n 3, 1) := by decide +kernel
theorem dl_442 : decode code 442 = .ok (.iconst 1, 1) := by decide +kernel
theorem dl_443 : decode code 443 = .ok (.iadd, 1) := by decide +kernel
theorem dl_444 : decode code 444 = .ok (.iaload, 1) := by decide +kernel
theorem dl_445 : decode code 445 = .ok (.aload_n 0, 1) := by decide +kernel
theorem dl_446 : decode code 446 = .ok (.iload_n 3, 1) := by decide +kernel
theorem dl_447 : decode code 447 = .ok (.iconst 2, 1) := by decide +kernel
theorem dl_448 : decode code 448 = .ok (.iadd, 1) := by decide +kernel
theorem dl_449 : decode code 449 = .ok (.iaload, 1) := by decide +kernel
theorem dl_450 : decode code 450 = .ok (.aload_n 0, 1) := by decide +kernel
theorem dl_451 : decode code 451 = .ok (.iload_n 3, 1) := by decide +kernel
theorem dl_452 : decode code 452 = .ok (.iconst 3, 1) := by decide +kernel
theorem dl_453 : decode code 453 = .ok (.iadd, 1) := by decide +kernel
theorem dl_454 : decode code 454 = .ok (.iaload, 1) := by decide +kernel
theorem dl_455 : decode code 455 = .ok (.invokevirtual 45, 3) := by decide +kernel
theorem dl_458 : decode code 458 = .ok (.if_icmp .eq 1123, 3) := by decide +kernel
theorem kl_41 : Jvm.Cond.methodLink R_law 41 yX11_deed ∈ qm_all := List.mem_filter.mpr ⟨by decide +kernel, rfl⟩
theorem kl_45 : Jvm.Cond.methodLink R_law 45 yX12_deed ∈ qm_all := List.mem_filter.mpr ⟨by decide +kernel, rfl⟩
set_option maxRecDepth 20000 in
theorem law_6 {p : Program} {l : Launch} {e : Env} {s : State} {m : MethodId} {below : List Frame} {meth : Method} {c : Code} {b L : Nat} {xs : Nat → Int32} {g : qm_G} {cells slots i : Nat} {h : qm_H} (C : qL_C p s m meth c b L xs g) (hL : L ≤ 3072) (hik : i + 6 ≤ L) (hcs : cells ≤ 600000 ∧ slots ≤ 7302250) {r : Int32} {h1 h2 : qm_H} (q1 : qX11_deed 0 (xs (i + 1)) (xs (i + 2)) (xs (i + 3)) h = some (r, h1)) (q2 : qX12_deed 62 (xs (i + 1)) (xs (i + 2)) (xs (i + 3)) h1 = some (r, h2)) (kk : qL_W p l e s m below meth c b g cells slots i 1581 [] h2) : qL_W p l e s m below meth c b g cells slots i 420 [] h := by
  refine qL_ldx C dl_420 ?_
  refine qL_arg C (k := 1) (by decide) (by omega) hL dl_421 dl_422 dl_423 dl_424 dl_425 ?_
  refine qL_arg C (k := 2) (by decide) (by omega) hL dl_426 dl_427 dl_428 dl_429 dl_430 ?_
  refine qL_arg C (k := 3) (by decide) (by omega) hL dl_431 dl_432 dl_433 dl_434 dl_435 ?_
  refine qL_call C (vs := [qm_i (xs (i + 1)), qm_i (xs (i + 2)), qm_i (xs (i + 3))]) (S := []) (ci := 11) (a := 0) (o := (some (qm_i r), h1)) sX11_deed ⟨by decide, by decide⟩ jX11_deed kl_41 uRX11 ⟨by decide, by decide, rfl⟩ iX11_deed rfl C.2.2.2.2.2.2.1 (qL_ints _ (by intro v hv; simp only [List.mem_cons, List.not_mem_nil, or_false] at hv; rcases hv with rfl | rfl | rfl <;> exact ⟨_, rfl⟩)) rfl (qm_mp (G := qm_Gi) q1) (Nat.le_of_ble_eq_true rfl) dl_436 ?_ hcs
  show qL_W p l e s m below meth c b g cells slots i 439 [qm_i r] h1
  refine qL_ldm C dl_439 ?_
  refine qL_arg C (k := 1) (by decide) (by omega) hL dl_440 dl_441 dl_442 dl_443 dl_444 ?_
  refine qL_arg C (k := 2) (by decide) (by omega) hL dl_445 dl_446 dl_447 dl_448 dl_449 ?_
  refine qL_arg C (k := 3) (by decide) (by omega) hL dl_450 dl_451 dl_452 dl_453 dl_454 ?_
  refine qL_call C (vs := [qm_i (xs (i + 1)), qm_i (xs (i + 2)), qm_i (xs (i + 3))]) (S := [qm_i r]) (ci := 12) (a := 62) (o := (some (qm_i r), h2)) sX12_deed ⟨by decide, by decide⟩ jX12_deed kl_45 uRX12 ⟨by decide, by decide, rfl⟩ iX12_deed rfl C.2.2.2.2.2.2.2 (qL_ints _ (by intro v hv; simp only [List.mem_cons, List.not_mem_nil, or_false] at hv; rcases hv with rfl | rfl | rfl <;> exact ⟨_, rfl⟩)) rfl (qm_mp (G := qm_Gi) q2) (Nat.le_of_ble_eq_true rfl) dl_455 ?_ hcs
  show qL_W p l e s m below meth c b g cells slots i 458 [qm_i r, qm_i r] h2
  exact qL_cmp C dl_458 (tgt := 1581) (by decide) kk

theorem dl_463 : decode code 463 = .ok (.aload_n 1, 1) := by decide +kernel
theorem dl_464 : decode code 464 = .ok (.aload_n 0, 1) := by decide +kernel
theorem dl_465 : decode code 465 = .ok (.iload_n 3, 1) := by decide +kernel
theorem dl_466 : decode code 466 = .ok (.iconst 1, 1) := by decide +kernel
theorem dl_467 : decode code 467 = .ok (.iadd, 1) := by decide +kernel
theorem dl_468 : decode code 468 = .ok (.iaload, 1) := by decide +kernel
theorem dl_469 : decode code 469 = .ok (.aload_n 0, 1) := by decide +kernel
theorem dl_470 : decode code 470 = .ok (.iload_n 3, 1) := by decide +kernel
theorem dl_471 : decode code 471 = .ok (.iconst 2, 1) := by decide +kernel
theorem dl_472 : decode code 472 = .ok (.iadd, 1) := by decide +kernel
theorem dl_473 : decode code 473 = .ok (.iaload, 1) := by decide +kernel
theorem dl_474 : decode code 474 = .ok (.invokevirtual 46, 3) := by decide +kernel
theorem dl_477 : decode code 477 = .ok (.aload_n 2, 1) := by decide +kernel
theorem dl_478 : decode code 478 = .ok (.aload_n 0, 1) := by decide +kernel
theorem dl_479 : decode code 479 = .ok (.iload_n 3, 1) := by decide +kernel
theorem dl_480 : decode code 480 = .ok (.iconst 1, 1) := by decide +kernel
theorem dl_481 : decode code 481 = .ok (.iadd, 1) := by decide +kernel
theorem dl_482 : decode code 482 = .ok (.iaload, 1) := by decide +kernel
theorem dl_483 : decode code 483 = .ok (.aload_n 0, 1) := by decide +kernel
theorem dl_484 : decode code 484 = .ok (.iload_n 3, 1) := by decide +kernel
theorem dl_485 : decode code 485 = .ok (.iconst 2, 1) := by decide +kernel
theorem dl_486 : decode code 486 = .ok (.iadd, 1) := by decide +kernel
theorem dl_487 : decode code 487 = .ok (.iaload, 1) := by decide +kernel
theorem dl_488 : decode code 488 = .ok (.invokevirtual 49, 3) := by decide +kernel
theorem dl_491 : decode code 491 = .ok (.if_icmp .eq 1090, 3) := by decide +kernel
theorem kl_46 : Jvm.Cond.methodLink R_law 46 yX11_till ∈ qm_all := List.mem_filter.mpr ⟨by decide +kernel, rfl⟩
theorem kl_49 : Jvm.Cond.methodLink R_law 49 yX12_till ∈ qm_all := List.mem_filter.mpr ⟨by decide +kernel, rfl⟩
set_option maxRecDepth 20000 in
theorem law_7 {p : Program} {l : Launch} {e : Env} {s : State} {m : MethodId} {below : List Frame} {meth : Method} {c : Code} {b L : Nat} {xs : Nat → Int32} {g : qm_G} {cells slots i : Nat} {h : qm_H} (C : qL_C p s m meth c b L xs g) (hL : L ≤ 3072) (hik : i + 6 ≤ L) (hcs : cells ≤ 600000 ∧ slots ≤ 7302250) {r : Int32} {h1 h2 : qm_H} (q1 : qX11_till 0 (xs (i + 1)) (xs (i + 2)) h = some (r, h1)) (q2 : qX12_till 62 (xs (i + 1)) (xs (i + 2)) h1 = some (r, h2)) (kk : qL_W p l e s m below meth c b g cells slots i 1581 [] h2) : qL_W p l e s m below meth c b g cells slots i 463 [] h := by
  refine qL_ldx C dl_463 ?_
  refine qL_arg C (k := 1) (by decide) (by omega) hL dl_464 dl_465 dl_466 dl_467 dl_468 ?_
  refine qL_arg C (k := 2) (by decide) (by omega) hL dl_469 dl_470 dl_471 dl_472 dl_473 ?_
  refine qL_call C (vs := [qm_i (xs (i + 1)), qm_i (xs (i + 2))]) (S := []) (ci := 11) (a := 0) (o := (some (qm_i r), h1)) sX11_till ⟨by decide, by decide⟩ jX11_till kl_46 uRX11 ⟨by decide, by decide, rfl⟩ iX11_till rfl C.2.2.2.2.2.2.1 (qL_ints _ (by intro v hv; simp only [List.mem_cons, List.not_mem_nil, or_false] at hv; rcases hv with rfl | rfl <;> exact ⟨_, rfl⟩)) rfl (qm_mp (G := qm_Gi) q1) (Nat.le_of_ble_eq_true rfl) dl_474 ?_ hcs
  show qL_W p l e s m below meth c b g cells slots i 477 [qm_i r] h1
  refine qL_ldm C dl_477 ?_
  refine qL_arg C (k := 1) (by decide) (by omega) hL dl_478 dl_479 dl_480 dl_481 dl_482 ?_
  refine qL_arg C (k := 2) (by decide) (by omega) hL dl_483 dl_484 dl_485 dl_486 dl_487 ?_
  refine qL_call C (vs := [qm_i (xs (i + 1)), qm_i (xs (i + 2))]) (S := [qm_i r]) (ci := 12) (a := 62) (o := (some (qm_i r), h2)) sX12_till ⟨by decide, by decide⟩ jX12_till kl_49 uRX12 ⟨by decide, by decide, rfl⟩ iX12_till rfl C.2.2.2.2.2.2.2 (qL_ints _ (by intro v hv; simp only [List.mem_cons, List.not_mem_nil, or_false] at hv; rcases hv with rfl | rfl <;> exact ⟨_, rfl⟩)) rfl (qm_mp (G := qm_Gi) q2) (Nat.le_of_ble_eq_true rfl) dl_488 ?_ hcs
  show qL_W p l e s m below meth c b g cells slots i 491 [qm_i r, qm_i r] h2
  exact qL_cmp C dl_491 (tgt := 1581) (by decide) kk

