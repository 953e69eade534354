/-! THE LAW: calls addMachine, setMachine, setCapacity, addStop, addRandomStops -/
theorem dL_law_172 : decode cL_law 172 = .ok (.aload_n 1, 1) := by decide +kernel
theorem dL_law_173 : decode cL_law 173 = .ok (.aload_n 0, 1) := by decide +kernel
theorem dL_law_174 : decode cL_law 174 = .ok (.iload 5, 2) := by decide +kernel
theorem dL_law_176 : decode cL_law 176 = .ok (.iconst 1, 1) := by decide +kernel
theorem dL_law_177 : decode cL_law 177 = .ok (.iadd, 1) := by decide +kernel
theorem dL_law_178 : decode cL_law 178 = .ok (.iaload, 1) := by decide +kernel
theorem dL_law_179 : decode cL_law 179 = .ok (.aload_n 0, 1) := by decide +kernel
theorem dL_law_180 : decode cL_law 180 = .ok (.iload 5, 2) := by decide +kernel
theorem dL_law_182 : decode cL_law 182 = .ok (.iconst 2, 1) := by decide +kernel
theorem dL_law_183 : decode cL_law 183 = .ok (.iadd, 1) := by decide +kernel
theorem dL_law_184 : decode cL_law 184 = .ok (.iaload, 1) := by decide +kernel
theorem dL_law_185 : decode cL_law 185 = .ok (.aload_n 0, 1) := by decide +kernel
theorem dL_law_186 : decode cL_law 186 = .ok (.iload 5, 2) := by decide +kernel
theorem dL_law_188 : decode cL_law 188 = .ok (.iconst 3, 1) := by decide +kernel
theorem dL_law_189 : decode cL_law 189 = .ok (.iadd, 1) := by decide +kernel
theorem dL_law_190 : decode cL_law 190 = .ok (.iaload, 1) := by decide +kernel
theorem dL_law_191 : decode cL_law 191 = .ok (.aload_n 3, 1) := by decide +kernel
theorem dL_law_192 : decode cL_law 192 = .ok (.invokestatic 82, 3) := by decide +kernel
theorem dL_law_195 : decode cL_law 195 = .ok (.istore 6, 2) := by decide +kernel
theorem dL_law_197 : decode cL_law 197 = .ok (.aload_n 2, 1) := by decide +kernel
theorem dL_law_198 : decode cL_law 198 = .ok (.aload_n 0, 1) := by decide +kernel
theorem dL_law_199 : decode cL_law 199 = .ok (.iload 5, 2) := by decide +kernel
theorem dL_law_201 : decode cL_law 201 = .ok (.iconst 1, 1) := by decide +kernel
theorem dL_law_202 : decode cL_law 202 = .ok (.iadd, 1) := by decide +kernel
theorem dL_law_203 : decode cL_law 203 = .ok (.iaload, 1) := by decide +kernel
theorem dL_law_204 : decode cL_law 204 = .ok (.aload_n 0, 1) := by decide +kernel
theorem dL_law_205 : decode cL_law 205 = .ok (.iload 5, 2) := by decide +kernel
theorem dL_law_207 : decode cL_law 207 = .ok (.iconst 2, 1) := by decide +kernel
theorem dL_law_208 : decode cL_law 208 = .ok (.iadd, 1) := by decide +kernel
theorem dL_law_209 : decode cL_law 209 = .ok (.iaload, 1) := by decide +kernel
theorem dL_law_210 : decode cL_law 210 = .ok (.aload_n 0, 1) := by decide +kernel
theorem dL_law_211 : decode cL_law 211 = .ok (.iload 5, 2) := by decide +kernel
theorem dL_law_213 : decode cL_law 213 = .ok (.iconst 3, 1) := by decide +kernel
theorem dL_law_214 : decode cL_law 214 = .ok (.iadd, 1) := by decide +kernel
theorem dL_law_215 : decode cL_law 215 = .ok (.iaload, 1) := by decide +kernel
theorem dL_law_216 : decode cL_law 216 = .ok (.invokevirtual 87, 3) := by decide +kernel
theorem dL_law_219 : decode cL_law 219 = .ok (.istore 7, 2) := by decide +kernel
theorem dL_law_221 : decode cL_law 221 = .ok (.aload_n 2, 1) := by decide +kernel
theorem dL_law_222 : decode cL_law 222 = .ok (.invokevirtual 88, 3) := by decide +kernel
theorem dL_law_225 : decode cL_law 225 = .ok (.iload 6, 2) := by decide +kernel
theorem dL_law_227 : decode cL_law 227 = .ok (.if_icmp .eq 5, 3) := by decide +kernel
theorem dL_law_230 : decode cL_law 230 = .ok (.iconst 0, 1) := by decide +kernel
theorem dL_law_231 : decode cL_law 231 = .ok (.ireturn, 1) := by decide +kernel
theorem dL_law_232 : decode cL_law 232 = .ok (.iload 6, 2) := by decide +kernel
theorem dL_law_234 : decode cL_law 234 = .ok (.ifCond .ne 15, 3) := by decide +kernel
theorem dL_law_237 : decode cL_law 237 = .ok (.aload_n 3, 1) := by decide +kernel
theorem dL_law_238 : decode cL_law 238 = .ok (.iconst 0, 1) := by decide +kernel
theorem dL_law_239 : decode cL_law 239 = .ok (.laload, 1) := by decide +kernel
theorem dL_law_240 : decode cL_law 240 = .ok (.iload 7, 2) := by decide +kernel
theorem dL_law_242 : decode cL_law 242 = .ok (.i2l, 1) := by decide +kernel
theorem dL_law_243 : decode cL_law 243 = .ok (.lcmp, 1) := by decide +kernel
theorem dL_law_244 : decode cL_law 244 = .ok (.ifCond .eq 5, 3) := by decide +kernel
theorem dL_law_247 : decode cL_law 247 = .ok (.iconst 0, 1) := by decide +kernel
theorem dL_law_248 : decode cL_law 248 = .ok (.ireturn, 1) := by decide +kernel
theorem dL_law_249 : decode cL_law 249 = .ok (.goto 1394, 3) := by decide +kernel
set_option maxRecDepth 20000 in
theorem wl_addMachine : GoodIn lw_tbl (va_wsS RL 82 yL_addMachine wsW_addMachine) := goodIn_app (fun w h => ⟨in_idx [308, 309, 47] (by decide +kernel) w h, good_of_word (List.all_eq_true.mp (show ([.methodLink RL 82 yL_addMachine, .static yL_addMachine, .initialized yL_addMachine.cls] : List Cond).all goodWord = true from by decide +kernel) w h)⟩) (fun w h => (List.mem_cons.mp h).elim (fun q => q ▸ ⟨List.mem_of_getElem? (i := 310) (by decide +kernel), good_of_word rfl⟩) (fun q => lwG_self w q))
set_option maxRecDepth 100000 in
set_option maxHeartbeats 4000000 in
theorem cs_addMachine {p : Program} {l : Launch} {e : Env} {s : State} {m : MethodId} {below : List Frame} {meth : Method} {c : Code} {bs L : Nat} {xs : Nat → Int32} {D : va_G} {cs : Nat → ClassId} {ad : Nat → Nat} {Q : State → Prop} {i cells slots : Nat} {Ls : Nat → SL} {Hs T M : SL} {dr hs o : Int64} {od : UInt64} {H : Heap} {locs : List Loc} {ls : Array Slot} (E : LX p l s m meth c bs L xs D cs ad) (hi : i + 6 ≤ L) (hc : cells + 3 ≤ room_1.cells ∧ slots + 18 ≤ room_1.slots) (hSS : SS Ls Hs T M) (hP : va_P D vwCl (wA cs ad Ls Hs T M dr hs o od) H) (hS : va_S (Afr ad s.heap.size) s.heap H locs) (hl : lv_has ls 9 (lvL bs ad (nI i))) (K : LK p l e s m bs below meth c D cs ad i cells slots Q) : W p l e room_1 s m #[.ref bs] below meth c H locs cells slots Q (F0 m 172 ls []) := by
  obtain ⟨C, G, X, N, Y, sX, sL, sA, hL, hfl⟩ := E
  obtain ⟨bv, M', res, v, Ls', Hs', o', eM, eC, h4, hSS', hov, hu, hk⟩ := r2_out o (s_addMachine hSS (xs (i + 1)) (xs (i + 2)) (xs (i + 3)))
  refine lv_aload_n C.1 C.2.1 dL_law_172 rfl (lv_at hl 1 rfl) ?_
  refine lv_aload_n C.1 C.2.1 dL_law_173 rfl (lv_at hl 0 rfl) ?_
  refine lv_iload C.1 C.2.1 dL_law_174 (lv_at hl 5 rfl) ?_
  refine lv_iconst (v := 1) C.1 C.2.1 dL_law_176 (by decide) ?_
  refine k_iadd C (np1 i) dL_law_177 ?_
  refine k_sld C sX sL sA hL hS (show i + 1 < L by omega) dL_law_178 ?_
  refine lv_aload_n C.1 C.2.1 dL_law_179 rfl (lv_at hl 0 rfl) ?_
  refine lv_iload C.1 C.2.1 dL_law_180 (lv_at hl 5 rfl) ?_
  refine lv_iconst (v := 2) C.1 C.2.1 dL_law_182 (by decide) ?_
  refine k_iadd C (np2 i) dL_law_183 ?_
  refine k_sld C sX sL sA hL hS (show i + 2 < L by omega) dL_law_184 ?_
  refine lv_aload_n C.1 C.2.1 dL_law_185 rfl (lv_at hl 0 rfl) ?_
  refine lv_iload C.1 C.2.1 dL_law_186 (lv_at hl 5 rfl) ?_
  refine lv_iconst (v := 3) C.1 C.2.1 dL_law_188 (by decide) ?_
  refine k_iadd C (np3 i) dL_law_189 ?_
  refine k_sld C sX sL sA hL hS (show i + 3 < L by omega) dL_law_190 ?_
  refine lv_aload_n C.1 C.2.1 dL_law_191 rfl (lv_at hl 3 rfl) ?_
  have hM := m_L_addMachine l hfl (D := D) (cs := cs) G.2.1 H.size (Ls := Ls) (Hs := Hs) (T := T) (M := M) (dr := dr) (hs := hs) (o := o) (od := od) eC (v := v) (w' := wA cs ad Ls' Hs' T M dr hs o' od) (fun u hu1 => by
    obtain ⟨a1, a2, a3, a4⟩ := hu u hu1
    exact ⟨a1, by rw [a2, a3, a4]⟩) (fun k hk1 => by
    obtain ⟨⟨a2, a3, a4⟩, q⟩ := hk k hk1
    exact ⟨by rw [a2, a3, a4], dk_id q⟩)
  refine k_callSWi C G X N Y hP hS hM (vx_cwSW 5 C.2.2.2.2.2.1 wl_addMachine rfl rfl rfl (by decide +kernel) ⟨Nat.le_of_ble_eq_true rfl, Nat.le_of_ble_eq_true rfl⟩) (As := [.ref (ad 0), .int (xs (i + 1)), .int (xs (i + 2)), .int (xs (i + 3)), .ref (ad 95)]) rfl hl.1 rfl (Nat.le_of_ble_eq_true rfl) dL_law_192 ⟨by omega, by omega⟩ (fun H locs hP hS => ?_)
  refine lv_istore (lv' := [(6, .int v), (0, .ref bs), (1, .ref (ad 0)), (2, .ref (ad 89)), (3, .ref (ad 95)), (4, .ref (ad 96)), (5, .int (nI i))]) C.1 C.2.1 dL_law_195 hl (by decide) rfl (fun ls hl => ?_)
  refine lv_aload_n C.1 C.2.1 dL_law_197 rfl (lv_at hl 3 rfl) ?_
  refine lv_aload_n C.1 C.2.1 dL_law_198 rfl (lv_at hl 1 rfl) ?_
  refine lv_iload C.1 C.2.1 dL_law_199 (lv_at hl 6 rfl) ?_
  refine lv_iconst (v := 1) C.1 C.2.1 dL_law_201 (by decide) ?_
  refine k_iadd C (np1 i) dL_law_202 ?_
  refine k_sld C sX sL sA hL hS (show i + 1 < L by omega) dL_law_203 ?_
  refine lv_aload_n C.1 C.2.1 dL_law_204 rfl (lv_at hl 1 rfl) ?_
  refine lv_iload C.1 C.2.1 dL_law_205 (lv_at hl 6 rfl) ?_
  refine lv_iconst (v := 2) C.1 C.2.1 dL_law_207 (by decide) ?_
  refine k_iadd C (np2 i) dL_law_208 ?_
  refine k_sld C sX sL sA hL hS (show i + 2 < L by omega) dL_law_209 ?_
  refine lv_aload_n C.1 C.2.1 dL_law_210 rfl (lv_at hl 1 rfl) ?_
  refine lv_iload C.1 C.2.1 dL_law_211 (lv_at hl 6 rfl) ?_
  refine lv_iconst (v := 3) C.1 C.2.1 dL_law_213 (by decide) ?_
  refine k_iadd C (np3 i) dL_law_214 ?_
  refine k_sld C sX sL sA hL hS (show i + 3 < L by omega) dL_law_215 ?_
  refine k_callVi C G hP hS (m_X6_addMachine l G.2.1 _ eM) r_obj rfl (cwV 3 C.2.2.2.2.2.1 (lwG_up wg_X6_addMachine) rfl rfl rfl (by decide +kernel) ⟨Nat.le_of_ble_eq_true rfl, Nat.le_of_ble_eq_true rfl⟩) (As := [.int (xs (i + 1)), .int (xs (i + 2)), .int (xs (i + 3))]) rfl hl.1 rfl (Nat.le_of_ble_eq_true rfl) dL_law_216 ⟨by omega, by omega⟩ (fun H locs hP hS => ?_)
  have hP : va_P D vwCl (wA cs ad Ls' Hs' T M' dr hs o' od) H := hP
  refine lv_istore (lv' := [(7, .int bv), (6, .int v), (0, .ref bs), (1, .ref (ad 0)), (2, .ref (ad 89)), (3, .ref (ad 95)), (4, .ref (ad 96)), (5, .int (nI i))]) C.1 C.2.1 dL_law_219 hl (by decide) rfl (fun ls hl => ?_)
  refine lv_aload_n C.1 C.2.1 dL_law_221 rfl (lv_at hl 4 rfl) ?_
  refine k_callVi C G hP hS (m_X6_thrown l G.2.1 _ (show f_X6_thrown M' = some v by rw [← h4]; rfl)) r_obj rfl (cwV 0 C.2.2.2.2.2.1 (lwG_up wg_X6_thrown) rfl rfl rfl (by decide +kernel) ⟨Nat.le_of_ble_eq_true rfl, Nat.le_of_ble_eq_true rfl⟩) (As := []) rfl hl.1 rfl (Nat.le_of_ble_eq_true rfl) dL_law_222 ⟨by omega, by omega⟩ (fun H locs hP hS => ?_)
  refine lv_iload C.1 C.2.1 dL_law_225 (lv_at hl 1 rfl) ?_
  refine lv_icmp_eq (tgt := 232) C.1 C.2.1 dL_law_227 (by decide) (fun _ => ?_) (fun z => absurd rfl z)
  refine lv_iload C.1 C.2.1 dL_law_232 (lv_at hl 1 rfl) ?_
  have hSS := hSS'
  refine lv_if_ne (tgt := 249) C.1 C.2.1 dL_law_234 (by decide) (fun _ => ?_) (fun z => ?_)
  · refine lv_goto (tgt := 1643) C.1 C.2.1 dL_law_249 (by decide) ?_
    refine W.widen (k := cells + 3) (n := slots + 18) (by omega) (by omega) ?_
    exact K _ _ _ _ _ _ _ _ _ _ _ hSS hP hS (lv_sub hl [2, 3, 4, 5, 6, 7] rfl)
  · refine lv_aload_n C.1 C.2.1 dL_law_237 rfl (lv_at hl 5 rfl) ?_
    refine lv_iconst (v := 0) C.1 C.2.1 dL_law_238 (by decide) ?_
    refine k_laldO C G hP dL_law_239 ?_
    refine lv_iload C.1 C.2.1 dL_law_240 (lv_at hl 0 rfl) ?_
    refine k_i2l C (hov z) dL_law_242 ?_
    refine W.lcmp C.1 C.2.1 dL_law_243 ?_
    refine lv_if_eq (tgt := 249) C.1 C.2.1 dL_law_244 (by decide) (fun _ => ?_) (fun q => absurd (lg_self _) q)
    refine lv_goto (tgt := 1643) C.1 C.2.1 dL_law_249 (by decide) ?_
    refine W.widen (k := cells + 3) (n := slots + 18) (by omega) (by omega) ?_
    exact K _ _ _ _ _ _ _ _ _ _ _ hSS hP hS (lv_sub hl [2, 3, 4, 5, 6, 7] rfl)
theorem dL_law_252 : decode cL_law 252 = .ok (.aload_n 1, 1) := by decide +kernel
theorem dL_law_253 : decode cL_law 253 = .ok (.aload_n 0, 1) := by decide +kernel
theorem dL_law_254 : decode cL_law 254 = .ok (.iload 5, 2) := by decide +kernel
theorem dL_law_256 : decode cL_law 256 = .ok (.iconst 1, 1) := by decide +kernel
theorem dL_law_257 : decode cL_law 257 = .ok (.iadd, 1) := by decide +kernel
theorem dL_law_258 : decode cL_law 258 = .ok (.iaload, 1) := by decide +kernel
theorem dL_law_259 : decode cL_law 259 = .ok (.aload_n 0, 1) := by decide +kernel
theorem dL_law_260 : decode cL_law 260 = .ok (.iload 5, 2) := by decide +kernel
theorem dL_law_262 : decode cL_law 262 = .ok (.iconst 2, 1) := by decide +kernel
theorem dL_law_263 : decode cL_law 263 = .ok (.iadd, 1) := by decide +kernel
theorem dL_law_264 : decode cL_law 264 = .ok (.iaload, 1) := by decide +kernel
theorem dL_law_265 : decode cL_law 265 = .ok (.aload_n 0, 1) := by decide +kernel
theorem dL_law_266 : decode cL_law 266 = .ok (.iload 5, 2) := by decide +kernel
theorem dL_law_268 : decode cL_law 268 = .ok (.iconst 3, 1) := by decide +kernel
theorem dL_law_269 : decode cL_law 269 = .ok (.iadd, 1) := by decide +kernel
theorem dL_law_270 : decode cL_law 270 = .ok (.iaload, 1) := by decide +kernel
theorem dL_law_271 : decode cL_law 271 = .ok (.aload_n 0, 1) := by decide +kernel
theorem dL_law_272 : decode cL_law 272 = .ok (.iload 5, 2) := by decide +kernel
theorem dL_law_274 : decode cL_law 274 = .ok (.iconst 4, 1) := by decide +kernel
theorem dL_law_275 : decode cL_law 275 = .ok (.iadd, 1) := by decide +kernel
theorem dL_law_276 : decode cL_law 276 = .ok (.iaload, 1) := by decide +kernel
theorem dL_law_277 : decode cL_law 277 = .ok (.aload_n 0, 1) := by decide +kernel
theorem dL_law_278 : decode cL_law 278 = .ok (.iload 5, 2) := by decide +kernel
theorem dL_law_280 : decode cL_law 280 = .ok (.iconst 5, 1) := by decide +kernel
theorem dL_law_281 : decode cL_law 281 = .ok (.iadd, 1) := by decide +kernel
theorem dL_law_282 : decode cL_law 282 = .ok (.iaload, 1) := by decide +kernel
theorem dL_law_283 : decode cL_law 283 = .ok (.aload_n 3, 1) := by decide +kernel
theorem dL_law_284 : decode cL_law 284 = .ok (.invokestatic 91, 3) := by decide +kernel
theorem dL_law_287 : decode cL_law 287 = .ok (.istore 6, 2) := by decide +kernel
theorem dL_law_289 : decode cL_law 289 = .ok (.aload_n 2, 1) := by decide +kernel
theorem dL_law_290 : decode cL_law 290 = .ok (.aload_n 0, 1) := by decide +kernel
theorem dL_law_291 : decode cL_law 291 = .ok (.iload 5, 2) := by decide +kernel
theorem dL_law_293 : decode cL_law 293 = .ok (.iconst 1, 1) := by decide +kernel
theorem dL_law_294 : decode cL_law 294 = .ok (.iadd, 1) := by decide +kernel
theorem dL_law_295 : decode cL_law 295 = .ok (.iaload, 1) := by decide +kernel
theorem dL_law_296 : decode cL_law 296 = .ok (.aload_n 0, 1) := by decide +kernel
theorem dL_law_297 : decode cL_law 297 = .ok (.iload 5, 2) := by decide +kernel
theorem dL_law_299 : decode cL_law 299 = .ok (.iconst 2, 1) := by decide +kernel
theorem dL_law_300 : decode cL_law 300 = .ok (.iadd, 1) := by decide +kernel
theorem dL_law_301 : decode cL_law 301 = .ok (.iaload, 1) := by decide +kernel
theorem dL_law_302 : decode cL_law 302 = .ok (.aload_n 0, 1) := by decide +kernel
theorem dL_law_303 : decode cL_law 303 = .ok (.iload 5, 2) := by decide +kernel
theorem dL_law_305 : decode cL_law 305 = .ok (.iconst 3, 1) := by decide +kernel
theorem dL_law_306 : decode cL_law 306 = .ok (.iadd, 1) := by decide +kernel
theorem dL_law_307 : decode cL_law 307 = .ok (.iaload, 1) := by decide +kernel
theorem dL_law_308 : decode cL_law 308 = .ok (.aload_n 0, 1) := by decide +kernel
theorem dL_law_309 : decode cL_law 309 = .ok (.iload 5, 2) := by decide +kernel
theorem dL_law_311 : decode cL_law 311 = .ok (.iconst 4, 1) := by decide +kernel
theorem dL_law_312 : decode cL_law 312 = .ok (.iadd, 1) := by decide +kernel
theorem dL_law_313 : decode cL_law 313 = .ok (.iaload, 1) := by decide +kernel
theorem dL_law_314 : decode cL_law 314 = .ok (.aload_n 0, 1) := by decide +kernel
theorem dL_law_315 : decode cL_law 315 = .ok (.iload 5, 2) := by decide +kernel
theorem dL_law_317 : decode cL_law 317 = .ok (.iconst 5, 1) := by decide +kernel
theorem dL_law_318 : decode cL_law 318 = .ok (.iadd, 1) := by decide +kernel
theorem dL_law_319 : decode cL_law 319 = .ok (.iaload, 1) := by decide +kernel
theorem dL_law_320 : decode cL_law 320 = .ok (.invokevirtual 94, 3) := by decide +kernel
theorem dL_law_323 : decode cL_law 323 = .ok (.istore 7, 2) := by decide +kernel
theorem dL_law_325 : decode cL_law 325 = .ok (.aload_n 2, 1) := by decide +kernel
theorem dL_law_326 : decode cL_law 326 = .ok (.invokevirtual 88, 3) := by decide +kernel
theorem dL_law_329 : decode cL_law 329 = .ok (.iload 6, 2) := by decide +kernel
theorem dL_law_331 : decode cL_law 331 = .ok (.if_icmp .eq 5, 3) := by decide +kernel
theorem dL_law_334 : decode cL_law 334 = .ok (.iconst 0, 1) := by decide +kernel
theorem dL_law_335 : decode cL_law 335 = .ok (.ireturn, 1) := by decide +kernel
theorem dL_law_336 : decode cL_law 336 = .ok (.iload 6, 2) := by decide +kernel
theorem dL_law_338 : decode cL_law 338 = .ok (.ifCond .ne 15, 3) := by decide +kernel
theorem dL_law_341 : decode cL_law 341 = .ok (.aload_n 3, 1) := by decide +kernel
theorem dL_law_342 : decode cL_law 342 = .ok (.iconst 0, 1) := by decide +kernel
theorem dL_law_343 : decode cL_law 343 = .ok (.laload, 1) := by decide +kernel
theorem dL_law_344 : decode cL_law 344 = .ok (.iload 7, 2) := by decide +kernel
theorem dL_law_346 : decode cL_law 346 = .ok (.i2l, 1) := by decide +kernel
theorem dL_law_347 : decode cL_law 347 = .ok (.lcmp, 1) := by decide +kernel
theorem dL_law_348 : decode cL_law 348 = .ok (.ifCond .eq 5, 3) := by decide +kernel
theorem dL_law_351 : decode cL_law 351 = .ok (.iconst 0, 1) := by decide +kernel
theorem dL_law_352 : decode cL_law 352 = .ok (.ireturn, 1) := by decide +kernel
theorem dL_law_353 : decode cL_law 353 = .ok (.goto 1290, 3) := by decide +kernel
set_option maxRecDepth 20000 in
theorem wl_setMachine : GoodIn lw_tbl (va_wsS RL 91 yL_setMachine wsW_setMachine) := goodIn_app (fun w h => ⟨in_idx [406, 407, 47] (by decide +kernel) w h, good_of_word (List.all_eq_true.mp (show ([.methodLink RL 91 yL_setMachine, .static yL_setMachine, .initialized yL_setMachine.cls] : List Cond).all goodWord = true from by decide +kernel) w h)⟩) (fun w h => (List.mem_cons.mp h).elim (fun q => q ▸ ⟨List.mem_of_getElem? (i := 408) (by decide +kernel), good_of_word rfl⟩) (fun q => lwG_self w q))
set_option maxRecDepth 100000 in
set_option maxHeartbeats 4000000 in
theorem cs_setMachine {p : Program} {l : Launch} {e : Env} {s : State} {m : MethodId} {below : List Frame} {meth : Method} {c : Code} {bs L : Nat} {xs : Nat → Int32} {D : va_G} {cs : Nat → ClassId} {ad : Nat → Nat} {Q : State → Prop} {i cells slots : Nat} {Ls : Nat → SL} {Hs T M : SL} {dr hs o : Int64} {od : UInt64} {H : Heap} {locs : List Loc} {ls : Array Slot} (E : LX p l s m meth c bs L xs D cs ad) (hi : i + 6 ≤ L) (hc : cells + 3 ≤ room_1.cells ∧ slots + 18 ≤ room_1.slots) (hSS : SS Ls Hs T M) (hP : va_P D vwCl (wA cs ad Ls Hs T M dr hs o od) H) (hS : va_S (Afr ad s.heap.size) s.heap H locs) (hl : lv_has ls 9 (lvL bs ad (nI i))) (K : LK p l e s m bs below meth c D cs ad i cells slots Q) : W p l e room_1 s m #[.ref bs] below meth c H locs cells slots Q (F0 m 252 ls []) := by
  obtain ⟨C, G, X, N, Y, sX, sL, sA, hL, hfl⟩ := E
  obtain ⟨bv, M', res, v, Ls', Hs', o', eM, eC, h4, hSS', hov, hu, hk⟩ := r2_out o (s_setMachine hSS (xs (i + 1)) (xs (i + 2)) (xs (i + 3)) (xs (i + 4)) (xs (i + 5)))
  refine lv_aload_n C.1 C.2.1 dL_law_252 rfl (lv_at hl 1 rfl) ?_
  refine lv_aload_n C.1 C.2.1 dL_law_253 rfl (lv_at hl 0 rfl) ?_
  refine lv_iload C.1 C.2.1 dL_law_254 (lv_at hl 5 rfl) ?_
  refine lv_iconst (v := 1) C.1 C.2.1 dL_law_256 (by decide) ?_
  refine k_iadd C (np1 i) dL_law_257 ?_
  refine k_sld C sX sL sA hL hS (show i + 1 < L by omega) dL_law_258 ?_
  refine lv_aload_n C.1 C.2.1 dL_law_259 rfl (lv_at hl 0 rfl) ?_
  refine lv_iload C.1 C.2.1 dL_law_260 (lv_at hl 5 rfl) ?_
  refine lv_iconst (v := 2) C.1 C.2.1 dL_law_262 (by decide) ?_
  refine k_iadd C (np2 i) dL_law_263 ?_
  refine k_sld C sX sL sA hL hS (show i + 2 < L by omega) dL_law_264 ?_
  refine lv_aload_n C.1 C.2.1 dL_law_265 rfl (lv_at hl 0 rfl) ?_
  refine lv_iload C.1 C.2.1 dL_law_266 (lv_at hl 5 rfl) ?_
  refine lv_iconst (v := 3) C.1 C.2.1 dL_law_268 (by decide) ?_
  refine k_iadd C (np3 i) dL_law_269 ?_
  refine k_sld C sX sL sA hL hS (show i + 3 < L by omega) dL_law_270 ?_
  refine lv_aload_n C.1 C.2.1 dL_law_271 rfl (lv_at hl 0 rfl) ?_
  refine lv_iload C.1 C.2.1 dL_law_272 (lv_at hl 5 rfl) ?_
  refine lv_iconst (v := 4) C.1 C.2.1 dL_law_274 (by decide) ?_
  refine k_iadd C (np4 i) dL_law_275 ?_
  refine k_sld C sX sL sA hL hS (show i + 4 < L by omega) dL_law_276 ?_
  refine lv_aload_n C.1 C.2.1 dL_law_277 rfl (lv_at hl 0 rfl) ?_
  refine lv_iload C.1 C.2.1 dL_law_278 (lv_at hl 5 rfl) ?_
  refine lv_iconst (v := 5) C.1 C.2.1 dL_law_280 (by decide) ?_
  refine k_iadd C (np5 i) dL_law_281 ?_
  refine k_sld C sX sL sA hL hS (show i + 5 < L by omega) dL_law_282 ?_
  refine lv_aload_n C.1 C.2.1 dL_law_283 rfl (lv_at hl 3 rfl) ?_
  have hM := m_L_setMachine l hfl (D := D) (cs := cs) G.2.1 H.size (Ls := Ls) (Hs := Hs) (T := T) (M := M) (dr := dr) (hs := hs) (o := o) (od := od) eC (v := v) (w' := wA cs ad Ls' Hs' T M dr hs o' od) (fun u hu1 => by
    obtain ⟨a1, a2, a3, a4⟩ := hu u hu1
    exact ⟨a1, by rw [a2, a3, a4]⟩) (fun k hk1 => by
    obtain ⟨⟨a2, a3, a4⟩, q⟩ := hk k hk1
    exact ⟨by rw [a2, a3, a4], dk_B q⟩)
  refine k_callSWi C G X N Y hP hS hM (vx_cwSW 7 C.2.2.2.2.2.1 wl_setMachine rfl rfl rfl (by decide +kernel) ⟨Nat.le_of_ble_eq_true rfl, Nat.le_of_ble_eq_true rfl⟩) (As := [.ref (ad 0), .int (xs (i + 1)), .int (xs (i + 2)), .int (xs (i + 3)), .int (xs (i + 4)), .int (xs (i + 5)), .ref (ad 95)]) rfl hl.1 rfl (Nat.le_of_ble_eq_true rfl) dL_law_284 ⟨by omega, by omega⟩ (fun H locs hP hS => ?_)
  refine lv_istore (lv' := [(6, .int v), (0, .ref bs), (1, .ref (ad 0)), (2, .ref (ad 89)), (3, .ref (ad 95)), (4, .ref (ad 96)), (5, .int (nI i))]) C.1 C.2.1 dL_law_287 hl (by decide) rfl (fun ls hl => ?_)
  refine lv_aload_n C.1 C.2.1 dL_law_289 rfl (lv_at hl 3 rfl) ?_
  refine lv_aload_n C.1 C.2.1 dL_law_290 rfl (lv_at hl 1 rfl) ?_
  refine lv_iload C.1 C.2.1 dL_law_291 (lv_at hl 6 rfl) ?_
  refine lv_iconst (v := 1) C.1 C.2.1 dL_law_293 (by decide) ?_
  refine k_iadd C (np1 i) dL_law_294 ?_
  refine k_sld C sX sL sA hL hS (show i + 1 < L by omega) dL_law_295 ?_
  refine lv_aload_n C.1 C.2.1 dL_law_296 rfl (lv_at hl 1 rfl) ?_
  refine lv_iload C.1 C.2.1 dL_law_297 (lv_at hl 6 rfl) ?_
  refine lv_iconst (v := 2) C.1 C.2.1 dL_law_299 (by decide) ?_
  refine k_iadd C (np2 i) dL_law_300 ?_
  refine k_sld C sX sL sA hL hS (show i + 2 < L by omega) dL_law_301 ?_
  refine lv_aload_n C.1 C.2.1 dL_law_302 rfl (lv_at hl 1 rfl) ?_
  refine lv_iload C.1 C.2.1 dL_law_303 (lv_at hl 6 rfl) ?_
  refine lv_iconst (v := 3) C.1 C.2.1 dL_law_305 (by decide) ?_
  refine k_iadd C (np3 i) dL_law_306 ?_
  refine k_sld C sX sL sA hL hS (show i + 3 < L by omega) dL_law_307 ?_
  refine lv_aload_n C.1 C.2.1 dL_law_308 rfl (lv_at hl 1 rfl) ?_
  refine lv_iload C.1 C.2.1 dL_law_309 (lv_at hl 6 rfl) ?_
  refine lv_iconst (v := 4) C.1 C.2.1 dL_law_311 (by decide) ?_
  refine k_iadd C (np4 i) dL_law_312 ?_
  refine k_sld C sX sL sA hL hS (show i + 4 < L by omega) dL_law_313 ?_
  refine lv_aload_n C.1 C.2.1 dL_law_314 rfl (lv_at hl 1 rfl) ?_
  refine lv_iload C.1 C.2.1 dL_law_315 (lv_at hl 6 rfl) ?_
  refine lv_iconst (v := 5) C.1 C.2.1 dL_law_317 (by decide) ?_
  refine k_iadd C (np5 i) dL_law_318 ?_
  refine k_sld C sX sL sA hL hS (show i + 5 < L by omega) dL_law_319 ?_
  refine k_callVi C G hP hS (m_X6_setMachine l G.2.1 _ eM) r_obj rfl (cwV 5 C.2.2.2.2.2.1 (lwG_up wg_X6_setMachine) rfl rfl rfl (by decide +kernel) ⟨Nat.le_of_ble_eq_true rfl, Nat.le_of_ble_eq_true rfl⟩) (As := [.int (xs (i + 1)), .int (xs (i + 2)), .int (xs (i + 3)), .int (xs (i + 4)), .int (xs (i + 5))]) rfl hl.1 rfl (Nat.le_of_ble_eq_true rfl) dL_law_320 ⟨by omega, by omega⟩ (fun H locs hP hS => ?_)
  have hP : va_P D vwCl (wA cs ad Ls' Hs' T M' dr hs o' od) H := hP
  refine lv_istore (lv' := [(7, .int bv), (6, .int v), (0, .ref bs), (1, .ref (ad 0)), (2, .ref (ad 89)), (3, .ref (ad 95)), (4, .ref (ad 96)), (5, .int (nI i))]) C.1 C.2.1 dL_law_323 hl (by decide) rfl (fun ls hl => ?_)
  refine lv_aload_n C.1 C.2.1 dL_law_325 rfl (lv_at hl 4 rfl) ?_
  refine k_callVi C G hP hS (m_X6_thrown l G.2.1 _ (show f_X6_thrown M' = some v by rw [← h4]; rfl)) r_obj rfl (cwV 0 C.2.2.2.2.2.1 (lwG_up wg_X6_thrown) rfl rfl rfl (by decide +kernel) ⟨Nat.le_of_ble_eq_true rfl, Nat.le_of_ble_eq_true rfl⟩) (As := []) rfl hl.1 rfl (Nat.le_of_ble_eq_true rfl) dL_law_326 ⟨by omega, by omega⟩ (fun H locs hP hS => ?_)
  refine lv_iload C.1 C.2.1 dL_law_329 (lv_at hl 1 rfl) ?_
  refine lv_icmp_eq (tgt := 336) C.1 C.2.1 dL_law_331 (by decide) (fun _ => ?_) (fun z => absurd rfl z)
  refine lv_iload C.1 C.2.1 dL_law_336 (lv_at hl 1 rfl) ?_
  have hSS := hSS'
  refine lv_if_ne (tgt := 353) C.1 C.2.1 dL_law_338 (by decide) (fun _ => ?_) (fun z => ?_)
  · refine lv_goto (tgt := 1643) C.1 C.2.1 dL_law_353 (by decide) ?_
    refine W.widen (k := cells + 3) (n := slots + 18) (by omega) (by omega) ?_
    exact K _ _ _ _ _ _ _ _ _ _ _ hSS hP hS (lv_sub hl [2, 3, 4, 5, 6, 7] rfl)
  · refine lv_aload_n C.1 C.2.1 dL_law_341 rfl (lv_at hl 5 rfl) ?_
    refine lv_iconst (v := 0) C.1 C.2.1 dL_law_342 (by decide) ?_
    refine k_laldO C G hP dL_law_343 ?_
    refine lv_iload C.1 C.2.1 dL_law_344 (lv_at hl 0 rfl) ?_
    refine k_i2l C (hov z) dL_law_346 ?_
    refine W.lcmp C.1 C.2.1 dL_law_347 ?_
    refine lv_if_eq (tgt := 353) C.1 C.2.1 dL_law_348 (by decide) (fun _ => ?_) (fun q => absurd (lg_self _) q)
    refine lv_goto (tgt := 1643) C.1 C.2.1 dL_law_353 (by decide) ?_
    refine W.widen (k := cells + 3) (n := slots + 18) (by omega) (by omega) ?_
    exact K _ _ _ _ _ _ _ _ _ _ _ hSS hP hS (lv_sub hl [2, 3, 4, 5, 6, 7] rfl)
theorem dL_law_356 : decode cL_law 356 = .ok (.aload_n 1, 1) := by decide +kernel
theorem dL_law_357 : decode cL_law 357 = .ok (.aload_n 0, 1) := by decide +kernel
theorem dL_law_358 : decode cL_law 358 = .ok (.iload 5, 2) := by decide +kernel
theorem dL_law_360 : decode cL_law 360 = .ok (.iconst 1, 1) := by decide +kernel
theorem dL_law_361 : decode cL_law 361 = .ok (.iadd, 1) := by decide +kernel
theorem dL_law_362 : decode cL_law 362 = .ok (.iaload, 1) := by decide +kernel
theorem dL_law_363 : decode cL_law 363 = .ok (.aload_n 0, 1) := by decide +kernel
theorem dL_law_364 : decode cL_law 364 = .ok (.iload 5, 2) := by decide +kernel
theorem dL_law_366 : decode cL_law 366 = .ok (.iconst 2, 1) := by decide +kernel
theorem dL_law_367 : decode cL_law 367 = .ok (.iadd, 1) := by decide +kernel
theorem dL_law_368 : decode cL_law 368 = .ok (.iaload, 1) := by decide +kernel
theorem dL_law_369 : decode cL_law 369 = .ok (.aload_n 3, 1) := by decide +kernel
theorem dL_law_370 : decode cL_law 370 = .ok (.invokestatic 95, 3) := by decide +kernel
theorem dL_law_373 : decode cL_law 373 = .ok (.istore 6, 2) := by decide +kernel
theorem dL_law_375 : decode cL_law 375 = .ok (.aload_n 2, 1) := by decide +kernel
theorem dL_law_376 : decode cL_law 376 = .ok (.aload_n 0, 1) := by decide +kernel
theorem dL_law_377 : decode cL_law 377 = .ok (.iload 5, 2) := by decide +kernel
theorem dL_law_379 : decode cL_law 379 = .ok (.iconst 1, 1) := by decide +kernel
theorem dL_law_380 : decode cL_law 380 = .ok (.iadd, 1) := by decide +kernel
theorem dL_law_381 : decode cL_law 381 = .ok (.iaload, 1) := by decide +kernel
theorem dL_law_382 : decode cL_law 382 = .ok (.aload_n 0, 1) := by decide +kernel
theorem dL_law_383 : decode cL_law 383 = .ok (.iload 5, 2) := by decide +kernel
theorem dL_law_385 : decode cL_law 385 = .ok (.iconst 2, 1) := by decide +kernel
theorem dL_law_386 : decode cL_law 386 = .ok (.iadd, 1) := by decide +kernel
theorem dL_law_387 : decode cL_law 387 = .ok (.iaload, 1) := by decide +kernel
theorem dL_law_388 : decode cL_law 388 = .ok (.invokevirtual 98, 3) := by decide +kernel
theorem dL_law_391 : decode cL_law 391 = .ok (.istore 7, 2) := by decide +kernel
theorem dL_law_393 : decode cL_law 393 = .ok (.aload_n 2, 1) := by decide +kernel
theorem dL_law_394 : decode cL_law 394 = .ok (.invokevirtual 88, 3) := by decide +kernel
theorem dL_law_397 : decode cL_law 397 = .ok (.iload 6, 2) := by decide +kernel
theorem dL_law_399 : decode cL_law 399 = .ok (.if_icmp .eq 5, 3) := by decide +kernel
theorem dL_law_402 : decode cL_law 402 = .ok (.iconst 0, 1) := by decide +kernel
theorem dL_law_403 : decode cL_law 403 = .ok (.ireturn, 1) := by decide +kernel
theorem dL_law_404 : decode cL_law 404 = .ok (.iload 6, 2) := by decide +kernel
theorem dL_law_406 : decode cL_law 406 = .ok (.ifCond .ne 15, 3) := by decide +kernel
theorem dL_law_409 : decode cL_law 409 = .ok (.aload_n 3, 1) := by decide +kernel
theorem dL_law_410 : decode cL_law 410 = .ok (.iconst 0, 1) := by decide +kernel
theorem dL_law_411 : decode cL_law 411 = .ok (.laload, 1) := by decide +kernel
theorem dL_law_412 : decode cL_law 412 = .ok (.iload 7, 2) := by decide +kernel
theorem dL_law_414 : decode cL_law 414 = .ok (.i2l, 1) := by decide +kernel
theorem dL_law_415 : decode cL_law 415 = .ok (.lcmp, 1) := by decide +kernel
theorem dL_law_416 : decode cL_law 416 = .ok (.ifCond .eq 5, 3) := by decide +kernel
theorem dL_law_419 : decode cL_law 419 = .ok (.iconst 0, 1) := by decide +kernel
theorem dL_law_420 : decode cL_law 420 = .ok (.ireturn, 1) := by decide +kernel
theorem dL_law_421 : decode cL_law 421 = .ok (.goto 1222, 3) := by decide +kernel
set_option maxRecDepth 20000 in
theorem wl_setCapacity : GoodIn lw_tbl (va_wsS RL 95 yL_setCapacity wsW_setCapacity) := goodIn_app (fun w h => ⟨in_idx [436, 437, 47] (by decide +kernel) w h, good_of_word (List.all_eq_true.mp (show ([.methodLink RL 95 yL_setCapacity, .static yL_setCapacity, .initialized yL_setCapacity.cls] : List Cond).all goodWord = true from by decide +kernel) w h)⟩) (fun w h => (List.mem_cons.mp h).elim (fun q => q ▸ ⟨List.mem_of_getElem? (i := 438) (by decide +kernel), good_of_word rfl⟩) (fun q => lwG_self w q))
set_option maxRecDepth 100000 in
set_option maxHeartbeats 4000000 in
theorem cs_setCapacity {p : Program} {l : Launch} {e : Env} {s : State} {m : MethodId} {below : List Frame} {meth : Method} {c : Code} {bs L : Nat} {xs : Nat → Int32} {D : va_G} {cs : Nat → ClassId} {ad : Nat → Nat} {Q : State → Prop} {i cells slots : Nat} {Ls : Nat → SL} {Hs T M : SL} {dr hs o : Int64} {od : UInt64} {H : Heap} {locs : List Loc} {ls : Array Slot} (E : LX p l s m meth c bs L xs D cs ad) (hi : i + 6 ≤ L) (hc : cells + 3 ≤ room_1.cells ∧ slots + 18 ≤ room_1.slots) (hSS : SS Ls Hs T M) (hP : va_P D vwCl (wA cs ad Ls Hs T M dr hs o od) H) (hS : va_S (Afr ad s.heap.size) s.heap H locs) (hl : lv_has ls 9 (lvL bs ad (nI i))) (K : LK p l e s m bs below meth c D cs ad i cells slots Q) : W p l e room_1 s m #[.ref bs] below meth c H locs cells slots Q (F0 m 356 ls []) := by
  obtain ⟨C, G, X, N, Y, sX, sL, sA, hL, hfl⟩ := E
  obtain ⟨bv, M', res, v, Ls', Hs', o', eM, eC, h4, hSS', hov, hu, hk⟩ := r2_out o (s_setCapacity hSS (xs (i + 1)) (xs (i + 2)))
  refine lv_aload_n C.1 C.2.1 dL_law_356 rfl (lv_at hl 1 rfl) ?_
  refine lv_aload_n C.1 C.2.1 dL_law_357 rfl (lv_at hl 0 rfl) ?_
  refine lv_iload C.1 C.2.1 dL_law_358 (lv_at hl 5 rfl) ?_
  refine lv_iconst (v := 1) C.1 C.2.1 dL_law_360 (by decide) ?_
  refine k_iadd C (np1 i) dL_law_361 ?_
  refine k_sld C sX sL sA hL hS (show i + 1 < L by omega) dL_law_362 ?_
  refine lv_aload_n C.1 C.2.1 dL_law_363 rfl (lv_at hl 0 rfl) ?_
  refine lv_iload C.1 C.2.1 dL_law_364 (lv_at hl 5 rfl) ?_
  refine lv_iconst (v := 2) C.1 C.2.1 dL_law_366 (by decide) ?_
  refine k_iadd C (np2 i) dL_law_367 ?_
  refine k_sld C sX sL sA hL hS (show i + 2 < L by omega) dL_law_368 ?_
  refine lv_aload_n C.1 C.2.1 dL_law_369 rfl (lv_at hl 3 rfl) ?_
  have hM := m_L_setCapacity l hfl (D := D) (cs := cs) G.2.1 H.size (Ls := Ls) (Hs := Hs) (T := T) (M := M) (dr := dr) (hs := hs) (o := o) (od := od) eC (v := v) (w' := wA cs ad Ls' Hs' T M dr hs o' od) (fun u hu1 => by
    obtain ⟨a1, a2, a3, a4⟩ := hu u hu1
    exact ⟨a1, by rw [a2, a3, a4]⟩) (fun k hk1 => by
    obtain ⟨⟨a2, a3, a4⟩, q⟩ := hk k hk1
    exact ⟨by rw [a2, a3, a4], dk_B q⟩)
  refine k_callSWi C G X N Y hP hS hM (vx_cwSW 4 C.2.2.2.2.2.1 wl_setCapacity rfl rfl rfl (by decide +kernel) ⟨Nat.le_of_ble_eq_true rfl, Nat.le_of_ble_eq_true rfl⟩) (As := [.ref (ad 0), .int (xs (i + 1)), .int (xs (i + 2)), .ref (ad 95)]) rfl hl.1 rfl (Nat.le_of_ble_eq_true rfl) dL_law_370 ⟨by omega, by omega⟩ (fun H locs hP hS => ?_)
  refine lv_istore (lv' := [(6, .int v), (0, .ref bs), (1, .ref (ad 0)), (2, .ref (ad 89)), (3, .ref (ad 95)), (4, .ref (ad 96)), (5, .int (nI i))]) C.1 C.2.1 dL_law_373 hl (by decide) rfl (fun ls hl => ?_)
  refine lv_aload_n C.1 C.2.1 dL_law_375 rfl (lv_at hl 3 rfl) ?_
  refine lv_aload_n C.1 C.2.1 dL_law_376 rfl (lv_at hl 1 rfl) ?_
  refine lv_iload C.1 C.2.1 dL_law_377 (lv_at hl 6 rfl) ?_
  refine lv_iconst (v := 1) C.1 C.2.1 dL_law_379 (by decide) ?_
  refine k_iadd C (np1 i) dL_law_380 ?_
  refine k_sld C sX sL sA hL hS (show i + 1 < L by omega) dL_law_381 ?_
  refine lv_aload_n C.1 C.2.1 dL_law_382 rfl (lv_at hl 1 rfl) ?_
  refine lv_iload C.1 C.2.1 dL_law_383 (lv_at hl 6 rfl) ?_
  refine lv_iconst (v := 2) C.1 C.2.1 dL_law_385 (by decide) ?_
  refine k_iadd C (np2 i) dL_law_386 ?_
  refine k_sld C sX sL sA hL hS (show i + 2 < L by omega) dL_law_387 ?_
  refine k_callVi C G hP hS (m_X6_setCapacity l G.2.1 _ eM) r_obj rfl (cwV 2 C.2.2.2.2.2.1 (lwG_up wg_X6_setCapacity) rfl rfl rfl (by decide +kernel) ⟨Nat.le_of_ble_eq_true rfl, Nat.le_of_ble_eq_true rfl⟩) (As := [.int (xs (i + 1)), .int (xs (i + 2))]) rfl hl.1 rfl (Nat.le_of_ble_eq_true rfl) dL_law_388 ⟨by omega, by omega⟩ (fun H locs hP hS => ?_)
  have hP : va_P D vwCl (wA cs ad Ls' Hs' T M' dr hs o' od) H := hP
  refine lv_istore (lv' := [(7, .int bv), (6, .int v), (0, .ref bs), (1, .ref (ad 0)), (2, .ref (ad 89)), (3, .ref (ad 95)), (4, .ref (ad 96)), (5, .int (nI i))]) C.1 C.2.1 dL_law_391 hl (by decide) rfl (fun ls hl => ?_)
  refine lv_aload_n C.1 C.2.1 dL_law_393 rfl (lv_at hl 4 rfl) ?_
  refine k_callVi C G hP hS (m_X6_thrown l G.2.1 _ (show f_X6_thrown M' = some v by rw [← h4]; rfl)) r_obj rfl (cwV 0 C.2.2.2.2.2.1 (lwG_up wg_X6_thrown) rfl rfl rfl (by decide +kernel) ⟨Nat.le_of_ble_eq_true rfl, Nat.le_of_ble_eq_true rfl⟩) (As := []) rfl hl.1 rfl (Nat.le_of_ble_eq_true rfl) dL_law_394 ⟨by omega, by omega⟩ (fun H locs hP hS => ?_)
  refine lv_iload C.1 C.2.1 dL_law_397 (lv_at hl 1 rfl) ?_
  refine lv_icmp_eq (tgt := 404) C.1 C.2.1 dL_law_399 (by decide) (fun _ => ?_) (fun z => absurd rfl z)
  refine lv_iload C.1 C.2.1 dL_law_404 (lv_at hl 1 rfl) ?_
  have hSS := hSS'
  refine lv_if_ne (tgt := 421) C.1 C.2.1 dL_law_406 (by decide) (fun _ => ?_) (fun z => ?_)
  · refine lv_goto (tgt := 1643) C.1 C.2.1 dL_law_421 (by decide) ?_
    refine W.widen (k := cells + 3) (n := slots + 18) (by omega) (by omega) ?_
    exact K _ _ _ _ _ _ _ _ _ _ _ hSS hP hS (lv_sub hl [2, 3, 4, 5, 6, 7] rfl)
  · refine lv_aload_n C.1 C.2.1 dL_law_409 rfl (lv_at hl 5 rfl) ?_
    refine lv_iconst (v := 0) C.1 C.2.1 dL_law_410 (by decide) ?_
    refine k_laldO C G hP dL_law_411 ?_
    refine lv_iload C.1 C.2.1 dL_law_412 (lv_at hl 0 rfl) ?_
    refine k_i2l C (hov z) dL_law_414 ?_
    refine W.lcmp C.1 C.2.1 dL_law_415 ?_
    refine lv_if_eq (tgt := 421) C.1 C.2.1 dL_law_416 (by decide) (fun _ => ?_) (fun q => absurd (lg_self _) q)
    refine lv_goto (tgt := 1643) C.1 C.2.1 dL_law_421 (by decide) ?_
    refine W.widen (k := cells + 3) (n := slots + 18) (by omega) (by omega) ?_
    exact K _ _ _ _ _ _ _ _ _ _ _ hSS hP hS (lv_sub hl [2, 3, 4, 5, 6, 7] rfl)
theorem dL_law_424 : decode cL_law 424 = .ok (.aload_n 1, 1) := by decide +kernel
theorem dL_law_425 : decode cL_law 425 = .ok (.aload_n 0, 1) := by decide +kernel
theorem dL_law_426 : decode cL_law 426 = .ok (.iload 5, 2) := by decide +kernel
theorem dL_law_428 : decode cL_law 428 = .ok (.iconst 1, 1) := by decide +kernel
theorem dL_law_429 : decode cL_law 429 = .ok (.iadd, 1) := by decide +kernel
theorem dL_law_430 : decode cL_law 430 = .ok (.iaload, 1) := by decide +kernel
theorem dL_law_431 : decode cL_law 431 = .ok (.aload_n 0, 1) := by decide +kernel
theorem dL_law_432 : decode cL_law 432 = .ok (.iload 5, 2) := by decide +kernel
theorem dL_law_434 : decode cL_law 434 = .ok (.iconst 2, 1) := by decide +kernel
theorem dL_law_435 : decode cL_law 435 = .ok (.iadd, 1) := by decide +kernel
theorem dL_law_436 : decode cL_law 436 = .ok (.iaload, 1) := by decide +kernel
theorem dL_law_437 : decode cL_law 437 = .ok (.aload_n 0, 1) := by decide +kernel
theorem dL_law_438 : decode cL_law 438 = .ok (.iload 5, 2) := by decide +kernel
theorem dL_law_440 : decode cL_law 440 = .ok (.iconst 3, 1) := by decide +kernel
theorem dL_law_441 : decode cL_law 441 = .ok (.iadd, 1) := by decide +kernel
theorem dL_law_442 : decode cL_law 442 = .ok (.iaload, 1) := by decide +kernel
theorem dL_law_443 : decode cL_law 443 = .ok (.aload_n 3, 1) := by decide +kernel
theorem dL_law_444 : decode cL_law 444 = .ok (.invokestatic 99, 3) := by decide +kernel
theorem dL_law_447 : decode cL_law 447 = .ok (.istore 6, 2) := by decide +kernel
theorem dL_law_449 : decode cL_law 449 = .ok (.aload_n 2, 1) := by decide +kernel
theorem dL_law_450 : decode cL_law 450 = .ok (.aload_n 0, 1) := by decide +kernel
theorem dL_law_451 : decode cL_law 451 = .ok (.iload 5, 2) := by decide +kernel
theorem dL_law_453 : decode cL_law 453 = .ok (.iconst 1, 1) := by decide +kernel
theorem dL_law_454 : decode cL_law 454 = .ok (.iadd, 1) := by decide +kernel
theorem dL_law_455 : decode cL_law 455 = .ok (.iaload, 1) := by decide +kernel
theorem dL_law_456 : decode cL_law 456 = .ok (.aload_n 0, 1) := by decide +kernel
theorem dL_law_457 : decode cL_law 457 = .ok (.iload 5, 2) := by decide +kernel
theorem dL_law_459 : decode cL_law 459 = .ok (.iconst 2, 1) := by decide +kernel
theorem dL_law_460 : decode cL_law 460 = .ok (.iadd, 1) := by decide +kernel
theorem dL_law_461 : decode cL_law 461 = .ok (.iaload, 1) := by decide +kernel
theorem dL_law_462 : decode cL_law 462 = .ok (.aload_n 0, 1) := by decide +kernel
theorem dL_law_463 : decode cL_law 463 = .ok (.iload 5, 2) := by decide +kernel
theorem dL_law_465 : decode cL_law 465 = .ok (.iconst 3, 1) := by decide +kernel
theorem dL_law_466 : decode cL_law 466 = .ok (.iadd, 1) := by decide +kernel
theorem dL_law_467 : decode cL_law 467 = .ok (.iaload, 1) := by decide +kernel
theorem dL_law_468 : decode cL_law 468 = .ok (.invokevirtual 101, 3) := by decide +kernel
theorem dL_law_471 : decode cL_law 471 = .ok (.istore 7, 2) := by decide +kernel
theorem dL_law_473 : decode cL_law 473 = .ok (.aload_n 2, 1) := by decide +kernel
theorem dL_law_474 : decode cL_law 474 = .ok (.invokevirtual 88, 3) := by decide +kernel
theorem dL_law_477 : decode cL_law 477 = .ok (.iload 6, 2) := by decide +kernel
theorem dL_law_479 : decode cL_law 479 = .ok (.if_icmp .eq 5, 3) := by decide +kernel
theorem dL_law_482 : decode cL_law 482 = .ok (.iconst 0, 1) := by decide +kernel
theorem dL_law_483 : decode cL_law 483 = .ok (.ireturn, 1) := by decide +kernel
theorem dL_law_484 : decode cL_law 484 = .ok (.iload 6, 2) := by decide +kernel
theorem dL_law_486 : decode cL_law 486 = .ok (.ifCond .ne 15, 3) := by decide +kernel
theorem dL_law_489 : decode cL_law 489 = .ok (.aload_n 3, 1) := by decide +kernel
theorem dL_law_490 : decode cL_law 490 = .ok (.iconst 0, 1) := by decide +kernel
theorem dL_law_491 : decode cL_law 491 = .ok (.laload, 1) := by decide +kernel
theorem dL_law_492 : decode cL_law 492 = .ok (.iload 7, 2) := by decide +kernel
theorem dL_law_494 : decode cL_law 494 = .ok (.i2l, 1) := by decide +kernel
theorem dL_law_495 : decode cL_law 495 = .ok (.lcmp, 1) := by decide +kernel
theorem dL_law_496 : decode cL_law 496 = .ok (.ifCond .eq 5, 3) := by decide +kernel
theorem dL_law_499 : decode cL_law 499 = .ok (.iconst 0, 1) := by decide +kernel
theorem dL_law_500 : decode cL_law 500 = .ok (.ireturn, 1) := by decide +kernel
theorem dL_law_501 : decode cL_law 501 = .ok (.goto 1142, 3) := by decide +kernel
set_option maxRecDepth 20000 in
theorem wl_addStop : GoodIn lw_tbl (va_wsS RL 99 yL_addStop wsW_addStop) := goodIn_app (fun w h => ⟨in_idx [444, 445, 47] (by decide +kernel) w h, good_of_word (List.all_eq_true.mp (show ([.methodLink RL 99 yL_addStop, .static yL_addStop, .initialized yL_addStop.cls] : List Cond).all goodWord = true from by decide +kernel) w h)⟩) (fun w h => (List.mem_cons.mp h).elim (fun q => q ▸ ⟨List.mem_of_getElem? (i := 446) (by decide +kernel), good_of_word rfl⟩) (fun q => lwG_self w q))
set_option maxRecDepth 100000 in
set_option maxHeartbeats 4000000 in
theorem cs_addStop {p : Program} {l : Launch} {e : Env} {s : State} {m : MethodId} {below : List Frame} {meth : Method} {c : Code} {bs L : Nat} {xs : Nat → Int32} {D : va_G} {cs : Nat → ClassId} {ad : Nat → Nat} {Q : State → Prop} {i cells slots : Nat} {Ls : Nat → SL} {Hs T M : SL} {dr hs o : Int64} {od : UInt64} {H : Heap} {locs : List Loc} {ls : Array Slot} (E : LX p l s m meth c bs L xs D cs ad) (hi : i + 6 ≤ L) (hc : cells + 3 ≤ room_1.cells ∧ slots + 18 ≤ room_1.slots) (hSS : SS Ls Hs T M) (hP : va_P D vwCl (wA cs ad Ls Hs T M dr hs o od) H) (hS : va_S (Afr ad s.heap.size) s.heap H locs) (hl : lv_has ls 9 (lvL bs ad (nI i))) (K : LK p l e s m bs below meth c D cs ad i cells slots Q) : W p l e room_1 s m #[.ref bs] below meth c H locs cells slots Q (F0 m 424 ls []) := by
  obtain ⟨C, G, X, N, Y, sX, sL, sA, hL, hfl⟩ := E
  obtain ⟨bv, M', res, v, Ls', Hs', o', eM, eC, h4, hSS', hov, hu, hk⟩ := r2_out o (s_addStop hSS (xs (i + 1)) (xs (i + 2)) (xs (i + 3)))
  refine lv_aload_n C.1 C.2.1 dL_law_424 rfl (lv_at hl 1 rfl) ?_
  refine lv_aload_n C.1 C.2.1 dL_law_425 rfl (lv_at hl 0 rfl) ?_
  refine lv_iload C.1 C.2.1 dL_law_426 (lv_at hl 5 rfl) ?_
  refine lv_iconst (v := 1) C.1 C.2.1 dL_law_428 (by decide) ?_
  refine k_iadd C (np1 i) dL_law_429 ?_
  refine k_sld C sX sL sA hL hS (show i + 1 < L by omega) dL_law_430 ?_
  refine lv_aload_n C.1 C.2.1 dL_law_431 rfl (lv_at hl 0 rfl) ?_
  refine lv_iload C.1 C.2.1 dL_law_432 (lv_at hl 5 rfl) ?_
  refine lv_iconst (v := 2) C.1 C.2.1 dL_law_434 (by decide) ?_
  refine k_iadd C (np2 i) dL_law_435 ?_
  refine k_sld C sX sL sA hL hS (show i + 2 < L by omega) dL_law_436 ?_
  refine lv_aload_n C.1 C.2.1 dL_law_437 rfl (lv_at hl 0 rfl) ?_
  refine lv_iload C.1 C.2.1 dL_law_438 (lv_at hl 5 rfl) ?_
  refine lv_iconst (v := 3) C.1 C.2.1 dL_law_440 (by decide) ?_
  refine k_iadd C (np3 i) dL_law_441 ?_
  refine k_sld C sX sL sA hL hS (show i + 3 < L by omega) dL_law_442 ?_
  refine lv_aload_n C.1 C.2.1 dL_law_443 rfl (lv_at hl 3 rfl) ?_
  have hM := m_L_addStop l hfl (D := D) (cs := cs) G.2.1 H.size (Ls := Ls) (Hs := Hs) (T := T) (M := M) (dr := dr) (hs := hs) (o := o) (od := od) eC (v := v) (w' := wA cs ad Ls' Hs' T M dr hs o' od) (fun u hu1 => by
    obtain ⟨a1, a2, a3, a4⟩ := hu u hu1
    exact ⟨a1, by rw [a2, a3, a4]⟩) (fun k hk1 => by
    obtain ⟨⟨a2, a3, a4⟩, q⟩ := hk k hk1
    exact ⟨by rw [a2, a3, a4], dk_C q⟩)
  refine k_callSWi C G X N Y hP hS hM (vx_cwSW 5 C.2.2.2.2.2.1 wl_addStop rfl rfl rfl (by decide +kernel) ⟨Nat.le_of_ble_eq_true rfl, Nat.le_of_ble_eq_true rfl⟩) (As := [.ref (ad 0), .int (xs (i + 1)), .int (xs (i + 2)), .int (xs (i + 3)), .ref (ad 95)]) rfl hl.1 rfl (Nat.le_of_ble_eq_true rfl) dL_law_444 ⟨by omega, by omega⟩ (fun H locs hP hS => ?_)
  refine lv_istore (lv' := [(6, .int v), (0, .ref bs), (1, .ref (ad 0)), (2, .ref (ad 89)), (3, .ref (ad 95)), (4, .ref (ad 96)), (5, .int (nI i))]) C.1 C.2.1 dL_law_447 hl (by decide) rfl (fun ls hl => ?_)
  refine lv_aload_n C.1 C.2.1 dL_law_449 rfl (lv_at hl 3 rfl) ?_
  refine lv_aload_n C.1 C.2.1 dL_law_450 rfl (lv_at hl 1 rfl) ?_
  refine lv_iload C.1 C.2.1 dL_law_451 (lv_at hl 6 rfl) ?_
  refine lv_iconst (v := 1) C.1 C.2.1 dL_law_453 (by decide) ?_
  refine k_iadd C (np1 i) dL_law_454 ?_
  refine k_sld C sX sL sA hL hS (show i + 1 < L by omega) dL_law_455 ?_
  refine lv_aload_n C.1 C.2.1 dL_law_456 rfl (lv_at hl 1 rfl) ?_
  refine lv_iload C.1 C.2.1 dL_law_457 (lv_at hl 6 rfl) ?_
  refine lv_iconst (v := 2) C.1 C.2.1 dL_law_459 (by decide) ?_
  refine k_iadd C (np2 i) dL_law_460 ?_
  refine k_sld C sX sL sA hL hS (show i + 2 < L by omega) dL_law_461 ?_
  refine lv_aload_n C.1 C.2.1 dL_law_462 rfl (lv_at hl 1 rfl) ?_
  refine lv_iload C.1 C.2.1 dL_law_463 (lv_at hl 6 rfl) ?_
  refine lv_iconst (v := 3) C.1 C.2.1 dL_law_465 (by decide) ?_
  refine k_iadd C (np3 i) dL_law_466 ?_
  refine k_sld C sX sL sA hL hS (show i + 3 < L by omega) dL_law_467 ?_
  refine k_callVi C G hP hS (m_X6_addStop l G.2.1 _ eM) r_obj rfl (cwV 3 C.2.2.2.2.2.1 (lwG_up wg_X6_addStop) rfl rfl rfl (by decide +kernel) ⟨Nat.le_of_ble_eq_true rfl, Nat.le_of_ble_eq_true rfl⟩) (As := [.int (xs (i + 1)), .int (xs (i + 2)), .int (xs (i + 3))]) rfl hl.1 rfl (Nat.le_of_ble_eq_true rfl) dL_law_468 ⟨by omega, by omega⟩ (fun H locs hP hS => ?_)
  have hP : va_P D vwCl (wA cs ad Ls' Hs' T M' dr hs o' od) H := hP
  refine lv_istore (lv' := [(7, .int bv), (6, .int v), (0, .ref bs), (1, .ref (ad 0)), (2, .ref (ad 89)), (3, .ref (ad 95)), (4, .ref (ad 96)), (5, .int (nI i))]) C.1 C.2.1 dL_law_471 hl (by decide) rfl (fun ls hl => ?_)
  refine lv_aload_n C.1 C.2.1 dL_law_473 rfl (lv_at hl 4 rfl) ?_
  refine k_callVi C G hP hS (m_X6_thrown l G.2.1 _ (show f_X6_thrown M' = some v by rw [← h4]; rfl)) r_obj rfl (cwV 0 C.2.2.2.2.2.1 (lwG_up wg_X6_thrown) rfl rfl rfl (by decide +kernel) ⟨Nat.le_of_ble_eq_true rfl, Nat.le_of_ble_eq_true rfl⟩) (As := []) rfl hl.1 rfl (Nat.le_of_ble_eq_true rfl) dL_law_474 ⟨by omega, by omega⟩ (fun H locs hP hS => ?_)
  refine lv_iload C.1 C.2.1 dL_law_477 (lv_at hl 1 rfl) ?_
  refine lv_icmp_eq (tgt := 484) C.1 C.2.1 dL_law_479 (by decide) (fun _ => ?_) (fun z => absurd rfl z)
  refine lv_iload C.1 C.2.1 dL_law_484 (lv_at hl 1 rfl) ?_
  have hSS := hSS'
  refine lv_if_ne (tgt := 501) C.1 C.2.1 dL_law_486 (by decide) (fun _ => ?_) (fun z => ?_)
  · refine lv_goto (tgt := 1643) C.1 C.2.1 dL_law_501 (by decide) ?_
    refine W.widen (k := cells + 3) (n := slots + 18) (by omega) (by omega) ?_
    exact K _ _ _ _ _ _ _ _ _ _ _ hSS hP hS (lv_sub hl [2, 3, 4, 5, 6, 7] rfl)
  · refine lv_aload_n C.1 C.2.1 dL_law_489 rfl (lv_at hl 5 rfl) ?_
    refine lv_iconst (v := 0) C.1 C.2.1 dL_law_490 (by decide) ?_
    refine k_laldO C G hP dL_law_491 ?_
    refine lv_iload C.1 C.2.1 dL_law_492 (lv_at hl 0 rfl) ?_
    refine k_i2l C (hov z) dL_law_494 ?_
    refine W.lcmp C.1 C.2.1 dL_law_495 ?_
    refine lv_if_eq (tgt := 501) C.1 C.2.1 dL_law_496 (by decide) (fun _ => ?_) (fun q => absurd (lg_self _) q)
    refine lv_goto (tgt := 1643) C.1 C.2.1 dL_law_501 (by decide) ?_
    refine W.widen (k := cells + 3) (n := slots + 18) (by omega) (by omega) ?_
    exact K _ _ _ _ _ _ _ _ _ _ _ hSS hP hS (lv_sub hl [2, 3, 4, 5, 6, 7] rfl)
theorem dL_law_504 : decode cL_law 504 = .ok (.aload_n 1, 1) := by decide +kernel
theorem dL_law_505 : decode cL_law 505 = .ok (.aload_n 0, 1) := by decide +kernel
theorem dL_law_506 : decode cL_law 506 = .ok (.iload 5, 2) := by decide +kernel
theorem dL_law_508 : decode cL_law 508 = .ok (.iconst 1, 1) := by decide +kernel
theorem dL_law_509 : decode cL_law 509 = .ok (.iadd, 1) := by decide +kernel
theorem dL_law_510 : decode cL_law 510 = .ok (.iaload, 1) := by decide +kernel
theorem dL_law_511 : decode cL_law 511 = .ok (.aload_n 0, 1) := by decide +kernel
theorem dL_law_512 : decode cL_law 512 = .ok (.iload 5, 2) := by decide +kernel
theorem dL_law_514 : decode cL_law 514 = .ok (.iconst 2, 1) := by decide +kernel
theorem dL_law_515 : decode cL_law 515 = .ok (.iadd, 1) := by decide +kernel
theorem dL_law_516 : decode cL_law 516 = .ok (.iaload, 1) := by decide +kernel
theorem dL_law_517 : decode cL_law 517 = .ok (.aload_n 0, 1) := by decide +kernel
theorem dL_law_518 : decode cL_law 518 = .ok (.iload 5, 2) := by decide +kernel
theorem dL_law_520 : decode cL_law 520 = .ok (.iconst 3, 1) := by decide +kernel
theorem dL_law_521 : decode cL_law 521 = .ok (.iadd, 1) := by decide +kernel
theorem dL_law_522 : decode cL_law 522 = .ok (.iaload, 1) := by decide +kernel
theorem dL_law_523 : decode cL_law 523 = .ok (.aload_n 0, 1) := by decide +kernel
theorem dL_law_524 : decode cL_law 524 = .ok (.iload 5, 2) := by decide +kernel
theorem dL_law_526 : decode cL_law 526 = .ok (.iconst 4, 1) := by decide +kernel
theorem dL_law_527 : decode cL_law 527 = .ok (.iadd, 1) := by decide +kernel
theorem dL_law_528 : decode cL_law 528 = .ok (.iaload, 1) := by decide +kernel
theorem dL_law_529 : decode cL_law 529 = .ok (.aload_n 0, 1) := by decide +kernel
theorem dL_law_530 : decode cL_law 530 = .ok (.iload 5, 2) := by decide +kernel
theorem dL_law_532 : decode cL_law 532 = .ok (.iconst 5, 1) := by decide +kernel
theorem dL_law_533 : decode cL_law 533 = .ok (.iadd, 1) := by decide +kernel
theorem dL_law_534 : decode cL_law 534 = .ok (.iaload, 1) := by decide +kernel
theorem dL_law_535 : decode cL_law 535 = .ok (.aload_n 3, 1) := by decide +kernel
theorem dL_law_536 : decode cL_law 536 = .ok (.invokestatic 102, 3) := by decide +kernel
theorem dL_law_539 : decode cL_law 539 = .ok (.istore 6, 2) := by decide +kernel
theorem dL_law_541 : decode cL_law 541 = .ok (.aload_n 2, 1) := by decide +kernel
theorem dL_law_542 : decode cL_law 542 = .ok (.aload_n 0, 1) := by decide +kernel
theorem dL_law_543 : decode cL_law 543 = .ok (.iload 5, 2) := by decide +kernel
theorem dL_law_545 : decode cL_law 545 = .ok (.iconst 1, 1) := by decide +kernel
theorem dL_law_546 : decode cL_law 546 = .ok (.iadd, 1) := by decide +kernel
theorem dL_law_547 : decode cL_law 547 = .ok (.iaload, 1) := by decide +kernel
theorem dL_law_548 : decode cL_law 548 = .ok (.aload_n 0, 1) := by decide +kernel
theorem dL_law_549 : decode cL_law 549 = .ok (.iload 5, 2) := by decide +kernel
theorem dL_law_551 : decode cL_law 551 = .ok (.iconst 2, 1) := by decide +kernel
theorem dL_law_552 : decode cL_law 552 = .ok (.iadd, 1) := by decide +kernel
theorem dL_law_553 : decode cL_law 553 = .ok (.iaload, 1) := by decide +kernel
theorem dL_law_554 : decode cL_law 554 = .ok (.aload_n 0, 1) := by decide +kernel
theorem dL_law_555 : decode cL_law 555 = .ok (.iload 5, 2) := by decide +kernel
theorem dL_law_557 : decode cL_law 557 = .ok (.iconst 3, 1) := by decide +kernel
theorem dL_law_558 : decode cL_law 558 = .ok (.iadd, 1) := by decide +kernel
theorem dL_law_559 : decode cL_law 559 = .ok (.iaload, 1) := by decide +kernel
theorem dL_law_560 : decode cL_law 560 = .ok (.aload_n 0, 1) := by decide +kernel
theorem dL_law_561 : decode cL_law 561 = .ok (.iload 5, 2) := by decide +kernel
theorem dL_law_563 : decode cL_law 563 = .ok (.iconst 4, 1) := by decide +kernel
theorem dL_law_564 : decode cL_law 564 = .ok (.iadd, 1) := by decide +kernel
theorem dL_law_565 : decode cL_law 565 = .ok (.iaload, 1) := by decide +kernel
theorem dL_law_566 : decode cL_law 566 = .ok (.aload_n 0, 1) := by decide +kernel
theorem dL_law_567 : decode cL_law 567 = .ok (.iload 5, 2) := by decide +kernel
theorem dL_law_569 : decode cL_law 569 = .ok (.iconst 5, 1) := by decide +kernel
theorem dL_law_570 : decode cL_law 570 = .ok (.iadd, 1) := by decide +kernel
theorem dL_law_571 : decode cL_law 571 = .ok (.iaload, 1) := by decide +kernel
theorem dL_law_572 : decode cL_law 572 = .ok (.invokevirtual 104, 3) := by decide +kernel
theorem dL_law_575 : decode cL_law 575 = .ok (.istore 7, 2) := by decide +kernel
theorem dL_law_577 : decode cL_law 577 = .ok (.aload_n 2, 1) := by decide +kernel
theorem dL_law_578 : decode cL_law 578 = .ok (.invokevirtual 88, 3) := by decide +kernel
theorem dL_law_581 : decode cL_law 581 = .ok (.iload 6, 2) := by decide +kernel
theorem dL_law_583 : decode cL_law 583 = .ok (.if_icmp .eq 5, 3) := by decide +kernel
theorem dL_law_586 : decode cL_law 586 = .ok (.iconst 0, 1) := by decide +kernel
theorem dL_law_587 : decode cL_law 587 = .ok (.ireturn, 1) := by decide +kernel
theorem dL_law_588 : decode cL_law 588 = .ok (.iload 6, 2) := by decide +kernel
theorem dL_law_590 : decode cL_law 590 = .ok (.ifCond .ne 15, 3) := by decide +kernel
theorem dL_law_593 : decode cL_law 593 = .ok (.aload_n 3, 1) := by decide +kernel
theorem dL_law_594 : decode cL_law 594 = .ok (.iconst 0, 1) := by decide +kernel
theorem dL_law_595 : decode cL_law 595 = .ok (.laload, 1) := by decide +kernel
theorem dL_law_596 : decode cL_law 596 = .ok (.iload 7, 2) := by decide +kernel
theorem dL_law_598 : decode cL_law 598 = .ok (.i2l, 1) := by decide +kernel
theorem dL_law_599 : decode cL_law 599 = .ok (.lcmp, 1) := by decide +kernel
theorem dL_law_600 : decode cL_law 600 = .ok (.ifCond .eq 5, 3) := by decide +kernel
theorem dL_law_603 : decode cL_law 603 = .ok (.iconst 0, 1) := by decide +kernel
theorem dL_law_604 : decode cL_law 604 = .ok (.ireturn, 1) := by decide +kernel
theorem dL_law_605 : decode cL_law 605 = .ok (.goto 1038, 3) := by decide +kernel
set_option maxRecDepth 20000 in
theorem wl_addRandomStops : GoodIn lw_tbl (va_wsS RL 102 yL_addRandomStops wsW_addRandomStops) := goodIn_app (fun w h => ⟨in_idx [454, 455, 47] (by decide +kernel) w h, good_of_word (List.all_eq_true.mp (show ([.methodLink RL 102 yL_addRandomStops, .static yL_addRandomStops, .initialized yL_addRandomStops.cls] : List Cond).all goodWord = true from by decide +kernel) w h)⟩) (fun w h => (List.mem_cons.mp h).elim (fun q => q ▸ ⟨List.mem_of_getElem? (i := 456) (by decide +kernel), good_of_word rfl⟩) (fun q => lwG_self w q))
set_option maxRecDepth 100000 in
set_option maxHeartbeats 4000000 in
theorem cs_addRandomStops {p : Program} {l : Launch} {e : Env} {s : State} {m : MethodId} {below : List Frame} {meth : Method} {c : Code} {bs L : Nat} {xs : Nat → Int32} {D : va_G} {cs : Nat → ClassId} {ad : Nat → Nat} {Q : State → Prop} {i cells slots : Nat} {Ls : Nat → SL} {Hs T M : SL} {dr hs o : Int64} {od : UInt64} {H : Heap} {locs : List Loc} {ls : Array Slot} (E : LX p l s m meth c bs L xs D cs ad) (hi : i + 6 ≤ L) (hc : cells + 3 ≤ room_1.cells ∧ slots + 18 ≤ room_1.slots) (hSS : SS Ls Hs T M) (hP : va_P D vwCl (wA cs ad Ls Hs T M dr hs o od) H) (hS : va_S (Afr ad s.heap.size) s.heap H locs) (hl : lv_has ls 9 (lvL bs ad (nI i))) (K : LK p l e s m bs below meth c D cs ad i cells slots Q) : W p l e room_1 s m #[.ref bs] below meth c H locs cells slots Q (F0 m 504 ls []) := by
  obtain ⟨C, G, X, N, Y, sX, sL, sA, hL, hfl⟩ := E
  obtain ⟨bv, M', dr', res, v, Ls', Hs', o', eM, eC, h4, hSS', hov, hu, hk⟩ := rd_out o (s_addRandomStops hSS dr (xs (i + 1)) (xs (i + 2)) (xs (i + 3)) (xs (i + 4)) (xs (i + 5)))
  refine lv_aload_n C.1 C.2.1 dL_law_504 rfl (lv_at hl 1 rfl) ?_
  refine lv_aload_n C.1 C.2.1 dL_law_505 rfl (lv_at hl 0 rfl) ?_
  refine lv_iload C.1 C.2.1 dL_law_506 (lv_at hl 5 rfl) ?_
  refine lv_iconst (v := 1) C.1 C.2.1 dL_law_508 (by decide) ?_
  refine k_iadd C (np1 i) dL_law_509 ?_
  refine k_sld C sX sL sA hL hS (show i + 1 < L by omega) dL_law_510 ?_
  refine lv_aload_n C.1 C.2.1 dL_law_511 rfl (lv_at hl 0 rfl) ?_
  refine lv_iload C.1 C.2.1 dL_law_512 (lv_at hl 5 rfl) ?_
  refine lv_iconst (v := 2) C.1 C.2.1 dL_law_514 (by decide) ?_
  refine k_iadd C (np2 i) dL_law_515 ?_
  refine k_sld C sX sL sA hL hS (show i + 2 < L by omega) dL_law_516 ?_
  refine lv_aload_n C.1 C.2.1 dL_law_517 rfl (lv_at hl 0 rfl) ?_
  refine lv_iload C.1 C.2.1 dL_law_518 (lv_at hl 5 rfl) ?_
  refine lv_iconst (v := 3) C.1 C.2.1 dL_law_520 (by decide) ?_
  refine k_iadd C (np3 i) dL_law_521 ?_
  refine k_sld C sX sL sA hL hS (show i + 3 < L by omega) dL_law_522 ?_
  refine lv_aload_n C.1 C.2.1 dL_law_523 rfl (lv_at hl 0 rfl) ?_
  refine lv_iload C.1 C.2.1 dL_law_524 (lv_at hl 5 rfl) ?_
  refine lv_iconst (v := 4) C.1 C.2.1 dL_law_526 (by decide) ?_
  refine k_iadd C (np4 i) dL_law_527 ?_
  refine k_sld C sX sL sA hL hS (show i + 4 < L by omega) dL_law_528 ?_
  refine lv_aload_n C.1 C.2.1 dL_law_529 rfl (lv_at hl 0 rfl) ?_
  refine lv_iload C.1 C.2.1 dL_law_530 (lv_at hl 5 rfl) ?_
  refine lv_iconst (v := 5) C.1 C.2.1 dL_law_532 (by decide) ?_
  refine k_iadd C (np5 i) dL_law_533 ?_
  refine k_sld C sX sL sA hL hS (show i + 5 < L by omega) dL_law_534 ?_
  refine lv_aload_n C.1 C.2.1 dL_law_535 rfl (lv_at hl 3 rfl) ?_
  have hM := m_L_addRandomStops l hfl (D := D) (cs := cs) G.2.1 H.size (Ls := Ls) (Hs := Hs) (T := T) (M := M) (dr := dr) (hs := hs) (o := o) (od := od) eC (v := v) (w' := wA cs ad Ls' Hs' T M dr hs o' od) (fun u hu1 => by
    obtain ⟨a1, a2, a3, a4⟩ := hu u hu1
    exact ⟨a1, by rw [a2, a3, a4]⟩) (fun k hk1 => by
    obtain ⟨⟨a2, a3, a4⟩, q⟩ := hk k hk1
    exact ⟨by rw [a2, a3, a4], dk_C q⟩)
  refine k_callSWi C G X N Y hP hS hM (vx_cwSW 7 C.2.2.2.2.2.1 wl_addRandomStops rfl rfl rfl (by decide +kernel) ⟨Nat.le_of_ble_eq_true rfl, Nat.le_of_ble_eq_true rfl⟩) (As := [.ref (ad 0), .int (xs (i + 1)), .int (xs (i + 2)), .int (xs (i + 3)), .int (xs (i + 4)), .int (xs (i + 5)), .ref (ad 95)]) rfl hl.1 rfl (Nat.le_of_ble_eq_true rfl) dL_law_536 ⟨by omega, by omega⟩ (fun H locs hP hS => ?_)
  refine lv_istore (lv' := [(6, .int v), (0, .ref bs), (1, .ref (ad 0)), (2, .ref (ad 89)), (3, .ref (ad 95)), (4, .ref (ad 96)), (5, .int (nI i))]) C.1 C.2.1 dL_law_539 hl (by decide) rfl (fun ls hl => ?_)
  refine lv_aload_n C.1 C.2.1 dL_law_541 rfl (lv_at hl 3 rfl) ?_
  refine lv_aload_n C.1 C.2.1 dL_law_542 rfl (lv_at hl 1 rfl) ?_
  refine lv_iload C.1 C.2.1 dL_law_543 (lv_at hl 6 rfl) ?_
  refine lv_iconst (v := 1) C.1 C.2.1 dL_law_545 (by decide) ?_
  refine k_iadd C (np1 i) dL_law_546 ?_
  refine k_sld C sX sL sA hL hS (show i + 1 < L by omega) dL_law_547 ?_
  refine lv_aload_n C.1 C.2.1 dL_law_548 rfl (lv_at hl 1 rfl) ?_
  refine lv_iload C.1 C.2.1 dL_law_549 (lv_at hl 6 rfl) ?_
  refine lv_iconst (v := 2) C.1 C.2.1 dL_law_551 (by decide) ?_
  refine k_iadd C (np2 i) dL_law_552 ?_
  refine k_sld C sX sL sA hL hS (show i + 2 < L by omega) dL_law_553 ?_
  refine lv_aload_n C.1 C.2.1 dL_law_554 rfl (lv_at hl 1 rfl) ?_
  refine lv_iload C.1 C.2.1 dL_law_555 (lv_at hl 6 rfl) ?_
  refine lv_iconst (v := 3) C.1 C.2.1 dL_law_557 (by decide) ?_
  refine k_iadd C (np3 i) dL_law_558 ?_
  refine k_sld C sX sL sA hL hS (show i + 3 < L by omega) dL_law_559 ?_
  refine lv_aload_n C.1 C.2.1 dL_law_560 rfl (lv_at hl 1 rfl) ?_
  refine lv_iload C.1 C.2.1 dL_law_561 (lv_at hl 6 rfl) ?_
  refine lv_iconst (v := 4) C.1 C.2.1 dL_law_563 (by decide) ?_
  refine k_iadd C (np4 i) dL_law_564 ?_
  refine k_sld C sX sL sA hL hS (show i + 4 < L by omega) dL_law_565 ?_
  refine lv_aload_n C.1 C.2.1 dL_law_566 rfl (lv_at hl 1 rfl) ?_
  refine lv_iload C.1 C.2.1 dL_law_567 (lv_at hl 6 rfl) ?_
  refine lv_iconst (v := 5) C.1 C.2.1 dL_law_569 (by decide) ?_
  refine k_iadd C (np5 i) dL_law_570 ?_
  refine k_sld C sX sL sA hL hS (show i + 5 < L by omega) dL_law_571 ?_
  refine k_callVi C G hP hS (m_X6_addRandomStops l G.2.1 _ eM) r_obj rfl (cwV 5 C.2.2.2.2.2.1 (lwG_up wg_X6_addRandomStops) rfl rfl rfl (by decide +kernel) ⟨Nat.le_of_ble_eq_true rfl, Nat.le_of_ble_eq_true rfl⟩) (As := [.int (xs (i + 1)), .int (xs (i + 2)), .int (xs (i + 3)), .int (xs (i + 4)), .int (xs (i + 5))]) rfl hl.1 rfl (Nat.le_of_ble_eq_true rfl) dL_law_572 ⟨by omega, by omega⟩ (fun H locs hP hS => ?_)
  have hP : va_P D vwCl (wA cs ad Ls' Hs' T M' dr' hs o' od) H := hP
  refine lv_istore (lv' := [(7, .int bv), (6, .int v), (0, .ref bs), (1, .ref (ad 0)), (2, .ref (ad 89)), (3, .ref (ad 95)), (4, .ref (ad 96)), (5, .int (nI i))]) C.1 C.2.1 dL_law_575 hl (by decide) rfl (fun ls hl => ?_)
  refine lv_aload_n C.1 C.2.1 dL_law_577 rfl (lv_at hl 4 rfl) ?_
  refine k_callVi C G hP hS (m_X6_thrown l G.2.1 _ (show f_X6_thrown M' = some v by rw [← h4]; rfl)) r_obj rfl (cwV 0 C.2.2.2.2.2.1 (lwG_up wg_X6_thrown) rfl rfl rfl (by decide +kernel) ⟨Nat.le_of_ble_eq_true rfl, Nat.le_of_ble_eq_true rfl⟩) (As := []) rfl hl.1 rfl (Nat.le_of_ble_eq_true rfl) dL_law_578 ⟨by omega, by omega⟩ (fun H locs hP hS => ?_)
  refine lv_iload C.1 C.2.1 dL_law_581 (lv_at hl 1 rfl) ?_
  refine lv_icmp_eq (tgt := 588) C.1 C.2.1 dL_law_583 (by decide) (fun _ => ?_) (fun z => absurd rfl z)
  refine lv_iload C.1 C.2.1 dL_law_588 (lv_at hl 1 rfl) ?_
  have hSS := hSS'
  refine lv_if_ne (tgt := 605) C.1 C.2.1 dL_law_590 (by decide) (fun _ => ?_) (fun z => ?_)
  · refine lv_goto (tgt := 1643) C.1 C.2.1 dL_law_605 (by decide) ?_
    refine W.widen (k := cells + 3) (n := slots + 18) (by omega) (by omega) ?_
    exact K _ _ _ _ _ _ _ _ _ _ _ hSS hP hS (lv_sub hl [2, 3, 4, 5, 6, 7] rfl)
  · refine lv_aload_n C.1 C.2.1 dL_law_593 rfl (lv_at hl 5 rfl) ?_
    refine lv_iconst (v := 0) C.1 C.2.1 dL_law_594 (by decide) ?_
    refine k_laldO C G hP dL_law_595 ?_
    refine lv_iload C.1 C.2.1 dL_law_596 (lv_at hl 0 rfl) ?_
    refine k_i2l C (hov z) dL_law_598 ?_
    refine W.lcmp C.1 C.2.1 dL_law_599 ?_
    refine lv_if_eq (tgt := 605) C.1 C.2.1 dL_law_600 (by decide) (fun _ => ?_) (fun q => absurd (lg_self _) q)
    refine lv_goto (tgt := 1643) C.1 C.2.1 dL_law_605 (by decide) ?_
    refine W.widen (k := cells + 3) (n := slots + 18) (by omega) (by omega) ?_
    exact K _ _ _ _ _ _ _ _ _ _ _ hSS hP hS (lv_sub hl [2, 3, 4, 5, 6, 7] rfl)
