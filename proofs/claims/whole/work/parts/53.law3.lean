set_option maxRecDepth 100000 in
set_option maxHeartbeats 4000000 in
theorem law_c0 {p : Program} {e : Env} {s : State} {m : MethodId} {args : Array Value} {below : List Frame} {meth : Method} {c : Code} {Q : State → Prop} {hh : List (Nat × Nat × Nat × Nat)} (l : Launch) (hl : l.stackTraces = false) (G : tc_G) (u : tc_S) {n : Nat} (h : jI n u) {sa L0 i : Nat} {xs : Nat → Int32} (hX : va_X sa L0 xs s s.heap) (hbl : sa < s.heap.size) (hbA : ¬ tc_A tcx G s.heap.size sa) (hi1 : tc_ix (nI i + 1) L0 (i + 1)) (hi2 : tc_ix (nI i + 2) L0 (i + 2)) (hi3 : tc_ix (nI i + 3) L0 (i + 3)) {cells slots : Nat} (hf : cells + 1 ≤ room_1.cells ∧ slots + 6 ≤ room_1.slots) (a5 a6 : Option Value)
    (next : ∀ (c0 s0 : Nat) (a5 a6 : Option Value) (w : tc_S), c0 ≤ cells + 1 → s0 ≤ slots + 6 → (∃ n, jI n w) → tc_V tcx G p l e room_1 s m args below meth c bL_law 7 tw "TracedCodeLaw" (some .boolean) hh Q c0 s0 w 1200 [some (.ref sa), some (.ref (tc_ad G 0)), some (.ref (tc_ad G 56)), some (.ref (tc_ad G 76)), some (.int (nI i)), a5, a6] []) : tc_V tcx G p l e room_1 s m args below meth c bL_law 7 tw "TracedCodeLaw" (some .boolean) hh Q cells slots u 128 [some (.ref sa), some (.ref (tc_ad G 0)), some (.ref (tc_ad G 56)), some (.ref (tc_ad G 76)), some (.int (nI i)), a5, a6] [] := by
  refine tv_aload_n (pc := 128) dL_law_128 (by rfl) ?_
  refine tv_aload_n (pc := 129) dL_law_129 (by rfl) ?_
  refine tv_iload (pc := 130) dL_law_130 (by rfl) ?_
  refine tv_iconst (v := 1) (pc := 132) dL_law_132 (by decide) ?_
  refine tv_iadd (pc := 133) dL_law_133 ?_
  refine tv_sald (pc := 134) hX hbl hbA hi1 dL_law_134 ?_
  refine tv_aload_n (pc := 135) dL_law_135 (by rfl) ?_
  refine tv_iload (pc := 136) dL_law_136 (by rfl) ?_
  refine tv_iconst (v := 2) (pc := 138) dL_law_138 (by decide) ?_
  refine tv_iadd (pc := 139) dL_law_139 ?_
  refine tv_sald (pc := 140) hX hbl hbA hi2 dL_law_140 ?_
  refine tv_aload_n (pc := 141) dL_law_141 (by rfl) ?_
  refine tv_callSW (n := 4) (pc := 142) [_, _, _, _] (w_set l hl G u h _ _) wm_317 wm_318 wm_0 wm_319 rfl rfl ⟨by decide, by decide⟩ ⟨by decide, by decide, by decide +kernel⟩ (by rfl) (Nat.le_of_ble_eq_true rfl) dL_law_142 hf (fun k v hv => ?_)
  refine tv_istore5 (pc := 145) dL_law_145 (by rfl) ?_
  refine tv_aload_n (pc := 147) dL_law_147 (by rfl) ?_
  refine tv_aload_n (pc := 148) dL_law_148 (by rfl) ?_
  refine tv_iload (pc := 149) dL_law_149 (by rfl) ?_
  refine tv_iconst (v := 1) (pc := 151) dL_law_151 (by decide) ?_
  refine tv_iadd (pc := 152) dL_law_152 ?_
  refine tv_sald (pc := 153) hX hbl hbA hi1 dL_law_153 ?_
  refine tv_aload_n (pc := 154) dL_law_154 (by rfl) ?_
  refine tv_iload (pc := 155) dL_law_155 (by rfl) ?_
  refine tv_iconst (v := 2) (pc := 157) dL_law_157 (by decide) ?_
  refine tv_iadd (pc := 158) dL_law_158 ?_
  refine tv_sald (pc := 159) hX hbl hbA hi2 dL_law_159 ?_
  refine tv_callVI (pc := 160) [_, _] tb_56 (by rfl) hv (kVD_set wm_748 ⟨by decide, by decide⟩) (by rfl) (Nat.le_of_ble_eq_true rfl) dL_law_160 hf (fun r0 w hw => ?_)
  refine tv_istore6 (pc := 163) dL_law_163 (by rfl) ?_
  refine tv_aload_n (pc := 165) dL_law_165 (by rfl) ?_
  refine tv_callVi (pc := 166) [] tb_56 (by rfl) (c_D_thrown l G w) (kVD_thrown wm_744 ⟨by decide, by decide⟩) (by rfl) (Nat.le_of_ble_eq_true rfl) dL_law_166 hf ?_
  refine tv_iload (pc := 169) dL_law_169 (by rfl) ?_
  refine tv_icmp_eq (pc := 171) 176 dL_law_171 (by decide) (fun _ => ?_) (fun h => absurd hw.2.1 h)
  refine tv_iload (pc := 176) dL_law_176 (by rfl) ?_
  refine tv_if_ne (pc := 178) 193 dL_law_178 (by decide) (fun h178 => ?_) (fun h178 => ?_)
  · skip
    refine tv_goto (pc := 193) 1200 dL_law_193 (by decide) ?_
    exact next (cells + 1) (slots + 6) _ _ _ (Nat.le_refl _) (Nat.le_refl _) hw.1
  · skip
    refine tv_aload_n (pc := 181) dL_law_181 (by rfl) ?_
    refine tv_iconst (v := 0) (pc := 182) dL_law_182 (by decide) ?_
    refine tv_lald (pc := 183) (j := 0) tb_76 ⟨by decide, by decide, by decide⟩ dL_law_183 ?_
    refine tv_iload (pc := 184) dL_law_184 (by rfl) ?_
    refine tv_i2l (pc := 186) dL_law_186 ?_
    refine tv_lcmp (pc := 187) dL_law_187 ?_
    refine tv_if_eq (pc := 188) 193 dL_law_188 (by decide) (fun _ => ?_) (fun h => absurd (lg_same (hw.2.2 h178)) h)
    refine tv_goto (pc := 193) 1200 dL_law_193 (by decide) ?_
    exact next (cells + 1) (slots + 6) _ _ _ (Nat.le_refl _) (Nat.le_refl _) hw.1
set_option maxRecDepth 100000 in
set_option maxHeartbeats 4000000 in
theorem law_c1 {p : Program} {e : Env} {s : State} {m : MethodId} {args : Array Value} {below : List Frame} {meth : Method} {c : Code} {Q : State → Prop} {hh : List (Nat × Nat × Nat × Nat)} (l : Launch) (hl : l.stackTraces = false) (G : tc_G) (u : tc_S) {n : Nat} (h : jI n u) {sa L0 i : Nat} {xs : Nat → Int32} (hX : va_X sa L0 xs s s.heap) (hbl : sa < s.heap.size) (hbA : ¬ tc_A tcx G s.heap.size sa) (hi1 : tc_ix (nI i + 1) L0 (i + 1)) (hi2 : tc_ix (nI i + 2) L0 (i + 2)) (hi3 : tc_ix (nI i + 3) L0 (i + 3)) {cells slots : Nat} (hf : cells + 1 ≤ room_1.cells ∧ slots + 6 ≤ room_1.slots) (a5 a6 : Option Value)
    (next : ∀ (c0 s0 : Nat) (a5 a6 : Option Value) (w : tc_S), c0 ≤ cells + 1 → s0 ≤ slots + 6 → (∃ n, jI n w) → tc_V tcx G p l e room_1 s m args below meth c bL_law 7 tw "TracedCodeLaw" (some .boolean) hh Q c0 s0 w 1200 [some (.ref sa), some (.ref (tc_ad G 0)), some (.ref (tc_ad G 56)), some (.ref (tc_ad G 76)), some (.int (nI i)), a5, a6] []) : tc_V tcx G p l e room_1 s m args below meth c bL_law 7 tw "TracedCodeLaw" (some .boolean) hh Q cells slots u 196 [some (.ref sa), some (.ref (tc_ad G 0)), some (.ref (tc_ad G 56)), some (.ref (tc_ad G 76)), some (.int (nI i)), a5, a6] [] := by
  refine tv_aload_n (pc := 196) dL_law_196 (by rfl) ?_
  refine tv_aload_n (pc := 197) dL_law_197 (by rfl) ?_
  refine tv_iload (pc := 198) dL_law_198 (by rfl) ?_
  refine tv_iconst (v := 1) (pc := 200) dL_law_200 (by decide) ?_
  refine tv_iadd (pc := 201) dL_law_201 ?_
  refine tv_sald (pc := 202) hX hbl hbA hi1 dL_law_202 ?_
  refine tv_aload_n (pc := 203) dL_law_203 (by rfl) ?_
  refine tv_iload (pc := 204) dL_law_204 (by rfl) ?_
  refine tv_iconst (v := 2) (pc := 206) dL_law_206 (by decide) ?_
  refine tv_iadd (pc := 207) dL_law_207 ?_
  refine tv_sald (pc := 208) hX hbl hbA hi2 dL_law_208 ?_
  refine tv_aload_n (pc := 209) dL_law_209 (by rfl) ?_
  refine tv_callSW (n := 4) (pc := 210) [_, _, _, _] (w_copy l hl G u h _ _) wm_426 wm_427 wm_0 wm_428 rfl rfl ⟨by decide, by decide⟩ ⟨by decide, by decide, by decide +kernel⟩ (by rfl) (Nat.le_of_ble_eq_true rfl) dL_law_210 hf (fun k v hv => ?_)
  refine tv_istore5 (pc := 213) dL_law_213 (by rfl) ?_
  refine tv_aload_n (pc := 215) dL_law_215 (by rfl) ?_
  refine tv_aload_n (pc := 216) dL_law_216 (by rfl) ?_
  refine tv_iload (pc := 217) dL_law_217 (by rfl) ?_
  refine tv_iconst (v := 1) (pc := 219) dL_law_219 (by decide) ?_
  refine tv_iadd (pc := 220) dL_law_220 ?_
  refine tv_sald (pc := 221) hX hbl hbA hi1 dL_law_221 ?_
  refine tv_aload_n (pc := 222) dL_law_222 (by rfl) ?_
  refine tv_iload (pc := 223) dL_law_223 (by rfl) ?_
  refine tv_iconst (v := 2) (pc := 225) dL_law_225 (by decide) ?_
  refine tv_iadd (pc := 226) dL_law_226 ?_
  refine tv_sald (pc := 227) hX hbl hbA hi2 dL_law_227 ?_
  refine tv_callVI (pc := 228) [_, _] tb_56 (by rfl) hv (kVD_copy wm_759 ⟨by decide, by decide⟩) (by rfl) (Nat.le_of_ble_eq_true rfl) dL_law_228 hf (fun r0 w hw => ?_)
  refine tv_istore6 (pc := 231) dL_law_231 (by rfl) ?_
  refine tv_aload_n (pc := 233) dL_law_233 (by rfl) ?_
  refine tv_callVi (pc := 234) [] tb_56 (by rfl) (c_D_thrown l G w) (kVD_thrown wm_744 ⟨by decide, by decide⟩) (by rfl) (Nat.le_of_ble_eq_true rfl) dL_law_234 hf ?_
  refine tv_iload (pc := 237) dL_law_237 (by rfl) ?_
  refine tv_icmp_eq (pc := 239) 244 dL_law_239 (by decide) (fun _ => ?_) (fun h => absurd hw.2.1 h)
  refine tv_iload (pc := 244) dL_law_244 (by rfl) ?_
  refine tv_if_ne (pc := 246) 261 dL_law_246 (by decide) (fun h246 => ?_) (fun h246 => ?_)
  · skip
    refine tv_goto (pc := 261) 1200 dL_law_261 (by decide) ?_
    exact next (cells + 1) (slots + 6) _ _ _ (Nat.le_refl _) (Nat.le_refl _) hw.1
  · skip
    refine tv_aload_n (pc := 249) dL_law_249 (by rfl) ?_
    refine tv_iconst (v := 0) (pc := 250) dL_law_250 (by decide) ?_
    refine tv_lald (pc := 251) (j := 0) tb_76 ⟨by decide, by decide, by decide⟩ dL_law_251 ?_
    refine tv_iload (pc := 252) dL_law_252 (by rfl) ?_
    refine tv_i2l (pc := 254) dL_law_254 ?_
    refine tv_lcmp (pc := 255) dL_law_255 ?_
    refine tv_if_eq (pc := 256) 261 dL_law_256 (by decide) (fun _ => ?_) (fun h => absurd (lg_same (hw.2.2 h246)) h)
    refine tv_goto (pc := 261) 1200 dL_law_261 (by decide) ?_
    exact next (cells + 1) (slots + 6) _ _ _ (Nat.le_refl _) (Nat.le_refl _) hw.1
set_option maxRecDepth 100000 in
set_option maxHeartbeats 4000000 in
theorem law_c2 {p : Program} {e : Env} {s : State} {m : MethodId} {args : Array Value} {below : List Frame} {meth : Method} {c : Code} {Q : State → Prop} {hh : List (Nat × Nat × Nat × Nat)} (l : Launch) (hl : l.stackTraces = false) (G : tc_G) (u : tc_S) {n : Nat} (h : jI n u) {sa L0 i : Nat} {xs : Nat → Int32} (hX : va_X sa L0 xs s s.heap) (hbl : sa < s.heap.size) (hbA : ¬ tc_A tcx G s.heap.size sa) (hi1 : tc_ix (nI i + 1) L0 (i + 1)) (hi2 : tc_ix (nI i + 2) L0 (i + 2)) (hi3 : tc_ix (nI i + 3) L0 (i + 3)) {cells slots : Nat} (hf : cells + 1 ≤ room_1.cells ∧ slots + 6 ≤ room_1.slots) (a5 a6 : Option Value)
    (next : ∀ (c0 s0 : Nat) (a5 a6 : Option Value) (w : tc_S), c0 ≤ cells + 1 → s0 ≤ slots + 6 → (∃ n, jI n w) → tc_V tcx G p l e room_1 s m args below meth c bL_law 7 tw "TracedCodeLaw" (some .boolean) hh Q c0 s0 w 1200 [some (.ref sa), some (.ref (tc_ad G 0)), some (.ref (tc_ad G 56)), some (.ref (tc_ad G 76)), some (.int (nI i)), a5, a6] []) : tc_V tcx G p l e room_1 s m args below meth c bL_law 7 tw "TracedCodeLaw" (some .boolean) hh Q cells slots u 264 [some (.ref sa), some (.ref (tc_ad G 0)), some (.ref (tc_ad G 56)), some (.ref (tc_ad G 76)), some (.int (nI i)), a5, a6] [] := by
  refine tv_aload_n (pc := 264) dL_law_264 (by rfl) ?_
  refine tv_aload_n (pc := 265) dL_law_265 (by rfl) ?_
  refine tv_iload (pc := 266) dL_law_266 (by rfl) ?_
  refine tv_iconst (v := 1) (pc := 268) dL_law_268 (by decide) ?_
  refine tv_iadd (pc := 269) dL_law_269 ?_
  refine tv_sald (pc := 270) hX hbl hbA hi1 dL_law_270 ?_
  refine tv_aload_n (pc := 271) dL_law_271 (by rfl) ?_
  refine tv_iload (pc := 272) dL_law_272 (by rfl) ?_
  refine tv_iconst (v := 2) (pc := 274) dL_law_274 (by decide) ?_
  refine tv_iadd (pc := 275) dL_law_275 ?_
  refine tv_sald (pc := 276) hX hbl hbA hi2 dL_law_276 ?_
  refine tv_aload_n (pc := 277) dL_law_277 (by rfl) ?_
  refine tv_iload (pc := 278) dL_law_278 (by rfl) ?_
  refine tv_iconst (v := 3) (pc := 280) dL_law_280 (by decide) ?_
  refine tv_iadd (pc := 281) dL_law_281 ?_
  refine tv_sald (pc := 282) hX hbl hbA hi3 dL_law_282 ?_
  refine tv_aload_n (pc := 283) dL_law_283 (by rfl) ?_
  refine tv_callSW (n := 5) (pc := 284) [_, _, _, _, _] (w_add l hl G u h _ _ _) wm_433 wm_434 wm_0 wm_435 rfl rfl ⟨by decide, by decide⟩ ⟨by decide, by decide, by decide +kernel⟩ (by rfl) (Nat.le_of_ble_eq_true rfl) dL_law_284 hf (fun k v hv => ?_)
  refine tv_istore5 (pc := 287) dL_law_287 (by rfl) ?_
  refine tv_aload_n (pc := 289) dL_law_289 (by rfl) ?_
  refine tv_aload_n (pc := 290) dL_law_290 (by rfl) ?_
  refine tv_iload (pc := 291) dL_law_291 (by rfl) ?_
  refine tv_iconst (v := 1) (pc := 293) dL_law_293 (by decide) ?_
  refine tv_iadd (pc := 294) dL_law_294 ?_
  refine tv_sald (pc := 295) hX hbl hbA hi1 dL_law_295 ?_
  refine tv_aload_n (pc := 296) dL_law_296 (by rfl) ?_
  refine tv_iload (pc := 297) dL_law_297 (by rfl) ?_
  refine tv_iconst (v := 2) (pc := 299) dL_law_299 (by decide) ?_
  refine tv_iadd (pc := 300) dL_law_300 ?_
  refine tv_sald (pc := 301) hX hbl hbA hi2 dL_law_301 ?_
  refine tv_aload_n (pc := 302) dL_law_302 (by rfl) ?_
  refine tv_iload (pc := 303) dL_law_303 (by rfl) ?_
  refine tv_iconst (v := 3) (pc := 305) dL_law_305 (by decide) ?_
  refine tv_iadd (pc := 306) dL_law_306 ?_
  refine tv_sald (pc := 307) hX hbl hbA hi3 dL_law_307 ?_
  refine tv_callVI (pc := 308) [_, _, _] tb_56 (by rfl) hv (kVD_add wm_763 ⟨by decide, by decide⟩) (by rfl) (Nat.le_of_ble_eq_true rfl) dL_law_308 hf (fun r0 w hw => ?_)
  refine tv_istore6 (pc := 311) dL_law_311 (by rfl) ?_
  refine tv_aload_n (pc := 313) dL_law_313 (by rfl) ?_
  refine tv_callVi (pc := 314) [] tb_56 (by rfl) (c_D_thrown l G w) (kVD_thrown wm_744 ⟨by decide, by decide⟩) (by rfl) (Nat.le_of_ble_eq_true rfl) dL_law_314 hf ?_
  refine tv_iload (pc := 317) dL_law_317 (by rfl) ?_
  refine tv_icmp_eq (pc := 319) 324 dL_law_319 (by decide) (fun _ => ?_) (fun h => absurd hw.2.1 h)
  refine tv_iload (pc := 324) dL_law_324 (by rfl) ?_
  refine tv_if_ne (pc := 326) 341 dL_law_326 (by decide) (fun h326 => ?_) (fun h326 => ?_)
  · skip
    refine tv_goto (pc := 341) 1200 dL_law_341 (by decide) ?_
    exact next (cells + 1) (slots + 6) _ _ _ (Nat.le_refl _) (Nat.le_refl _) hw.1
  · skip
    refine tv_aload_n (pc := 329) dL_law_329 (by rfl) ?_
    refine tv_iconst (v := 0) (pc := 330) dL_law_330 (by decide) ?_
    refine tv_lald (pc := 331) (j := 0) tb_76 ⟨by decide, by decide, by decide⟩ dL_law_331 ?_
    refine tv_iload (pc := 332) dL_law_332 (by rfl) ?_
    refine tv_i2l (pc := 334) dL_law_334 ?_
    refine tv_lcmp (pc := 335) dL_law_335 ?_
    refine tv_if_eq (pc := 336) 341 dL_law_336 (by decide) (fun _ => ?_) (fun h => absurd (lg_same (hw.2.2 h326)) h)
    refine tv_goto (pc := 341) 1200 dL_law_341 (by decide) ?_
    exact next (cells + 1) (slots + 6) _ _ _ (Nat.le_refl _) (Nat.le_refl _) hw.1
set_option maxRecDepth 100000 in
set_option maxHeartbeats 4000000 in
theorem law_c3 {p : Program} {e : Env} {s : State} {m : MethodId} {args : Array Value} {below : List Frame} {meth : Method} {c : Code} {Q : State → Prop} {hh : List (Nat × Nat × Nat × Nat)} (l : Launch) (hl : l.stackTraces = false) (G : tc_G) (u : tc_S) {n : Nat} (h : jI n u) {sa L0 i : Nat} {xs : Nat → Int32} (hX : va_X sa L0 xs s s.heap) (hbl : sa < s.heap.size) (hbA : ¬ tc_A tcx G s.heap.size sa) (hi1 : tc_ix (nI i + 1) L0 (i + 1)) (hi2 : tc_ix (nI i + 2) L0 (i + 2)) (hi3 : tc_ix (nI i + 3) L0 (i + 3)) {cells slots : Nat} (hf : cells + 1 ≤ room_1.cells ∧ slots + 6 ≤ room_1.slots) (a5 a6 : Option Value)
    (next : ∀ (c0 s0 : Nat) (a5 a6 : Option Value) (w : tc_S), c0 ≤ cells + 1 → s0 ≤ slots + 6 → (∃ n, jI n w) → tc_V tcx G p l e room_1 s m args below meth c bL_law 7 tw "TracedCodeLaw" (some .boolean) hh Q c0 s0 w 1200 [some (.ref sa), some (.ref (tc_ad G 0)), some (.ref (tc_ad G 56)), some (.ref (tc_ad G 76)), some (.int (nI i)), a5, a6] []) : tc_V tcx G p l e room_1 s m args below meth c bL_law 7 tw "TracedCodeLaw" (some .boolean) hh Q cells slots u 344 [some (.ref sa), some (.ref (tc_ad G 0)), some (.ref (tc_ad G 56)), some (.ref (tc_ad G 76)), some (.int (nI i)), a5, a6] [] := by
  refine tv_aload_n (pc := 344) dL_law_344 (by rfl) ?_
  refine tv_aload_n (pc := 345) dL_law_345 (by rfl) ?_
  refine tv_iload (pc := 346) dL_law_346 (by rfl) ?_
  refine tv_iconst (v := 1) (pc := 348) dL_law_348 (by decide) ?_
  refine tv_iadd (pc := 349) dL_law_349 ?_
  refine tv_sald (pc := 350) hX hbl hbA hi1 dL_law_350 ?_
  refine tv_aload_n (pc := 351) dL_law_351 (by rfl) ?_
  refine tv_callSW (n := 3) (pc := 352) [_, _, _] (w_out l hl G u h _) wm_440 wm_441 wm_0 wm_442 rfl rfl ⟨by decide, by decide⟩ ⟨by decide, by decide, by decide +kernel⟩ (by rfl) (Nat.le_of_ble_eq_true rfl) dL_law_352 hf (fun k v hv => ?_)
  refine tv_istore5 (pc := 355) dL_law_355 (by rfl) ?_
  refine tv_aload_n (pc := 357) dL_law_357 (by rfl) ?_
  refine tv_aload_n (pc := 358) dL_law_358 (by rfl) ?_
  refine tv_iload (pc := 359) dL_law_359 (by rfl) ?_
  refine tv_iconst (v := 1) (pc := 361) dL_law_361 (by decide) ?_
  refine tv_iadd (pc := 362) dL_law_362 ?_
  refine tv_sald (pc := 363) hX hbl hbA hi1 dL_law_363 ?_
  refine tv_callVI (pc := 364) [_] tb_56 (by rfl) hv (kVD_out wm_767 ⟨by decide, by decide⟩) (by rfl) (Nat.le_of_ble_eq_true rfl) dL_law_364 hf (fun r0 w hw => ?_)
  refine tv_istore6 (pc := 367) dL_law_367 (by rfl) ?_
  refine tv_aload_n (pc := 369) dL_law_369 (by rfl) ?_
  refine tv_callVi (pc := 370) [] tb_56 (by rfl) (c_D_thrown l G w) (kVD_thrown wm_744 ⟨by decide, by decide⟩) (by rfl) (Nat.le_of_ble_eq_true rfl) dL_law_370 hf ?_
  refine tv_iload (pc := 373) dL_law_373 (by rfl) ?_
  refine tv_icmp_eq (pc := 375) 380 dL_law_375 (by decide) (fun _ => ?_) (fun h => absurd hw.2.1 h)
  refine tv_iload (pc := 380) dL_law_380 (by rfl) ?_
  refine tv_if_ne (pc := 382) 397 dL_law_382 (by decide) (fun h382 => ?_) (fun h382 => ?_)
  · skip
    refine tv_goto (pc := 397) 1200 dL_law_397 (by decide) ?_
    exact next (cells + 1) (slots + 6) _ _ _ (Nat.le_refl _) (Nat.le_refl _) hw.1
  · skip
    refine tv_aload_n (pc := 385) dL_law_385 (by rfl) ?_
    refine tv_iconst (v := 0) (pc := 386) dL_law_386 (by decide) ?_
    refine tv_lald (pc := 387) (j := 0) tb_76 ⟨by decide, by decide, by decide⟩ dL_law_387 ?_
    refine tv_iload (pc := 388) dL_law_388 (by rfl) ?_
    refine tv_i2l (pc := 390) dL_law_390 ?_
    refine tv_lcmp (pc := 391) dL_law_391 ?_
    refine tv_if_eq (pc := 392) 397 dL_law_392 (by decide) (fun _ => ?_) (fun h => absurd (lg_same (hw.2.2 h382)) h)
    refine tv_goto (pc := 397) 1200 dL_law_397 (by decide) ?_
    exact next (cells + 1) (slots + 6) _ _ _ (Nat.le_refl _) (Nat.le_refl _) hw.1
set_option maxRecDepth 100000 in
set_option maxHeartbeats 4000000 in
theorem law_c4 {p : Program} {e : Env} {s : State} {m : MethodId} {args : Array Value} {below : List Frame} {meth : Method} {c : Code} {Q : State → Prop} {hh : List (Nat × Nat × Nat × Nat)} (l : Launch) (hl : l.stackTraces = false) (G : tc_G) (u : tc_S) {n : Nat} (h : jI n u) {sa L0 i : Nat} {xs : Nat → Int32} (hX : va_X sa L0 xs s s.heap) (hbl : sa < s.heap.size) (hbA : ¬ tc_A tcx G s.heap.size sa) (hi1 : tc_ix (nI i + 1) L0 (i + 1)) (hi2 : tc_ix (nI i + 2) L0 (i + 2)) (hi3 : tc_ix (nI i + 3) L0 (i + 3)) {cells slots : Nat} (hf : cells + 1 ≤ room_1.cells ∧ slots + 6 ≤ room_1.slots) (a5 a6 : Option Value)
    (next : ∀ (c0 s0 : Nat) (a5 a6 : Option Value) (w : tc_S), c0 ≤ cells + 1 → s0 ≤ slots + 6 → (∃ n, jI n w) → tc_V tcx G p l e room_1 s m args below meth c bL_law 7 tw "TracedCodeLaw" (some .boolean) hh Q c0 s0 w 1200 [some (.ref sa), some (.ref (tc_ad G 0)), some (.ref (tc_ad G 56)), some (.ref (tc_ad G 76)), some (.int (nI i)), a5, a6] []) : tc_V tcx G p l e room_1 s m args below meth c bL_law 7 tw "TracedCodeLaw" (some .boolean) hh Q cells slots u 400 [some (.ref sa), some (.ref (tc_ad G 0)), some (.ref (tc_ad G 56)), some (.ref (tc_ad G 76)), some (.int (nI i)), a5, a6] [] := by
  refine tv_aload_n (pc := 400) dL_law_400 (by rfl) ?_
  refine tv_aload_n (pc := 401) dL_law_401 (by rfl) ?_
  refine tv_iload (pc := 402) dL_law_402 (by rfl) ?_
  refine tv_iconst (v := 1) (pc := 404) dL_law_404 (by decide) ?_
  refine tv_iadd (pc := 405) dL_law_405 ?_
  refine tv_sald (pc := 406) hX hbl hbA hi1 dL_law_406 ?_
  refine tv_aload_n (pc := 407) dL_law_407 (by rfl) ?_
  refine tv_iload (pc := 408) dL_law_408 (by rfl) ?_
  refine tv_iconst (v := 2) (pc := 410) dL_law_410 (by decide) ?_
  refine tv_iadd (pc := 411) dL_law_411 ?_
  refine tv_sald (pc := 412) hX hbl hbA hi2 dL_law_412 ?_
  refine tv_aload_n (pc := 413) dL_law_413 (by rfl) ?_
  refine tv_callSW (n := 4) (pc := 414) [_, _, _, _] (w_jump l hl G u h _ _) wm_447 wm_448 wm_0 wm_449 rfl rfl ⟨by decide, by decide⟩ ⟨by decide, by decide, by decide +kernel⟩ (by rfl) (Nat.le_of_ble_eq_true rfl) dL_law_414 hf (fun k v hv => ?_)
  refine tv_istore5 (pc := 417) dL_law_417 (by rfl) ?_
  refine tv_aload_n (pc := 419) dL_law_419 (by rfl) ?_
  refine tv_aload_n (pc := 420) dL_law_420 (by rfl) ?_
  refine tv_iload (pc := 421) dL_law_421 (by rfl) ?_
  refine tv_iconst (v := 1) (pc := 423) dL_law_423 (by decide) ?_
  refine tv_iadd (pc := 424) dL_law_424 ?_
  refine tv_sald (pc := 425) hX hbl hbA hi1 dL_law_425 ?_
  refine tv_aload_n (pc := 426) dL_law_426 (by rfl) ?_
  refine tv_iload (pc := 427) dL_law_427 (by rfl) ?_
  refine tv_iconst (v := 2) (pc := 429) dL_law_429 (by decide) ?_
  refine tv_iadd (pc := 430) dL_law_430 ?_
  refine tv_sald (pc := 431) hX hbl hbA hi2 dL_law_431 ?_
  refine tv_callVI (pc := 432) [_, _] tb_56 (by rfl) hv (kVD_jump wm_771 ⟨by decide, by decide⟩) (by rfl) (Nat.le_of_ble_eq_true rfl) dL_law_432 hf (fun r0 w hw => ?_)
  refine tv_istore6 (pc := 435) dL_law_435 (by rfl) ?_
  refine tv_aload_n (pc := 437) dL_law_437 (by rfl) ?_
  refine tv_callVi (pc := 438) [] tb_56 (by rfl) (c_D_thrown l G w) (kVD_thrown wm_744 ⟨by decide, by decide⟩) (by rfl) (Nat.le_of_ble_eq_true rfl) dL_law_438 hf ?_
  refine tv_iload (pc := 441) dL_law_441 (by rfl) ?_
  refine tv_icmp_eq (pc := 443) 448 dL_law_443 (by decide) (fun _ => ?_) (fun h => absurd hw.2.1 h)
  refine tv_iload (pc := 448) dL_law_448 (by rfl) ?_
  refine tv_if_ne (pc := 450) 465 dL_law_450 (by decide) (fun h450 => ?_) (fun h450 => ?_)
  · skip
    refine tv_goto (pc := 465) 1200 dL_law_465 (by decide) ?_
    exact next (cells + 1) (slots + 6) _ _ _ (Nat.le_refl _) (Nat.le_refl _) hw.1
  · skip
    refine tv_aload_n (pc := 453) dL_law_453 (by rfl) ?_
    refine tv_iconst (v := 0) (pc := 454) dL_law_454 (by decide) ?_
    refine tv_lald (pc := 455) (j := 0) tb_76 ⟨by decide, by decide, by decide⟩ dL_law_455 ?_
    refine tv_iload (pc := 456) dL_law_456 (by rfl) ?_
    refine tv_i2l (pc := 458) dL_law_458 ?_
    refine tv_lcmp (pc := 459) dL_law_459 ?_
    refine tv_if_eq (pc := 460) 465 dL_law_460 (by decide) (fun _ => ?_) (fun h => absurd (lg_same (hw.2.2 h450)) h)
    refine tv_goto (pc := 465) 1200 dL_law_465 (by decide) ?_
    exact next (cells + 1) (slots + 6) _ _ _ (Nat.le_refl _) (Nat.le_refl _) hw.1
set_option maxRecDepth 100000 in
set_option maxHeartbeats 4000000 in
theorem law_c5 {p : Program} {e : Env} {s : State} {m : MethodId} {args : Array Value} {below : List Frame} {meth : Method} {c : Code} {Q : State → Prop} {hh : List (Nat × Nat × Nat × Nat)} (l : Launch) (hl : l.stackTraces = false) (G : tc_G) (u : tc_S) {n : Nat} (h : jI n u) {sa L0 i : Nat} {xs : Nat → Int32} (hX : va_X sa L0 xs s s.heap) (hbl : sa < s.heap.size) (hbA : ¬ tc_A tcx G s.heap.size sa) (hi1 : tc_ix (nI i + 1) L0 (i + 1)) (hi2 : tc_ix (nI i + 2) L0 (i + 2)) (hi3 : tc_ix (nI i + 3) L0 (i + 3)) {cells slots : Nat} (hf : cells + 1 ≤ room_1.cells ∧ slots + 6 ≤ room_1.slots) (a5 a6 : Option Value)
    (next : ∀ (c0 s0 : Nat) (a5 a6 : Option Value) (w : tc_S), c0 ≤ cells + 1 → s0 ≤ slots + 6 → (∃ n, jI n w) → tc_V tcx G p l e room_1 s m args below meth c bL_law 7 tw "TracedCodeLaw" (some .boolean) hh Q c0 s0 w 1200 [some (.ref sa), some (.ref (tc_ad G 0)), some (.ref (tc_ad G 56)), some (.ref (tc_ad G 76)), some (.int (nI i)), a5, a6] []) : tc_V tcx G p l e room_1 s m args below meth c bL_law 7 tw "TracedCodeLaw" (some .boolean) hh Q cells slots u 468 [some (.ref sa), some (.ref (tc_ad G 0)), some (.ref (tc_ad G 56)), some (.ref (tc_ad G 76)), some (.int (nI i)), a5, a6] [] := by
  refine tv_aload_n (pc := 468) dL_law_468 (by rfl) ?_
  refine tv_aload_n (pc := 469) dL_law_469 (by rfl) ?_
  refine tv_iload (pc := 470) dL_law_470 (by rfl) ?_
  refine tv_iconst (v := 1) (pc := 472) dL_law_472 (by decide) ?_
  refine tv_iadd (pc := 473) dL_law_473 ?_
  refine tv_sald (pc := 474) hX hbl hbA hi1 dL_law_474 ?_
  refine tv_aload_n (pc := 475) dL_law_475 (by rfl) ?_
  refine tv_iload (pc := 476) dL_law_476 (by rfl) ?_
  refine tv_iconst (v := 2) (pc := 478) dL_law_478 (by decide) ?_
  refine tv_iadd (pc := 479) dL_law_479 ?_
  refine tv_sald (pc := 480) hX hbl hbA hi2 dL_law_480 ?_
  refine tv_aload_n (pc := 481) dL_law_481 (by rfl) ?_
  refine tv_callSW (n := 4) (pc := 482) [_, _, _, _] (w_name l hl G u h _ _) wm_454 wm_455 wm_0 wm_456 rfl rfl ⟨by decide, by decide⟩ ⟨by decide, by decide, by decide +kernel⟩ (by rfl) (Nat.le_of_ble_eq_true rfl) dL_law_482 hf (fun k v hv => ?_)
  refine tv_istore5 (pc := 485) dL_law_485 (by rfl) ?_
  refine tv_aload_n (pc := 487) dL_law_487 (by rfl) ?_
  refine tv_aload_n (pc := 488) dL_law_488 (by rfl) ?_
  refine tv_iload (pc := 489) dL_law_489 (by rfl) ?_
  refine tv_iconst (v := 1) (pc := 491) dL_law_491 (by decide) ?_
  refine tv_iadd (pc := 492) dL_law_492 ?_
  refine tv_sald (pc := 493) hX hbl hbA hi1 dL_law_493 ?_
  refine tv_aload_n (pc := 494) dL_law_494 (by rfl) ?_
  refine tv_iload (pc := 495) dL_law_495 (by rfl) ?_
  refine tv_iconst (v := 2) (pc := 497) dL_law_497 (by decide) ?_
  refine tv_iadd (pc := 498) dL_law_498 ?_
  refine tv_sald (pc := 499) hX hbl hbA hi2 dL_law_499 ?_
  refine tv_callVI (pc := 500) [_, _] tb_56 (by rfl) hv (kVD_name wm_775 ⟨by decide, by decide⟩) (by rfl) (Nat.le_of_ble_eq_true rfl) dL_law_500 hf (fun r0 w hw => ?_)
  refine tv_istore6 (pc := 503) dL_law_503 (by rfl) ?_
  refine tv_aload_n (pc := 505) dL_law_505 (by rfl) ?_
  refine tv_callVi (pc := 506) [] tb_56 (by rfl) (c_D_thrown l G w) (kVD_thrown wm_744 ⟨by decide, by decide⟩) (by rfl) (Nat.le_of_ble_eq_true rfl) dL_law_506 hf ?_
  refine tv_iload (pc := 509) dL_law_509 (by rfl) ?_
  refine tv_icmp_eq (pc := 511) 516 dL_law_511 (by decide) (fun _ => ?_) (fun h => absurd hw.2.1 h)
  refine tv_iload (pc := 516) dL_law_516 (by rfl) ?_
  refine tv_if_ne (pc := 518) 533 dL_law_518 (by decide) (fun h518 => ?_) (fun h518 => ?_)
  · skip
    refine tv_goto (pc := 533) 1200 dL_law_533 (by decide) ?_
    exact next (cells + 1) (slots + 6) _ _ _ (Nat.le_refl _) (Nat.le_refl _) hw.1
  · skip
    refine tv_aload_n (pc := 521) dL_law_521 (by rfl) ?_
    refine tv_iconst (v := 0) (pc := 522) dL_law_522 (by decide) ?_
    refine tv_lald (pc := 523) (j := 0) tb_76 ⟨by decide, by decide, by decide⟩ dL_law_523 ?_
    refine tv_iload (pc := 524) dL_law_524 (by rfl) ?_
    refine tv_i2l (pc := 526) dL_law_526 ?_
    refine tv_lcmp (pc := 527) dL_law_527 ?_
    refine tv_if_eq (pc := 528) 533 dL_law_528 (by decide) (fun _ => ?_) (fun h => absurd (lg_same (hw.2.2 h518)) h)
    refine tv_goto (pc := 533) 1200 dL_law_533 (by decide) ?_
    exact next (cells + 1) (slots + 6) _ _ _ (Nat.le_refl _) (Nat.le_refl _) hw.1
set_option maxRecDepth 100000 in
set_option maxHeartbeats 4000000 in
theorem law_c8 {p : Program} {e : Env} {s : State} {m : MethodId} {args : Array Value} {below : List Frame} {meth : Method} {c : Code} {Q : State → Prop} {hh : List (Nat × Nat × Nat × Nat)} (l : Launch) (hl : l.stackTraces = false) (G : tc_G) (u : tc_S) {n : Nat} (h : jI n u) {sa L0 i : Nat} {xs : Nat → Int32} (hX : va_X sa L0 xs s s.heap) (hbl : sa < s.heap.size) (hbA : ¬ tc_A tcx G s.heap.size sa) (hi1 : tc_ix (nI i + 1) L0 (i + 1)) (hi2 : tc_ix (nI i + 2) L0 (i + 2)) (hi3 : tc_ix (nI i + 3) L0 (i + 3)) {cells slots : Nat} (hf : cells + 1 ≤ room_1.cells ∧ slots + 6 ≤ room_1.slots) (a5 a6 : Option Value)
    (next : ∀ (c0 s0 : Nat) (a5 a6 : Option Value) (w : tc_S), c0 ≤ cells + 1 → s0 ≤ slots + 6 → (∃ n, jI n w) → tc_V tcx G p l e room_1 s m args below meth c bL_law 7 tw "TracedCodeLaw" (some .boolean) hh Q c0 s0 w 1200 [some (.ref sa), some (.ref (tc_ad G 0)), some (.ref (tc_ad G 56)), some (.ref (tc_ad G 76)), some (.int (nI i)), a5, a6] []) : tc_V tcx G p l e room_1 s m args below meth c bL_law 7 tw "TracedCodeLaw" (some .boolean) hh Q cells slots u 560 [some (.ref sa), some (.ref (tc_ad G 0)), some (.ref (tc_ad G 56)), some (.ref (tc_ad G 76)), some (.int (nI i)), a5, a6] [] := by
  refine tv_aload_n (pc := 560) dL_law_560 (by rfl) ?_
  refine tv_aload_n (pc := 561) dL_law_561 (by rfl) ?_
  refine tv_callSW (n := 2) (pc := 562) [_, _] (w_kept l hl G u h) wm_464 wm_465 wm_0 wm_466 rfl rfl ⟨by decide, by decide⟩ ⟨by decide, by decide, by decide +kernel⟩ (by rfl) (Nat.le_of_ble_eq_true rfl) dL_law_562 hf (fun k v hv => ?_)
  refine tv_istore5 (pc := 565) dL_law_565 (by rfl) ?_
  refine tv_aload_n (pc := 567) dL_law_567 (by rfl) ?_
  refine tv_callVI (pc := 568) [] tb_56 (by rfl) hv (kVD_kept wm_853 ⟨by decide, by decide⟩) (by rfl) (Nat.le_of_ble_eq_true rfl) dL_law_568 hf (fun r0 w hw => ?_)
  refine tv_istore6 (pc := 571) dL_law_571 (by rfl) ?_
  refine tv_aload_n (pc := 573) dL_law_573 (by rfl) ?_
  refine tv_callVi (pc := 574) [] tb_56 (by rfl) (c_D_thrown l G w) (kVD_thrown wm_744 ⟨by decide, by decide⟩) (by rfl) (Nat.le_of_ble_eq_true rfl) dL_law_574 hf ?_
  refine tv_iload (pc := 577) dL_law_577 (by rfl) ?_
  refine tv_icmp_eq (pc := 579) 584 dL_law_579 (by decide) (fun _ => ?_) (fun h => absurd hw.2.1 h)
  refine tv_iload (pc := 584) dL_law_584 (by rfl) ?_
  refine tv_if_ne (pc := 586) 601 dL_law_586 (by decide) (fun h586 => ?_) (fun h586 => ?_)
  · skip
    refine tv_goto (pc := 601) 1200 dL_law_601 (by decide) ?_
    exact next (cells + 1) (slots + 6) _ _ _ (Nat.le_refl _) (Nat.le_refl _) hw.1
  · skip
    refine tv_aload_n (pc := 589) dL_law_589 (by rfl) ?_
    refine tv_iconst (v := 0) (pc := 590) dL_law_590 (by decide) ?_
    refine tv_lald (pc := 591) (j := 0) tb_76 ⟨by decide, by decide, by decide⟩ dL_law_591 ?_
    refine tv_iload (pc := 592) dL_law_592 (by rfl) ?_
    refine tv_i2l (pc := 594) dL_law_594 ?_
    refine tv_lcmp (pc := 595) dL_law_595 ?_
    refine tv_if_eq (pc := 596) 601 dL_law_596 (by decide) (fun _ => ?_) (fun h => absurd (lg_same (hw.2.2 h586)) h)
    refine tv_goto (pc := 601) 1200 dL_law_601 (by decide) ?_
    exact next (cells + 1) (slots + 6) _ _ _ (Nat.le_refl _) (Nat.le_refl _) hw.1
set_option maxRecDepth 100000 in
set_option maxHeartbeats 4000000 in
theorem law_c9 {p : Program} {e : Env} {s : State} {m : MethodId} {args : Array Value} {below : List Frame} {meth : Method} {c : Code} {Q : State → Prop} {hh : List (Nat × Nat × Nat × Nat)} (l : Launch) (hl : l.stackTraces = false) (G : tc_G) (u : tc_S) {n : Nat} (h : jI n u) {sa L0 i : Nat} {xs : Nat → Int32} (hX : va_X sa L0 xs s s.heap) (hbl : sa < s.heap.size) (hbA : ¬ tc_A tcx G s.heap.size sa) (hi1 : tc_ix (nI i + 1) L0 (i + 1)) (hi2 : tc_ix (nI i + 2) L0 (i + 2)) (hi3 : tc_ix (nI i + 3) L0 (i + 3)) {cells slots : Nat} (hf : cells + 1 ≤ room_1.cells ∧ slots + 6 ≤ room_1.slots) (a5 a6 : Option Value)
    (next : ∀ (c0 s0 : Nat) (a5 a6 : Option Value) (w : tc_S), c0 ≤ cells + 1 → s0 ≤ slots + 6 → (∃ n, jI n w) → tc_V tcx G p l e room_1 s m args below meth c bL_law 7 tw "TracedCodeLaw" (some .boolean) hh Q c0 s0 w 1200 [some (.ref sa), some (.ref (tc_ad G 0)), some (.ref (tc_ad G 56)), some (.ref (tc_ad G 76)), some (.int (nI i)), a5, a6] []) : tc_V tcx G p l e room_1 s m args below meth c bL_law 7 tw "TracedCodeLaw" (some .boolean) hh Q cells slots u 604 [some (.ref sa), some (.ref (tc_ad G 0)), some (.ref (tc_ad G 56)), some (.ref (tc_ad G 76)), some (.int (nI i)), a5, a6] [] := by
  refine tv_aload_n (pc := 604) dL_law_604 (by rfl) ?_
  refine tv_aload_n (pc := 605) dL_law_605 (by rfl) ?_
  refine tv_iload (pc := 606) dL_law_606 (by rfl) ?_
  refine tv_iconst (v := 1) (pc := 608) dL_law_608 (by decide) ?_
  refine tv_iadd (pc := 609) dL_law_609 ?_
  refine tv_sald (pc := 610) hX hbl hbA hi1 dL_law_610 ?_
  refine tv_aload_n (pc := 611) dL_law_611 (by rfl) ?_
  refine tv_iload (pc := 612) dL_law_612 (by rfl) ?_
  refine tv_iconst (v := 2) (pc := 614) dL_law_614 (by decide) ?_
  refine tv_iadd (pc := 615) dL_law_615 ?_
  refine tv_sald (pc := 616) hX hbl hbA hi2 dL_law_616 ?_
  refine tv_aload_n (pc := 617) dL_law_617 (by rfl) ?_
  refine tv_callSW (n := 4) (pc := 618) [_, _, _, _] (w_part l hl G u h _ _) wm_480 wm_481 wm_0 wm_482 rfl rfl ⟨by decide, by decide⟩ ⟨by decide, by decide, by decide +kernel⟩ (by rfl) (Nat.le_of_ble_eq_true rfl) dL_law_618 hf (fun k v hv => ?_)
  refine tv_istore5 (pc := 621) dL_law_621 (by rfl) ?_
  refine tv_aload_n (pc := 623) dL_law_623 (by rfl) ?_
  refine tv_aload_n (pc := 624) dL_law_624 (by rfl) ?_
  refine tv_iload (pc := 625) dL_law_625 (by rfl) ?_
  refine tv_iconst (v := 1) (pc := 627) dL_law_627 (by decide) ?_
  refine tv_iadd (pc := 628) dL_law_628 ?_
  refine tv_sald (pc := 629) hX hbl hbA hi1 dL_law_629 ?_
  refine tv_aload_n (pc := 630) dL_law_630 (by rfl) ?_
  refine tv_iload (pc := 631) dL_law_631 (by rfl) ?_
  refine tv_iconst (v := 2) (pc := 633) dL_law_633 (by decide) ?_
  refine tv_iadd (pc := 634) dL_law_634 ?_
  refine tv_sald (pc := 635) hX hbl hbA hi2 dL_law_635 ?_
  refine tv_callVI (pc := 636) [_, _] tb_56 (by rfl) hv (kVD_part wm_857 ⟨by decide, by decide⟩) (by rfl) (Nat.le_of_ble_eq_true rfl) dL_law_636 hf (fun r0 w hw => ?_)
  refine tv_istore6 (pc := 639) dL_law_639 (by rfl) ?_
  refine tv_aload_n (pc := 641) dL_law_641 (by rfl) ?_
  refine tv_callVi (pc := 642) [] tb_56 (by rfl) (c_D_thrown l G w) (kVD_thrown wm_744 ⟨by decide, by decide⟩) (by rfl) (Nat.le_of_ble_eq_true rfl) dL_law_642 hf ?_
  refine tv_iload (pc := 645) dL_law_645 (by rfl) ?_
  refine tv_icmp_eq (pc := 647) 652 dL_law_647 (by decide) (fun _ => ?_) (fun h => absurd hw.2.1 h)
  refine tv_iload (pc := 652) dL_law_652 (by rfl) ?_
  refine tv_if_ne (pc := 654) 669 dL_law_654 (by decide) (fun h654 => ?_) (fun h654 => ?_)
  · skip
    refine tv_goto (pc := 669) 1200 dL_law_669 (by decide) ?_
    exact next (cells + 1) (slots + 6) _ _ _ (Nat.le_refl _) (Nat.le_refl _) hw.1
  · skip
    refine tv_aload_n (pc := 657) dL_law_657 (by rfl) ?_
    refine tv_iconst (v := 0) (pc := 658) dL_law_658 (by decide) ?_
    refine tv_lald (pc := 659) (j := 0) tb_76 ⟨by decide, by decide, by decide⟩ dL_law_659 ?_
    refine tv_iload (pc := 660) dL_law_660 (by rfl) ?_
    refine tv_i2l (pc := 662) dL_law_662 ?_
    refine tv_lcmp (pc := 663) dL_law_663 ?_
    refine tv_if_eq (pc := 664) 669 dL_law_664 (by decide) (fun _ => ?_) (fun h => absurd (lg_same (hw.2.2 h654)) h)
    refine tv_goto (pc := 669) 1200 dL_law_669 (by decide) ?_
    exact next (cells + 1) (slots + 6) _ _ _ (Nat.le_refl _) (Nat.le_refl _) hw.1
set_option maxRecDepth 100000 in
set_option maxHeartbeats 4000000 in
theorem law_c10 {p : Program} {e : Env} {s : State} {m : MethodId} {args : Array Value} {below : List Frame} {meth : Method} {c : Code} {Q : State → Prop} {hh : List (Nat × Nat × Nat × Nat)} (l : Launch) (hl : l.stackTraces = false) (G : tc_G) (u : tc_S) {n : Nat} (h : jI n u) {sa L0 i : Nat} {xs : Nat → Int32} (hX : va_X sa L0 xs s s.heap) (hbl : sa < s.heap.size) (hbA : ¬ tc_A tcx G s.heap.size sa) (hi1 : tc_ix (nI i + 1) L0 (i + 1)) (hi2 : tc_ix (nI i + 2) L0 (i + 2)) (hi3 : tc_ix (nI i + 3) L0 (i + 3)) {cells slots : Nat} (hf : cells + 1 ≤ room_1.cells ∧ slots + 6 ≤ room_1.slots) (a5 a6 : Option Value)
    (next : ∀ (c0 s0 : Nat) (a5 a6 : Option Value) (w : tc_S), c0 ≤ cells + 1 → s0 ≤ slots + 6 → (∃ n, jI n w) → tc_V tcx G p l e room_1 s m args below meth c bL_law 7 tw "TracedCodeLaw" (some .boolean) hh Q c0 s0 w 1200 [some (.ref sa), some (.ref (tc_ad G 0)), some (.ref (tc_ad G 56)), some (.ref (tc_ad G 76)), some (.int (nI i)), a5, a6] []) : tc_V tcx G p l e room_1 s m args below meth c bL_law 7 tw "TracedCodeLaw" (some .boolean) hh Q cells slots u 672 [some (.ref sa), some (.ref (tc_ad G 0)), some (.ref (tc_ad G 56)), some (.ref (tc_ad G 76)), some (.int (nI i)), a5, a6] [] := by
  refine tv_aload_n (pc := 672) dL_law_672 (by rfl) ?_
  refine tv_aload_n (pc := 673) dL_law_673 (by rfl) ?_
  refine tv_iload (pc := 674) dL_law_674 (by rfl) ?_
  refine tv_iconst (v := 1) (pc := 676) dL_law_676 (by decide) ?_
  refine tv_iadd (pc := 677) dL_law_677 ?_
  refine tv_sald (pc := 678) hX hbl hbA hi1 dL_law_678 ?_
  refine tv_aload_n (pc := 679) dL_law_679 (by rfl) ?_
  refine tv_iload (pc := 680) dL_law_680 (by rfl) ?_
  refine tv_iconst (v := 2) (pc := 682) dL_law_682 (by decide) ?_
  refine tv_iadd (pc := 683) dL_law_683 ?_
  refine tv_sald (pc := 684) hX hbl hbA hi2 dL_law_684 ?_
  refine tv_aload_n (pc := 685) dL_law_685 (by rfl) ?_
  refine tv_callSW (n := 4) (pc := 686) [_, _, _, _] (w_where l hl G u h _ _) wm_507 wm_508 wm_0 wm_509 rfl rfl ⟨by decide, by decide⟩ ⟨by decide, by decide, by decide +kernel⟩ (by rfl) (Nat.le_of_ble_eq_true rfl) dL_law_686 hf (fun k v hv => ?_)
  refine tv_istore5 (pc := 689) dL_law_689 (by rfl) ?_
  refine tv_aload_n (pc := 691) dL_law_691 (by rfl) ?_
  refine tv_aload_n (pc := 692) dL_law_692 (by rfl) ?_
  refine tv_iload (pc := 693) dL_law_693 (by rfl) ?_
  refine tv_iconst (v := 1) (pc := 695) dL_law_695 (by decide) ?_
  refine tv_iadd (pc := 696) dL_law_696 ?_
  refine tv_sald (pc := 697) hX hbl hbA hi1 dL_law_697 ?_
  refine tv_aload_n (pc := 698) dL_law_698 (by rfl) ?_
  refine tv_iload (pc := 699) dL_law_699 (by rfl) ?_
  refine tv_iconst (v := 2) (pc := 701) dL_law_701 (by decide) ?_
  refine tv_iadd (pc := 702) dL_law_702 ?_
  refine tv_sald (pc := 703) hX hbl hbA hi2 dL_law_703 ?_
  refine tv_callVI (pc := 704) [_, _] tb_56 (by rfl) hv (kVD_where wm_861 ⟨by decide, by decide⟩) (by rfl) (Nat.le_of_ble_eq_true rfl) dL_law_704 hf (fun r0 w hw => ?_)
  refine tv_istore6 (pc := 707) dL_law_707 (by rfl) ?_
  refine tv_aload_n (pc := 709) dL_law_709 (by rfl) ?_
  refine tv_callVi (pc := 710) [] tb_56 (by rfl) (c_D_thrown l G w) (kVD_thrown wm_744 ⟨by decide, by decide⟩) (by rfl) (Nat.le_of_ble_eq_true rfl) dL_law_710 hf ?_
  refine tv_iload (pc := 713) dL_law_713 (by rfl) ?_
  refine tv_icmp_eq (pc := 715) 720 dL_law_715 (by decide) (fun _ => ?_) (fun h => absurd hw.2.1 h)
  refine tv_iload (pc := 720) dL_law_720 (by rfl) ?_
  refine tv_if_ne (pc := 722) 737 dL_law_722 (by decide) (fun h722 => ?_) (fun h722 => ?_)
  · skip
    refine tv_goto (pc := 737) 1200 dL_law_737 (by decide) ?_
    exact next (cells + 1) (slots + 6) _ _ _ (Nat.le_refl _) (Nat.le_refl _) hw.1
  · skip
    refine tv_aload_n (pc := 725) dL_law_725 (by rfl) ?_
    refine tv_iconst (v := 0) (pc := 726) dL_law_726 (by decide) ?_
    refine tv_lald (pc := 727) (j := 0) tb_76 ⟨by decide, by decide, by decide⟩ dL_law_727 ?_
    refine tv_iload (pc := 728) dL_law_728 (by rfl) ?_
    refine tv_i2l (pc := 730) dL_law_730 ?_
    refine tv_lcmp (pc := 731) dL_law_731 ?_
    refine tv_if_eq (pc := 732) 737 dL_law_732 (by decide) (fun _ => ?_) (fun h => absurd (lg_same (hw.2.2 h722)) h)
    refine tv_goto (pc := 737) 1200 dL_law_737 (by decide) ?_
    exact next (cells + 1) (slots + 6) _ _ _ (Nat.le_refl _) (Nat.le_refl _) hw.1
set_option maxRecDepth 100000 in
set_option maxHeartbeats 4000000 in
theorem law_c11 {p : Program} {e : Env} {s : State} {m : MethodId} {args : Array Value} {below : List Frame} {meth : Method} {c : Code} {Q : State → Prop} {hh : List (Nat × Nat × Nat × Nat)} (l : Launch) (hl : l.stackTraces = false) (G : tc_G) (u : tc_S) {n : Nat} (h : jI n u) {sa L0 i : Nat} {xs : Nat → Int32} (hX : va_X sa L0 xs s s.heap) (hbl : sa < s.heap.size) (hbA : ¬ tc_A tcx G s.heap.size sa) (hi1 : tc_ix (nI i + 1) L0 (i + 1)) (hi2 : tc_ix (nI i + 2) L0 (i + 2)) (hi3 : tc_ix (nI i + 3) L0 (i + 3)) {cells slots : Nat} (hf : cells + 1 ≤ room_1.cells ∧ slots + 6 ≤ room_1.slots) (a5 a6 : Option Value)
    (next : ∀ (c0 s0 : Nat) (a5 a6 : Option Value) (w : tc_S), c0 ≤ cells + 1 → s0 ≤ slots + 6 → (∃ n, jI n w) → tc_V tcx G p l e room_1 s m args below meth c bL_law 7 tw "TracedCodeLaw" (some .boolean) hh Q c0 s0 w 1200 [some (.ref sa), some (.ref (tc_ad G 0)), some (.ref (tc_ad G 56)), some (.ref (tc_ad G 76)), some (.int (nI i)), a5, a6] []) : tc_V tcx G p l e room_1 s m args below meth c bL_law 7 tw "TracedCodeLaw" (some .boolean) hh Q cells slots u 740 [some (.ref sa), some (.ref (tc_ad G 0)), some (.ref (tc_ad G 56)), some (.ref (tc_ad G 76)), some (.int (nI i)), a5, a6] [] := by
  refine tv_aload_n (pc := 740) dL_law_740 (by rfl) ?_
  refine tv_aload_n (pc := 741) dL_law_741 (by rfl) ?_
  refine tv_iload (pc := 742) dL_law_742 (by rfl) ?_
  refine tv_iconst (v := 1) (pc := 744) dL_law_744 (by decide) ?_
  refine tv_iadd (pc := 745) dL_law_745 ?_
  refine tv_sald (pc := 746) hX hbl hbA hi1 dL_law_746 ?_
  refine tv_aload_n (pc := 747) dL_law_747 (by rfl) ?_
  refine tv_iload (pc := 748) dL_law_748 (by rfl) ?_
  refine tv_iconst (v := 2) (pc := 750) dL_law_750 (by decide) ?_
  refine tv_iadd (pc := 751) dL_law_751 ?_
  refine tv_sald (pc := 752) hX hbl hbA hi2 dL_law_752 ?_
  refine tv_aload_n (pc := 753) dL_law_753 (by rfl) ?_
  refine tv_callSW (n := 4) (pc := 754) [_, _, _, _] (w_carriers l hl G u h _ _) wm_522 wm_523 wm_0 wm_524 rfl rfl ⟨by decide, by decide⟩ ⟨by decide, by decide, by decide +kernel⟩ (by rfl) (Nat.le_of_ble_eq_true rfl) dL_law_754 hf (fun k v hv => ?_)
  refine tv_istore5 (pc := 757) dL_law_757 (by rfl) ?_
  refine tv_aload_n (pc := 759) dL_law_759 (by rfl) ?_
  refine tv_aload_n (pc := 760) dL_law_760 (by rfl) ?_
  refine tv_iload (pc := 761) dL_law_761 (by rfl) ?_
  refine tv_iconst (v := 1) (pc := 763) dL_law_763 (by decide) ?_
  refine tv_iadd (pc := 764) dL_law_764 ?_
  refine tv_sald (pc := 765) hX hbl hbA hi1 dL_law_765 ?_
  refine tv_aload_n (pc := 766) dL_law_766 (by rfl) ?_
  refine tv_iload (pc := 767) dL_law_767 (by rfl) ?_
  refine tv_iconst (v := 2) (pc := 769) dL_law_769 (by decide) ?_
  refine tv_iadd (pc := 770) dL_law_770 ?_
  refine tv_sald (pc := 771) hX hbl hbA hi2 dL_law_771 ?_
  refine tv_callVI (pc := 772) [_, _] tb_56 (by rfl) hv (kVD_carriers wm_873 ⟨by decide, by decide⟩) (by rfl) (Nat.le_of_ble_eq_true rfl) dL_law_772 hf (fun r0 w hw => ?_)
  refine tv_istore6 (pc := 775) dL_law_775 (by rfl) ?_
  refine tv_aload_n (pc := 777) dL_law_777 (by rfl) ?_
  refine tv_callVi (pc := 778) [] tb_56 (by rfl) (c_D_thrown l G w) (kVD_thrown wm_744 ⟨by decide, by decide⟩) (by rfl) (Nat.le_of_ble_eq_true rfl) dL_law_778 hf ?_
  refine tv_iload (pc := 781) dL_law_781 (by rfl) ?_
  refine tv_icmp_eq (pc := 783) 788 dL_law_783 (by decide) (fun _ => ?_) (fun h => absurd hw.2.1 h)
  refine tv_iload (pc := 788) dL_law_788 (by rfl) ?_
  refine tv_if_ne (pc := 790) 805 dL_law_790 (by decide) (fun h790 => ?_) (fun h790 => ?_)
  · skip
    refine tv_goto (pc := 805) 1200 dL_law_805 (by decide) ?_
    exact next (cells + 1) (slots + 6) _ _ _ (Nat.le_refl _) (Nat.le_refl _) hw.1
  · skip
    refine tv_aload_n (pc := 793) dL_law_793 (by rfl) ?_
    refine tv_iconst (v := 0) (pc := 794) dL_law_794 (by decide) ?_
    refine tv_lald (pc := 795) (j := 0) tb_76 ⟨by decide, by decide, by decide⟩ dL_law_795 ?_
    refine tv_iload (pc := 796) dL_law_796 (by rfl) ?_
    refine tv_i2l (pc := 798) dL_law_798 ?_
    refine tv_lcmp (pc := 799) dL_law_799 ?_
    refine tv_if_eq (pc := 800) 805 dL_law_800 (by decide) (fun _ => ?_) (fun h => absurd (lg_same (hw.2.2 h790)) h)
    refine tv_goto (pc := 805) 1200 dL_law_805 (by decide) ?_
    exact next (cells + 1) (slots + 6) _ _ _ (Nat.le_refl _) (Nat.le_refl _) hw.1
set_option maxRecDepth 100000 in
set_option maxHeartbeats 4000000 in
theorem law_c12 {p : Program} {e : Env} {s : State} {m : MethodId} {args : Array Value} {below : List Frame} {meth : Method} {c : Code} {Q : State → Prop} {hh : List (Nat × Nat × Nat × Nat)} (l : Launch) (hl : l.stackTraces = false) (G : tc_G) (u : tc_S) {n : Nat} (h : jI n u) {sa L0 i : Nat} {xs : Nat → Int32} (hX : va_X sa L0 xs s s.heap) (hbl : sa < s.heap.size) (hbA : ¬ tc_A tcx G s.heap.size sa) (hi1 : tc_ix (nI i + 1) L0 (i + 1)) (hi2 : tc_ix (nI i + 2) L0 (i + 2)) (hi3 : tc_ix (nI i + 3) L0 (i + 3)) {cells slots : Nat} (hf : cells + 1 ≤ room_1.cells ∧ slots + 6 ≤ room_1.slots) (a5 a6 : Option Value)
    (next : ∀ (c0 s0 : Nat) (a5 a6 : Option Value) (w : tc_S), c0 ≤ cells + 1 → s0 ≤ slots + 6 → (∃ n, jI n w) → tc_V tcx G p l e room_1 s m args below meth c bL_law 7 tw "TracedCodeLaw" (some .boolean) hh Q c0 s0 w 1200 [some (.ref sa), some (.ref (tc_ad G 0)), some (.ref (tc_ad G 56)), some (.ref (tc_ad G 76)), some (.int (nI i)), a5, a6] []) : tc_V tcx G p l e room_1 s m args below meth c bL_law 7 tw "TracedCodeLaw" (some .boolean) hh Q cells slots u 808 [some (.ref sa), some (.ref (tc_ad G 0)), some (.ref (tc_ad G 56)), some (.ref (tc_ad G 76)), some (.int (nI i)), a5, a6] [] := by
  refine tv_aload_n (pc := 808) dL_law_808 (by rfl) ?_
  refine tv_callSW (n := 1) (pc := 809) [_] (w_restart l hl G u h) wm_533 wm_534 wm_0 wm_535 rfl rfl ⟨by decide, by decide⟩ ⟨by decide, by decide, by decide +kernel⟩ (by rfl) (Nat.le_of_ble_eq_true rfl) dL_law_809 hf (fun k v hv => ?_)
  refine tv_istore5 (pc := 812) dL_law_812 (by rfl) ?_
  refine tv_aload_n (pc := 814) dL_law_814 (by rfl) ?_
  refine tv_callVV (pc := 815) [] tb_56 (by rfl) hv (kVD_restart wm_877 ⟨by decide, by decide⟩) (by rfl) (Nat.le_of_ble_eq_true rfl) dL_law_815 hf (fun w hw => ?_)
  refine tv_aload_n (pc := 818) dL_law_818 (by rfl) ?_
  refine tv_callVi (pc := 819) [] tb_56 (by rfl) (c_D_thrown l G w) (kVD_thrown wm_744 ⟨by decide, by decide⟩) (by rfl) (Nat.le_of_ble_eq_true rfl) dL_law_819 hf ?_
  refine tv_iload (pc := 822) dL_law_822 (by rfl) ?_
  refine tv_icmp_eq (pc := 824) 829 dL_law_824 (by decide) (fun _ => ?_) (fun h => absurd hw.2 h)
  refine tv_goto (pc := 829) 1200 dL_law_829 (by decide) ?_
  exact next (cells + 1) (slots + 6) _ _ _ (Nat.le_refl _) (Nat.le_refl _) hw.1
set_option maxRecDepth 100000 in
set_option maxHeartbeats 4000000 in
theorem law_c13 {p : Program} {e : Env} {s : State} {m : MethodId} {args : Array Value} {below : List Frame} {meth : Method} {c : Code} {Q : State → Prop} {hh : List (Nat × Nat × Nat × Nat)} (l : Launch) (hl : l.stackTraces = false) (G : tc_G) (u : tc_S) {n : Nat} (h : jI n u) {sa L0 i : Nat} {xs : Nat → Int32} (hX : va_X sa L0 xs s s.heap) (hbl : sa < s.heap.size) (hbA : ¬ tc_A tcx G s.heap.size sa) (hi1 : tc_ix (nI i + 1) L0 (i + 1)) (hi2 : tc_ix (nI i + 2) L0 (i + 2)) (hi3 : tc_ix (nI i + 3) L0 (i + 3)) {cells slots : Nat} (hf : cells + 1 ≤ room_1.cells ∧ slots + 6 ≤ room_1.slots) (a5 a6 : Option Value)
    (next : ∀ (c0 s0 : Nat) (a5 a6 : Option Value) (w : tc_S), c0 ≤ cells + 1 → s0 ≤ slots + 6 → (∃ n, jI n w) → tc_V tcx G p l e room_1 s m args below meth c bL_law 7 tw "TracedCodeLaw" (some .boolean) hh Q c0 s0 w 1200 [some (.ref sa), some (.ref (tc_ad G 0)), some (.ref (tc_ad G 56)), some (.ref (tc_ad G 76)), some (.int (nI i)), a5, a6] []) : tc_V tcx G p l e room_1 s m args below meth c bL_law 7 tw "TracedCodeLaw" (some .boolean) hh Q cells slots u 832 [some (.ref sa), some (.ref (tc_ad G 0)), some (.ref (tc_ad G 56)), some (.ref (tc_ad G 76)), some (.int (nI i)), a5, a6] [] := by
  refine tv_aload_n (pc := 832) dL_law_832 (by rfl) ?_
  refine tv_aload_n (pc := 833) dL_law_833 (by rfl) ?_
  refine tv_callSW (n := 2) (pc := 834) [_, _] (w_step l hl G u h) wm_540 wm_541 wm_0 wm_542 rfl rfl ⟨by decide, by decide⟩ ⟨by decide, by decide, by decide +kernel⟩ (by rfl) (Nat.le_of_ble_eq_true rfl) dL_law_834 hf (fun k v hv => ?_)
  refine tv_istore5 (pc := 837) dL_law_837 (by rfl) ?_
  refine tv_aload_n (pc := 839) dL_law_839 (by rfl) ?_
  refine tv_callVI (pc := 840) [] tb_56 (by rfl) hv (kVD_step wm_881 ⟨by decide, by decide⟩) (by rfl) (Nat.le_of_ble_eq_true rfl) dL_law_840 hf (fun r0 w hw => ?_)
  refine tv_istore6 (pc := 843) dL_law_843 (by rfl) ?_
  refine tv_aload_n (pc := 845) dL_law_845 (by rfl) ?_
  refine tv_callVi (pc := 846) [] tb_56 (by rfl) (c_D_thrown l G w) (kVD_thrown wm_744 ⟨by decide, by decide⟩) (by rfl) (Nat.le_of_ble_eq_true rfl) dL_law_846 hf ?_
  refine tv_iload (pc := 849) dL_law_849 (by rfl) ?_
  refine tv_icmp_eq (pc := 851) 856 dL_law_851 (by decide) (fun _ => ?_) (fun h => absurd hw.2.1 h)
  refine tv_iload (pc := 856) dL_law_856 (by rfl) ?_
  refine tv_if_ne (pc := 858) 873 dL_law_858 (by decide) (fun h858 => ?_) (fun h858 => ?_)
  · skip
    refine tv_goto (pc := 873) 1200 dL_law_873 (by decide) ?_
    exact next (cells + 1) (slots + 6) _ _ _ (Nat.le_refl _) (Nat.le_refl _) hw.1
  · skip
    refine tv_aload_n (pc := 861) dL_law_861 (by rfl) ?_
    refine tv_iconst (v := 0) (pc := 862) dL_law_862 (by decide) ?_
    refine tv_lald (pc := 863) (j := 0) tb_76 ⟨by decide, by decide, by decide⟩ dL_law_863 ?_
    refine tv_iload (pc := 864) dL_law_864 (by rfl) ?_
    refine tv_i2l (pc := 866) dL_law_866 ?_
    refine tv_lcmp (pc := 867) dL_law_867 ?_
    refine tv_if_eq (pc := 868) 873 dL_law_868 (by decide) (fun _ => ?_) (fun h => absurd (lg_same (hw.2.2 h858)) h)
    refine tv_goto (pc := 873) 1200 dL_law_873 (by decide) ?_
    exact next (cells + 1) (slots + 6) _ _ _ (Nat.le_refl _) (Nat.le_refl _) hw.1
set_option maxRecDepth 100000 in
set_option maxHeartbeats 4000000 in
theorem law_c14 {p : Program} {e : Env} {s : State} {m : MethodId} {args : Array Value} {below : List Frame} {meth : Method} {c : Code} {Q : State → Prop} {hh : List (Nat × Nat × Nat × Nat)} (l : Launch) (hl : l.stackTraces = false) (G : tc_G) (u : tc_S) {n : Nat} (h : jI n u) {sa L0 i : Nat} {xs : Nat → Int32} (hX : va_X sa L0 xs s s.heap) (hbl : sa < s.heap.size) (hbA : ¬ tc_A tcx G s.heap.size sa) (hi1 : tc_ix (nI i + 1) L0 (i + 1)) (hi2 : tc_ix (nI i + 2) L0 (i + 2)) (hi3 : tc_ix (nI i + 3) L0 (i + 3)) {cells slots : Nat} (hf : cells + 1 ≤ room_1.cells ∧ slots + 6 ≤ room_1.slots) (a5 a6 : Option Value)
    (next : ∀ (c0 s0 : Nat) (a5 a6 : Option Value) (w : tc_S), c0 ≤ cells + 1 → s0 ≤ slots + 6 → (∃ n, jI n w) → tc_V tcx G p l e room_1 s m args below meth c bL_law 7 tw "TracedCodeLaw" (some .boolean) hh Q c0 s0 w 1200 [some (.ref sa), some (.ref (tc_ad G 0)), some (.ref (tc_ad G 56)), some (.ref (tc_ad G 76)), some (.int (nI i)), a5, a6] []) : tc_V tcx G p l e room_1 s m args below meth c bL_law 7 tw "TracedCodeLaw" (some .boolean) hh Q cells slots u 876 [some (.ref sa), some (.ref (tc_ad G 0)), some (.ref (tc_ad G 56)), some (.ref (tc_ad G 76)), some (.int (nI i)), a5, a6] [] := by
  refine tv_aload_n (pc := 876) dL_law_876 (by rfl) ?_
  refine tv_aload_n (pc := 877) dL_law_877 (by rfl) ?_
  refine tv_callSW (n := 2) (pc := 878) [_, _] (w_line l hl G u h) wm_573 wm_574 wm_0 wm_575 rfl rfl ⟨by decide, by decide⟩ ⟨by decide, by decide, by decide +kernel⟩ (by rfl) (Nat.le_of_ble_eq_true rfl) dL_law_878 hf (fun k v hv => ?_)
  refine tv_istore5 (pc := 881) dL_law_881 (by rfl) ?_
  refine tv_aload_n (pc := 883) dL_law_883 (by rfl) ?_
  refine tv_callVI (pc := 884) [] tb_56 (by rfl) hv (kVD_line wm_889 ⟨by decide, by decide⟩) (by rfl) (Nat.le_of_ble_eq_true rfl) dL_law_884 hf (fun r0 w hw => ?_)
  refine tv_istore6 (pc := 887) dL_law_887 (by rfl) ?_
  refine tv_aload_n (pc := 889) dL_law_889 (by rfl) ?_
  refine tv_callVi (pc := 890) [] tb_56 (by rfl) (c_D_thrown l G w) (kVD_thrown wm_744 ⟨by decide, by decide⟩) (by rfl) (Nat.le_of_ble_eq_true rfl) dL_law_890 hf ?_
  refine tv_iload (pc := 893) dL_law_893 (by rfl) ?_
  refine tv_icmp_eq (pc := 895) 900 dL_law_895 (by decide) (fun _ => ?_) (fun h => absurd hw.2.1 h)
  refine tv_iload (pc := 900) dL_law_900 (by rfl) ?_
  refine tv_if_ne (pc := 902) 917 dL_law_902 (by decide) (fun h902 => ?_) (fun h902 => ?_)
  · skip
    refine tv_goto (pc := 917) 1200 dL_law_917 (by decide) ?_
    exact next (cells + 1) (slots + 6) _ _ _ (Nat.le_refl _) (Nat.le_refl _) hw.1
  · skip
    refine tv_aload_n (pc := 905) dL_law_905 (by rfl) ?_
    refine tv_iconst (v := 0) (pc := 906) dL_law_906 (by decide) ?_
    refine tv_lald (pc := 907) (j := 0) tb_76 ⟨by decide, by decide, by decide⟩ dL_law_907 ?_
    refine tv_iload (pc := 908) dL_law_908 (by rfl) ?_
    refine tv_i2l (pc := 910) dL_law_910 ?_
    refine tv_lcmp (pc := 911) dL_law_911 ?_
    refine tv_if_eq (pc := 912) 917 dL_law_912 (by decide) (fun _ => ?_) (fun h => absurd (lg_same (hw.2.2 h902)) h)
    refine tv_goto (pc := 917) 1200 dL_law_917 (by decide) ?_
    exact next (cells + 1) (slots + 6) _ _ _ (Nat.le_refl _) (Nat.le_refl _) hw.1
set_option maxRecDepth 100000 in
set_option maxHeartbeats 4000000 in
theorem law_c15 {p : Program} {e : Env} {s : State} {m : MethodId} {args : Array Value} {below : List Frame} {meth : Method} {c : Code} {Q : State → Prop} {hh : List (Nat × Nat × Nat × Nat)} (l : Launch) (hl : l.stackTraces = false) (G : tc_G) (u : tc_S) {n : Nat} (h : jI n u) {sa L0 i : Nat} {xs : Nat → Int32} (hX : va_X sa L0 xs s s.heap) (hbl : sa < s.heap.size) (hbA : ¬ tc_A tcx G s.heap.size sa) (hi1 : tc_ix (nI i + 1) L0 (i + 1)) (hi2 : tc_ix (nI i + 2) L0 (i + 2)) (hi3 : tc_ix (nI i + 3) L0 (i + 3)) {cells slots : Nat} (hf : cells + 1 ≤ room_1.cells ∧ slots + 6 ≤ room_1.slots) (a5 a6 : Option Value)
    (next : ∀ (c0 s0 : Nat) (a5 a6 : Option Value) (w : tc_S), c0 ≤ cells + 1 → s0 ≤ slots + 6 → (∃ n, jI n w) → tc_V tcx G p l e room_1 s m args below meth c bL_law 7 tw "TracedCodeLaw" (some .boolean) hh Q c0 s0 w 1200 [some (.ref sa), some (.ref (tc_ad G 0)), some (.ref (tc_ad G 56)), some (.ref (tc_ad G 76)), some (.int (nI i)), a5, a6] []) : tc_V tcx G p l e room_1 s m args below meth c bL_law 7 tw "TracedCodeLaw" (some .boolean) hh Q cells slots u 920 [some (.ref sa), some (.ref (tc_ad G 0)), some (.ref (tc_ad G 56)), some (.ref (tc_ad G 76)), some (.int (nI i)), a5, a6] [] := by
  by_cases hz : xs (i + 2) = 0
  · skip
    refine tv_aload_n (pc := 920) dL_law_920 (by rfl) ?_
    refine tv_aload_n (pc := 921) dL_law_921 (by rfl) ?_
    refine tv_iload (pc := 922) dL_law_922 (by rfl) ?_
    refine tv_iconst (v := 1) (pc := 924) dL_law_924 (by decide) ?_
    refine tv_iadd (pc := 925) dL_law_925 ?_
    refine tv_sald (pc := 926) hX hbl hbA hi1 dL_law_926 ?_
    refine tv_aload_n (pc := 927) dL_law_927 (by rfl) ?_
    refine tv_iload (pc := 928) dL_law_928 (by rfl) ?_
    refine tv_iconst (v := 2) (pc := 930) dL_law_930 (by decide) ?_
    refine tv_iadd (pc := 931) dL_law_931 ?_
    refine tv_sald (pc := 932) hX hbl hbA hi2 dL_law_932 ?_
    refine tv_if_eq (pc := 933) 940 dL_law_933 (by decide) (fun _ => ?_) (fun h => absurd hz h)
    refine tv_iconst (v := 0) (pc := 940) dL_law_940 (by decide) ?_
    refine tv_aload_n (pc := 941) dL_law_941 (by rfl) ?_
    refine tv_callSW (n := 4) (pc := 942) [_, _, _, _] (w_register l hl G u h _ 0 (Or.inl rfl)) wm_584 wm_585 wm_0 wm_586 rfl rfl ⟨by decide, by decide⟩ ⟨by decide, by decide, by decide +kernel⟩ (by rfl) (Nat.le_of_ble_eq_true rfl) dL_law_942 hf (fun k v hv => ?_)
    refine tv_istore5 (pc := 945) dL_law_945 (by rfl) ?_
    refine tv_aload_n (pc := 947) dL_law_947 (by rfl) ?_
    refine tv_aload_n (pc := 948) dL_law_948 (by rfl) ?_
    refine tv_iload (pc := 949) dL_law_949 (by rfl) ?_
    refine tv_iconst (v := 1) (pc := 951) dL_law_951 (by decide) ?_
    refine tv_iadd (pc := 952) dL_law_952 ?_
    refine tv_sald (pc := 953) hX hbl hbA hi1 dL_law_953 ?_
    refine tv_aload_n (pc := 954) dL_law_954 (by rfl) ?_
    refine tv_iload (pc := 955) dL_law_955 (by rfl) ?_
    refine tv_iconst (v := 2) (pc := 957) dL_law_957 (by decide) ?_
    refine tv_iadd (pc := 958) dL_law_958 ?_
    refine tv_sald (pc := 959) hX hbl hbA hi2 dL_law_959 ?_
    refine tv_if_eq (pc := 960) 967 dL_law_960 (by decide) (fun _ => ?_) (fun h => absurd hz h)
    refine tv_iconst (v := 0) (pc := 967) dL_law_967 (by decide) ?_
    refine tv_callVI (pc := 968) [_, _] tb_56 (by rfl) hv (kVD_register wm_893 ⟨by decide, by decide⟩) (by rfl) (Nat.le_of_ble_eq_true rfl) dL_law_968 hf (fun r0 w hw => ?_)
    refine tv_istore6 (pc := 971) dL_law_971 (by rfl) ?_
    refine tv_aload_n (pc := 973) dL_law_973 (by rfl) ?_
    refine tv_callVi (pc := 974) [] tb_56 (by rfl) (c_D_thrown l G w) (kVD_thrown wm_744 ⟨by decide, by decide⟩) (by rfl) (Nat.le_of_ble_eq_true rfl) dL_law_974 hf ?_
    refine tv_iload (pc := 977) dL_law_977 (by rfl) ?_
    refine tv_icmp_eq (pc := 979) 984 dL_law_979 (by decide) (fun _ => ?_) (fun h => absurd hw.2.1 h)
    refine tv_iload (pc := 984) dL_law_984 (by rfl) ?_
    refine tv_if_ne (pc := 986) 1001 dL_law_986 (by decide) (fun h986 => ?_) (fun h986 => ?_)
    · skip
      refine tv_goto (pc := 1001) 1200 dL_law_1001 (by decide) ?_
      exact next (cells + 1) (slots + 6) _ _ _ (Nat.le_refl _) (Nat.le_refl _) hw.1
    · skip
      refine tv_aload_n (pc := 989) dL_law_989 (by rfl) ?_
      refine tv_iconst (v := 0) (pc := 990) dL_law_990 (by decide) ?_
      refine tv_lald (pc := 991) (j := 0) tb_76 ⟨by decide, by decide, by decide⟩ dL_law_991 ?_
      refine tv_iload (pc := 992) dL_law_992 (by rfl) ?_
      refine tv_i2l (pc := 994) dL_law_994 ?_
      refine tv_lcmp (pc := 995) dL_law_995 ?_
      refine tv_if_eq (pc := 996) 1001 dL_law_996 (by decide) (fun _ => ?_) (fun h => absurd (lg_same (hw.2.2 h986)) h)
      refine tv_goto (pc := 1001) 1200 dL_law_1001 (by decide) ?_
      exact next (cells + 1) (slots + 6) _ _ _ (Nat.le_refl _) (Nat.le_refl _) hw.1
  · skip
    refine tv_aload_n (pc := 920) dL_law_920 (by rfl) ?_
    refine tv_aload_n (pc := 921) dL_law_921 (by rfl) ?_
    refine tv_iload (pc := 922) dL_law_922 (by rfl) ?_
    refine tv_iconst (v := 1) (pc := 924) dL_law_924 (by decide) ?_
    refine tv_iadd (pc := 925) dL_law_925 ?_
    refine tv_sald (pc := 926) hX hbl hbA hi1 dL_law_926 ?_
    refine tv_aload_n (pc := 927) dL_law_927 (by rfl) ?_
    refine tv_iload (pc := 928) dL_law_928 (by rfl) ?_
    refine tv_iconst (v := 2) (pc := 930) dL_law_930 (by decide) ?_
    refine tv_iadd (pc := 931) dL_law_931 ?_
    refine tv_sald (pc := 932) hX hbl hbA hi2 dL_law_932 ?_
    refine tv_if_eq (pc := 933) 940 dL_law_933 (by decide) (fun h => absurd h hz) (fun _ => ?_)
    refine tv_iconst (v := 1) (pc := 936) dL_law_936 (by decide) ?_
    refine tv_goto (pc := 937) 941 dL_law_937 (by decide) ?_
    refine tv_aload_n (pc := 941) dL_law_941 (by rfl) ?_
    refine tv_callSW (n := 4) (pc := 942) [_, _, _, _] (w_register l hl G u h _ 1 (Or.inr rfl)) wm_584 wm_585 wm_0 wm_586 rfl rfl ⟨by decide, by decide⟩ ⟨by decide, by decide, by decide +kernel⟩ (by rfl) (Nat.le_of_ble_eq_true rfl) dL_law_942 hf (fun k v hv => ?_)
    refine tv_istore5 (pc := 945) dL_law_945 (by rfl) ?_
    refine tv_aload_n (pc := 947) dL_law_947 (by rfl) ?_
    refine tv_aload_n (pc := 948) dL_law_948 (by rfl) ?_
    refine tv_iload (pc := 949) dL_law_949 (by rfl) ?_
    refine tv_iconst (v := 1) (pc := 951) dL_law_951 (by decide) ?_
    refine tv_iadd (pc := 952) dL_law_952 ?_
    refine tv_sald (pc := 953) hX hbl hbA hi1 dL_law_953 ?_
    refine tv_aload_n (pc := 954) dL_law_954 (by rfl) ?_
    refine tv_iload (pc := 955) dL_law_955 (by rfl) ?_
    refine tv_iconst (v := 2) (pc := 957) dL_law_957 (by decide) ?_
    refine tv_iadd (pc := 958) dL_law_958 ?_
    refine tv_sald (pc := 959) hX hbl hbA hi2 dL_law_959 ?_
    refine tv_if_eq (pc := 960) 967 dL_law_960 (by decide) (fun h => absurd h hz) (fun _ => ?_)
    refine tv_iconst (v := 1) (pc := 963) dL_law_963 (by decide) ?_
    refine tv_goto (pc := 964) 968 dL_law_964 (by decide) ?_
    refine tv_callVI (pc := 968) [_, _] tb_56 (by rfl) hv (kVD_register wm_893 ⟨by decide, by decide⟩) (by rfl) (Nat.le_of_ble_eq_true rfl) dL_law_968 hf (fun r0 w hw => ?_)
    refine tv_istore6 (pc := 971) dL_law_971 (by rfl) ?_
    refine tv_aload_n (pc := 973) dL_law_973 (by rfl) ?_
    refine tv_callVi (pc := 974) [] tb_56 (by rfl) (c_D_thrown l G w) (kVD_thrown wm_744 ⟨by decide, by decide⟩) (by rfl) (Nat.le_of_ble_eq_true rfl) dL_law_974 hf ?_
    refine tv_iload (pc := 977) dL_law_977 (by rfl) ?_
    refine tv_icmp_eq (pc := 979) 984 dL_law_979 (by decide) (fun _ => ?_) (fun h => absurd hw.2.1 h)
    refine tv_iload (pc := 984) dL_law_984 (by rfl) ?_
    refine tv_if_ne (pc := 986) 1001 dL_law_986 (by decide) (fun h986 => ?_) (fun h986 => ?_)
    · skip
      refine tv_goto (pc := 1001) 1200 dL_law_1001 (by decide) ?_
      exact next (cells + 1) (slots + 6) _ _ _ (Nat.le_refl _) (Nat.le_refl _) hw.1
    · skip
      refine tv_aload_n (pc := 989) dL_law_989 (by rfl) ?_
      refine tv_iconst (v := 0) (pc := 990) dL_law_990 (by decide) ?_
      refine tv_lald (pc := 991) (j := 0) tb_76 ⟨by decide, by decide, by decide⟩ dL_law_991 ?_
      refine tv_iload (pc := 992) dL_law_992 (by rfl) ?_
      refine tv_i2l (pc := 994) dL_law_994 ?_
      refine tv_lcmp (pc := 995) dL_law_995 ?_
      refine tv_if_eq (pc := 996) 1001 dL_law_996 (by decide) (fun _ => ?_) (fun h => absurd (lg_same (hw.2.2 h986)) h)
      refine tv_goto (pc := 1001) 1200 dL_law_1001 (by decide) ?_
      exact next (cells + 1) (slots + 6) _ _ _ (Nat.le_refl _) (Nat.le_refl _) hw.1
set_option maxRecDepth 100000 in
set_option maxHeartbeats 4000000 in
theorem law_c16 {p : Program} {e : Env} {s : State} {m : MethodId} {args : Array Value} {below : List Frame} {meth : Method} {c : Code} {Q : State → Prop} {hh : List (Nat × Nat × Nat × Nat)} (l : Launch) (hl : l.stackTraces = false) (G : tc_G) (u : tc_S) {n : Nat} (h : jI n u) {sa L0 i : Nat} {xs : Nat → Int32} (hX : va_X sa L0 xs s s.heap) (hbl : sa < s.heap.size) (hbA : ¬ tc_A tcx G s.heap.size sa) (hi1 : tc_ix (nI i + 1) L0 (i + 1)) (hi2 : tc_ix (nI i + 2) L0 (i + 2)) (hi3 : tc_ix (nI i + 3) L0 (i + 3)) {cells slots : Nat} (hf : cells + 1 ≤ room_1.cells ∧ slots + 6 ≤ room_1.slots) (a5 a6 : Option Value)
    (next : ∀ (c0 s0 : Nat) (a5 a6 : Option Value) (w : tc_S), c0 ≤ cells + 1 → s0 ≤ slots + 6 → (∃ n, jI n w) → tc_V tcx G p l e room_1 s m args below meth c bL_law 7 tw "TracedCodeLaw" (some .boolean) hh Q c0 s0 w 1200 [some (.ref sa), some (.ref (tc_ad G 0)), some (.ref (tc_ad G 56)), some (.ref (tc_ad G 76)), some (.int (nI i)), a5, a6] []) : tc_V tcx G p l e room_1 s m args below meth c bL_law 7 tw "TracedCodeLaw" (some .boolean) hh Q cells slots u 1004 [some (.ref sa), some (.ref (tc_ad G 0)), some (.ref (tc_ad G 56)), some (.ref (tc_ad G 76)), some (.int (nI i)), a5, a6] [] := by
  by_cases hz : xs (i + 2) = 0
  · skip
    refine tv_aload_n (pc := 1004) dL_law_1004 (by rfl) ?_
    refine tv_aload_n (pc := 1005) dL_law_1005 (by rfl) ?_
    refine tv_iload (pc := 1006) dL_law_1006 (by rfl) ?_
    refine tv_iconst (v := 1) (pc := 1008) dL_law_1008 (by decide) ?_
    refine tv_iadd (pc := 1009) dL_law_1009 ?_
    refine tv_sald (pc := 1010) hX hbl hbA hi1 dL_law_1010 ?_
    refine tv_aload_n (pc := 1011) dL_law_1011 (by rfl) ?_
    refine tv_iload (pc := 1012) dL_law_1012 (by rfl) ?_
    refine tv_iconst (v := 2) (pc := 1014) dL_law_1014 (by decide) ?_
    refine tv_iadd (pc := 1015) dL_law_1015 ?_
    refine tv_sald (pc := 1016) hX hbl hbA hi2 dL_law_1016 ?_
    refine tv_if_eq (pc := 1017) 1024 dL_law_1017 (by decide) (fun _ => ?_) (fun h => absurd hz h)
    refine tv_iconst (v := 0) (pc := 1024) dL_law_1024 (by decide) ?_
    refine tv_aload_n (pc := 1025) dL_law_1025 (by rfl) ?_
    refine tv_callSW (n := 4) (pc := 1026) [_, _, _, _] (w_output l hl G u h _ 0 (Or.inl rfl)) wm_596 wm_597 wm_0 wm_598 rfl rfl ⟨by decide, by decide⟩ ⟨by decide, by decide, by decide +kernel⟩ (by rfl) (Nat.le_of_ble_eq_true rfl) dL_law_1026 hf (fun k v hv => ?_)
    refine tv_istore5 (pc := 1029) dL_law_1029 (by rfl) ?_
    refine tv_aload_n (pc := 1031) dL_law_1031 (by rfl) ?_
    refine tv_aload_n (pc := 1032) dL_law_1032 (by rfl) ?_
    refine tv_iload (pc := 1033) dL_law_1033 (by rfl) ?_
    refine tv_iconst (v := 1) (pc := 1035) dL_law_1035 (by decide) ?_
    refine tv_iadd (pc := 1036) dL_law_1036 ?_
    refine tv_sald (pc := 1037) hX hbl hbA hi1 dL_law_1037 ?_
    refine tv_aload_n (pc := 1038) dL_law_1038 (by rfl) ?_
    refine tv_iload (pc := 1039) dL_law_1039 (by rfl) ?_
    refine tv_iconst (v := 2) (pc := 1041) dL_law_1041 (by decide) ?_
    refine tv_iadd (pc := 1042) dL_law_1042 ?_
    refine tv_sald (pc := 1043) hX hbl hbA hi2 dL_law_1043 ?_
    refine tv_if_eq (pc := 1044) 1051 dL_law_1044 (by decide) (fun _ => ?_) (fun h => absurd hz h)
    refine tv_iconst (v := 0) (pc := 1051) dL_law_1051 (by decide) ?_
    refine tv_callVI (pc := 1052) [_, _] tb_56 (by rfl) hv (kVD_output wm_897 ⟨by decide, by decide⟩) (by rfl) (Nat.le_of_ble_eq_true rfl) dL_law_1052 hf (fun r0 w hw => ?_)
    refine tv_istore6 (pc := 1055) dL_law_1055 (by rfl) ?_
    refine tv_aload_n (pc := 1057) dL_law_1057 (by rfl) ?_
    refine tv_callVi (pc := 1058) [] tb_56 (by rfl) (c_D_thrown l G w) (kVD_thrown wm_744 ⟨by decide, by decide⟩) (by rfl) (Nat.le_of_ble_eq_true rfl) dL_law_1058 hf ?_
    refine tv_iload (pc := 1061) dL_law_1061 (by rfl) ?_
    refine tv_icmp_eq (pc := 1063) 1068 dL_law_1063 (by decide) (fun _ => ?_) (fun h => absurd hw.2.1 h)
    refine tv_iload (pc := 1068) dL_law_1068 (by rfl) ?_
    refine tv_if_ne (pc := 1070) 1085 dL_law_1070 (by decide) (fun h1070 => ?_) (fun h1070 => ?_)
    · skip
      refine tv_goto (pc := 1085) 1200 dL_law_1085 (by decide) ?_
      exact next (cells + 1) (slots + 6) _ _ _ (Nat.le_refl _) (Nat.le_refl _) hw.1
    · skip
      refine tv_aload_n (pc := 1073) dL_law_1073 (by rfl) ?_
      refine tv_iconst (v := 0) (pc := 1074) dL_law_1074 (by decide) ?_
      refine tv_lald (pc := 1075) (j := 0) tb_76 ⟨by decide, by decide, by decide⟩ dL_law_1075 ?_
      refine tv_iload (pc := 1076) dL_law_1076 (by rfl) ?_
      refine tv_i2l (pc := 1078) dL_law_1078 ?_
      refine tv_lcmp (pc := 1079) dL_law_1079 ?_
      refine tv_if_eq (pc := 1080) 1085 dL_law_1080 (by decide) (fun _ => ?_) (fun h => absurd (lg_same (hw.2.2 h1070)) h)
      refine tv_goto (pc := 1085) 1200 dL_law_1085 (by decide) ?_
      exact next (cells + 1) (slots + 6) _ _ _ (Nat.le_refl _) (Nat.le_refl _) hw.1
  · skip
    refine tv_aload_n (pc := 1004) dL_law_1004 (by rfl) ?_
    refine tv_aload_n (pc := 1005) dL_law_1005 (by rfl) ?_
    refine tv_iload (pc := 1006) dL_law_1006 (by rfl) ?_
    refine tv_iconst (v := 1) (pc := 1008) dL_law_1008 (by decide) ?_
    refine tv_iadd (pc := 1009) dL_law_1009 ?_
    refine tv_sald (pc := 1010) hX hbl hbA hi1 dL_law_1010 ?_
    refine tv_aload_n (pc := 1011) dL_law_1011 (by rfl) ?_
    refine tv_iload (pc := 1012) dL_law_1012 (by rfl) ?_
    refine tv_iconst (v := 2) (pc := 1014) dL_law_1014 (by decide) ?_
    refine tv_iadd (pc := 1015) dL_law_1015 ?_
    refine tv_sald (pc := 1016) hX hbl hbA hi2 dL_law_1016 ?_
    refine tv_if_eq (pc := 1017) 1024 dL_law_1017 (by decide) (fun h => absurd h hz) (fun _ => ?_)
    refine tv_iconst (v := 1) (pc := 1020) dL_law_1020 (by decide) ?_
    refine tv_goto (pc := 1021) 1025 dL_law_1021 (by decide) ?_
    refine tv_aload_n (pc := 1025) dL_law_1025 (by rfl) ?_
    refine tv_callSW (n := 4) (pc := 1026) [_, _, _, _] (w_output l hl G u h _ 1 (Or.inr rfl)) wm_596 wm_597 wm_0 wm_598 rfl rfl ⟨by decide, by decide⟩ ⟨by decide, by decide, by decide +kernel⟩ (by rfl) (Nat.le_of_ble_eq_true rfl) dL_law_1026 hf (fun k v hv => ?_)
    refine tv_istore5 (pc := 1029) dL_law_1029 (by rfl) ?_
    refine tv_aload_n (pc := 1031) dL_law_1031 (by rfl) ?_
    refine tv_aload_n (pc := 1032) dL_law_1032 (by rfl) ?_
    refine tv_iload (pc := 1033) dL_law_1033 (by rfl) ?_
    refine tv_iconst (v := 1) (pc := 1035) dL_law_1035 (by decide) ?_
    refine tv_iadd (pc := 1036) dL_law_1036 ?_
    refine tv_sald (pc := 1037) hX hbl hbA hi1 dL_law_1037 ?_
    refine tv_aload_n (pc := 1038) dL_law_1038 (by rfl) ?_
    refine tv_iload (pc := 1039) dL_law_1039 (by rfl) ?_
    refine tv_iconst (v := 2) (pc := 1041) dL_law_1041 (by decide) ?_
    refine tv_iadd (pc := 1042) dL_law_1042 ?_
    refine tv_sald (pc := 1043) hX hbl hbA hi2 dL_law_1043 ?_
    refine tv_if_eq (pc := 1044) 1051 dL_law_1044 (by decide) (fun h => absurd h hz) (fun _ => ?_)
    refine tv_iconst (v := 1) (pc := 1047) dL_law_1047 (by decide) ?_
    refine tv_goto (pc := 1048) 1052 dL_law_1048 (by decide) ?_
    refine tv_callVI (pc := 1052) [_, _] tb_56 (by rfl) hv (kVD_output wm_897 ⟨by decide, by decide⟩) (by rfl) (Nat.le_of_ble_eq_true rfl) dL_law_1052 hf (fun r0 w hw => ?_)
    refine tv_istore6 (pc := 1055) dL_law_1055 (by rfl) ?_
    refine tv_aload_n (pc := 1057) dL_law_1057 (by rfl) ?_
    refine tv_callVi (pc := 1058) [] tb_56 (by rfl) (c_D_thrown l G w) (kVD_thrown wm_744 ⟨by decide, by decide⟩) (by rfl) (Nat.le_of_ble_eq_true rfl) dL_law_1058 hf ?_
    refine tv_iload (pc := 1061) dL_law_1061 (by rfl) ?_
    refine tv_icmp_eq (pc := 1063) 1068 dL_law_1063 (by decide) (fun _ => ?_) (fun h => absurd hw.2.1 h)
    refine tv_iload (pc := 1068) dL_law_1068 (by rfl) ?_
    refine tv_if_ne (pc := 1070) 1085 dL_law_1070 (by decide) (fun h1070 => ?_) (fun h1070 => ?_)
    · skip
      refine tv_goto (pc := 1085) 1200 dL_law_1085 (by decide) ?_
      exact next (cells + 1) (slots + 6) _ _ _ (Nat.le_refl _) (Nat.le_refl _) hw.1
    · skip
      refine tv_aload_n (pc := 1073) dL_law_1073 (by rfl) ?_
      refine tv_iconst (v := 0) (pc := 1074) dL_law_1074 (by decide) ?_
      refine tv_lald (pc := 1075) (j := 0) tb_76 ⟨by decide, by decide, by decide⟩ dL_law_1075 ?_
      refine tv_iload (pc := 1076) dL_law_1076 (by rfl) ?_
      refine tv_i2l (pc := 1078) dL_law_1078 ?_
      refine tv_lcmp (pc := 1079) dL_law_1079 ?_
      refine tv_if_eq (pc := 1080) 1085 dL_law_1080 (by decide) (fun _ => ?_) (fun h => absurd (lg_same (hw.2.2 h1070)) h)
      refine tv_goto (pc := 1085) 1200 dL_law_1085 (by decide) ?_
      exact next (cells + 1) (slots + 6) _ _ _ (Nat.le_refl _) (Nat.le_refl _) hw.1
set_option maxRecDepth 100000 in
set_option maxHeartbeats 4000000 in
theorem law_c17 {p : Program} {e : Env} {s : State} {m : MethodId} {args : Array Value} {below : List Frame} {meth : Method} {c : Code} {Q : State → Prop} {hh : List (Nat × Nat × Nat × Nat)} (l : Launch) (hl : l.stackTraces = false) (G : tc_G) (u : tc_S) {n : Nat} (h : jI n u) {sa L0 i : Nat} {xs : Nat → Int32} (hX : va_X sa L0 xs s s.heap) (hbl : sa < s.heap.size) (hbA : ¬ tc_A tcx G s.heap.size sa) (hi1 : tc_ix (nI i + 1) L0 (i + 1)) (hi2 : tc_ix (nI i + 2) L0 (i + 2)) (hi3 : tc_ix (nI i + 3) L0 (i + 3)) {cells slots : Nat} (hf : cells + 1 ≤ room_1.cells ∧ slots + 6 ≤ room_1.slots) (a5 a6 : Option Value)
    (next : ∀ (c0 s0 : Nat) (a5 a6 : Option Value) (w : tc_S), c0 ≤ cells + 1 → s0 ≤ slots + 6 → (∃ n, jI n w) → tc_V tcx G p l e room_1 s m args below meth c bL_law 7 tw "TracedCodeLaw" (some .boolean) hh Q c0 s0 w 1200 [some (.ref sa), some (.ref (tc_ad G 0)), some (.ref (tc_ad G 56)), some (.ref (tc_ad G 76)), some (.int (nI i)), a5, a6] []) : tc_V tcx G p l e room_1 s m args below meth c bL_law 7 tw "TracedCodeLaw" (some .boolean) hh Q cells slots u 1088 [some (.ref sa), some (.ref (tc_ad G 0)), some (.ref (tc_ad G 56)), some (.ref (tc_ad G 76)), some (.int (nI i)), a5, a6] [] := by
  refine tv_aload_n (pc := 1088) dL_law_1088 (by rfl) ?_
  refine tv_aload_n (pc := 1089) dL_law_1089 (by rfl) ?_
  refine tv_iload (pc := 1090) dL_law_1090 (by rfl) ?_
  refine tv_iconst (v := 1) (pc := 1092) dL_law_1092 (by decide) ?_
  refine tv_iadd (pc := 1093) dL_law_1093 ?_
  refine tv_sald (pc := 1094) hX hbl hbA hi1 dL_law_1094 ?_
  refine tv_aload_n (pc := 1095) dL_law_1095 (by rfl) ?_
  refine tv_callSW (n := 3) (pc := 1096) [_, _, _] (w_value l hl G u h _) wm_611 wm_612 wm_0 wm_613 rfl rfl ⟨by decide, by decide⟩ ⟨by decide, by decide, by decide +kernel⟩ (by rfl) (Nat.le_of_ble_eq_true rfl) dL_law_1096 hf (fun k v hv => ?_)
  refine tv_istore5 (pc := 1099) dL_law_1099 (by rfl) ?_
  refine tv_aload_n (pc := 1101) dL_law_1101 (by rfl) ?_
  refine tv_aload_n (pc := 1102) dL_law_1102 (by rfl) ?_
  refine tv_iload (pc := 1103) dL_law_1103 (by rfl) ?_
  refine tv_iconst (v := 1) (pc := 1105) dL_law_1105 (by decide) ?_
  refine tv_iadd (pc := 1106) dL_law_1106 ?_
  refine tv_sald (pc := 1107) hX hbl hbA hi1 dL_law_1107 ?_
  refine tv_callVI (pc := 1108) [_] tb_56 (by rfl) hv (kVD_value wm_901 ⟨by decide, by decide⟩) (by rfl) (Nat.le_of_ble_eq_true rfl) dL_law_1108 hf (fun r0 w hw => ?_)
  refine tv_istore6 (pc := 1111) dL_law_1111 (by rfl) ?_
  refine tv_aload_n (pc := 1113) dL_law_1113 (by rfl) ?_
  refine tv_callVi (pc := 1114) [] tb_56 (by rfl) (c_D_thrown l G w) (kVD_thrown wm_744 ⟨by decide, by decide⟩) (by rfl) (Nat.le_of_ble_eq_true rfl) dL_law_1114 hf ?_
  refine tv_iload (pc := 1117) dL_law_1117 (by rfl) ?_
  refine tv_icmp_eq (pc := 1119) 1124 dL_law_1119 (by decide) (fun _ => ?_) (fun h => absurd hw.2.1 h)
  refine tv_iload (pc := 1124) dL_law_1124 (by rfl) ?_
  refine tv_if_ne (pc := 1126) 1141 dL_law_1126 (by decide) (fun h1126 => ?_) (fun h1126 => ?_)
  · skip
    refine tv_goto (pc := 1141) 1200 dL_law_1141 (by decide) ?_
    exact next (cells + 1) (slots + 6) _ _ _ (Nat.le_refl _) (Nat.le_refl _) hw.1
  · skip
    refine tv_aload_n (pc := 1129) dL_law_1129 (by rfl) ?_
    refine tv_iconst (v := 0) (pc := 1130) dL_law_1130 (by decide) ?_
    refine tv_lald (pc := 1131) (j := 0) tb_76 ⟨by decide, by decide, by decide⟩ dL_law_1131 ?_
    refine tv_iload (pc := 1132) dL_law_1132 (by rfl) ?_
    refine tv_i2l (pc := 1134) dL_law_1134 ?_
    refine tv_lcmp (pc := 1135) dL_law_1135 ?_
    refine tv_if_eq (pc := 1136) 1141 dL_law_1136 (by decide) (fun _ => ?_) (fun h => absurd (lg_same (hw.2.2 h1126)) h)
    refine tv_goto (pc := 1141) 1200 dL_law_1141 (by decide) ?_
    exact next (cells + 1) (slots + 6) _ _ _ (Nat.le_refl _) (Nat.le_refl _) hw.1
set_option maxRecDepth 100000 in
set_option maxHeartbeats 4000000 in
theorem law_c18 {p : Program} {e : Env} {s : State} {m : MethodId} {args : Array Value} {below : List Frame} {meth : Method} {c : Code} {Q : State → Prop} {hh : List (Nat × Nat × Nat × Nat)} (l : Launch) (hl : l.stackTraces = false) (G : tc_G) (u : tc_S) {n : Nat} (h : jI n u) {sa L0 i : Nat} {xs : Nat → Int32} (hX : va_X sa L0 xs s s.heap) (hbl : sa < s.heap.size) (hbA : ¬ tc_A tcx G s.heap.size sa) (hi1 : tc_ix (nI i + 1) L0 (i + 1)) (hi2 : tc_ix (nI i + 2) L0 (i + 2)) (hi3 : tc_ix (nI i + 3) L0 (i + 3)) {cells slots : Nat} (hf : cells + 1 ≤ room_1.cells ∧ slots + 6 ≤ room_1.slots) (a5 a6 : Option Value)
    (next : ∀ (c0 s0 : Nat) (a5 a6 : Option Value) (w : tc_S), c0 ≤ cells + 1 → s0 ≤ slots + 6 → (∃ n, jI n w) → tc_V tcx G p l e room_1 s m args below meth c bL_law 7 tw "TracedCodeLaw" (some .boolean) hh Q c0 s0 w 1200 [some (.ref sa), some (.ref (tc_ad G 0)), some (.ref (tc_ad G 56)), some (.ref (tc_ad G 76)), some (.int (nI i)), a5, a6] []) : tc_V tcx G p l e room_1 s m args below meth c bL_law 7 tw "TracedCodeLaw" (some .boolean) hh Q cells slots u 1144 [some (.ref sa), some (.ref (tc_ad G 0)), some (.ref (tc_ad G 56)), some (.ref (tc_ad G 76)), some (.int (nI i)), a5, a6] [] := by
  refine tv_aload_n (pc := 1144) dL_law_1144 (by rfl) ?_
  refine tv_aload_n (pc := 1145) dL_law_1145 (by rfl) ?_
  refine tv_iload (pc := 1146) dL_law_1146 (by rfl) ?_
  refine tv_iconst (v := 1) (pc := 1148) dL_law_1148 (by decide) ?_
  refine tv_iadd (pc := 1149) dL_law_1149 ?_
  refine tv_sald (pc := 1150) hX hbl hbA hi1 dL_law_1150 ?_
  refine tv_aload_n (pc := 1151) dL_law_1151 (by rfl) ?_
  refine tv_callSW (n := 3) (pc := 1152) [_, _, _] (w_read l hl G u h _) wm_626 wm_627 wm_0 wm_628 rfl rfl ⟨by decide, by decide⟩ ⟨by decide, by decide, by decide +kernel⟩ (by rfl) (Nat.le_of_ble_eq_true rfl) dL_law_1152 hf (fun k v hv => ?_)
  refine tv_istore5 (pc := 1155) dL_law_1155 (by rfl) ?_
  refine tv_aload_n (pc := 1157) dL_law_1157 (by rfl) ?_
  refine tv_aload_n (pc := 1158) dL_law_1158 (by rfl) ?_
  refine tv_iload (pc := 1159) dL_law_1159 (by rfl) ?_
  refine tv_iconst (v := 1) (pc := 1161) dL_law_1161 (by decide) ?_
  refine tv_iadd (pc := 1162) dL_law_1162 ?_
  refine tv_sald (pc := 1163) hX hbl hbA hi1 dL_law_1163 ?_
  refine tv_callVI (pc := 1164) [_] tb_56 (by rfl) hv (kVD_read wm_905 ⟨by decide, by decide⟩) (by rfl) (Nat.le_of_ble_eq_true rfl) dL_law_1164 hf (fun r0 w hw => ?_)
  refine tv_istore6 (pc := 1167) dL_law_1167 (by rfl) ?_
  refine tv_aload_n (pc := 1169) dL_law_1169 (by rfl) ?_
  refine tv_callVi (pc := 1170) [] tb_56 (by rfl) (c_D_thrown l G w) (kVD_thrown wm_744 ⟨by decide, by decide⟩) (by rfl) (Nat.le_of_ble_eq_true rfl) dL_law_1170 hf ?_
  refine tv_iload (pc := 1173) dL_law_1173 (by rfl) ?_
  refine tv_icmp_eq (pc := 1175) 1180 dL_law_1175 (by decide) (fun _ => ?_) (fun h => absurd hw.2.1 h)
  refine tv_iload (pc := 1180) dL_law_1180 (by rfl) ?_
  refine tv_if_ne (pc := 1182) 1197 dL_law_1182 (by decide) (fun h1182 => ?_) (fun h1182 => ?_)
  · skip
    refine tv_goto (pc := 1197) 1200 dL_law_1197 (by decide) ?_
    exact next (cells + 1) (slots + 6) _ _ _ (Nat.le_refl _) (Nat.le_refl _) hw.1
  · skip
    refine tv_aload_n (pc := 1185) dL_law_1185 (by rfl) ?_
    refine tv_iconst (v := 0) (pc := 1186) dL_law_1186 (by decide) ?_
    refine tv_lald (pc := 1187) (j := 0) tb_76 ⟨by decide, by decide, by decide⟩ dL_law_1187 ?_
    refine tv_iload (pc := 1188) dL_law_1188 (by rfl) ?_
    refine tv_i2l (pc := 1190) dL_law_1190 ?_
    refine tv_lcmp (pc := 1191) dL_law_1191 ?_
    refine tv_if_eq (pc := 1192) 1197 dL_law_1192 (by decide) (fun _ => ?_) (fun h => absurd (lg_same (hw.2.2 h1182)) h)
    refine tv_goto (pc := 1197) 1200 dL_law_1197 (by decide) ?_
    exact next (cells + 1) (slots + 6) _ _ _ (Nat.le_refl _) (Nat.le_refl _) hw.1
set_option maxRecDepth 100000 in
set_option maxHeartbeats 4000000 in
theorem law_c6 {p : Program} {e : Env} {s : State} {m : MethodId} {args : Array Value} {below : List Frame} {meth : Method} {c : Code} {Q : State → Prop} {hh : List (Nat × Nat × Nat × Nat)} (l : Launch) (hl : l.stackTraces = false) (G : tc_G) (u : tc_S) {n : Nat} (h : jI n u) {sa L0 i : Nat} {xs : Nat → Int32} (hX : va_X sa L0 xs s s.heap) (hbl : sa < s.heap.size) (hbA : ¬ tc_A tcx G s.heap.size sa) (hi1 : tc_ix (nI i + 1) L0 (i + 1)) (hi2 : tc_ix (nI i + 2) L0 (i + 2)) (hi3 : tc_ix (nI i + 3) L0 (i + 3)) {cells slots : Nat} (hf : cells + 1 ≤ room_1.cells ∧ slots + 6 ≤ room_1.slots) (a5 a6 : Option Value)
    (next : ∀ (c0 s0 : Nat) (a5 a6 : Option Value) (w : tc_S), c0 ≤ cells + 1 → s0 ≤ slots + 6 → (∃ n, jI n w) → tc_V tcx G p l e room_1 s m args below meth c bL_law 7 tw "TracedCodeLaw" (some .boolean) hh Q c0 s0 w 1200 [some (.ref sa), some (.ref (tc_ad G 0)), some (.ref (tc_ad G 56)), some (.ref (tc_ad G 76)), some (.int (nI i)), a5, a6] []) : tc_V tcx G p l e room_1 s m args below meth c bL_law 7 tw "TracedCodeLaw" (some .boolean) hh Q cells slots u 536 [some (.ref sa), some (.ref (tc_ad G 0)), some (.ref (tc_ad G 56)), some (.ref (tc_ad G 76)), some (.int (nI i)), a5, a6] [] := by
  have hfz : cells + 0 ≤ room_1.cells ∧ slots + 0 ≤ room_1.slots := ⟨by have := hf.1; omega, by have := hf.2; omega⟩
  refine tv_aload_n (pc := 536) dL_law_536 (by rfl) ?_
  refine tv_callVv (pc := 537) [] tb_0 (by rfl) (c_T_clear l G u) (kVT_clear wm_154 ⟨by decide, by decide⟩) (by rfl) (Nat.le_of_ble_eq_true rfl) dL_law_537 hfz ?_
  refine tv_aload_n (pc := 540) dL_law_540 (by rfl) ?_
  refine tv_callVv (pc := 541) [] tb_56 (by rfl) (c_D_clear l G _) (kVD_clear wm_779 ⟨by decide, by decide⟩) (by rfl) (Nat.le_of_ble_eq_true rfl) dL_law_541 hfz ?_
  refine tv_goto (pc := 544) 1200 dL_law_544 (by decide) ?_
  exact next cells slots _ _ _ (by omega) (by omega) ⟨0, j_clear h⟩
set_option maxRecDepth 100000 in
set_option maxHeartbeats 4000000 in
theorem law_c7 {p : Program} {e : Env} {s : State} {m : MethodId} {args : Array Value} {below : List Frame} {meth : Method} {c : Code} {Q : State → Prop} {hh : List (Nat × Nat × Nat × Nat)} (l : Launch) (hl : l.stackTraces = false) (G : tc_G) (u : tc_S) {n : Nat} (h : jI n u) {sa L0 i : Nat} {xs : Nat → Int32} (hX : va_X sa L0 xs s s.heap) (hbl : sa < s.heap.size) (hbA : ¬ tc_A tcx G s.heap.size sa) (hi1 : tc_ix (nI i + 1) L0 (i + 1)) (hi2 : tc_ix (nI i + 2) L0 (i + 2)) (hi3 : tc_ix (nI i + 3) L0 (i + 3)) {cells slots : Nat} (hf : cells + 1 ≤ room_1.cells ∧ slots + 6 ≤ room_1.slots) (a5 a6 : Option Value)
    (next : ∀ (c0 s0 : Nat) (a5 a6 : Option Value) (w : tc_S), c0 ≤ cells + 1 → s0 ≤ slots + 6 → (∃ n, jI n w) → tc_V tcx G p l e room_1 s m args below meth c bL_law 7 tw "TracedCodeLaw" (some .boolean) hh Q c0 s0 w 1200 [some (.ref sa), some (.ref (tc_ad G 0)), some (.ref (tc_ad G 56)), some (.ref (tc_ad G 76)), some (.int (nI i)), a5, a6] []) : tc_V tcx G p l e room_1 s m args below meth c bL_law 7 tw "TracedCodeLaw" (some .boolean) hh Q cells slots u 547 [some (.ref sa), some (.ref (tc_ad G 0)), some (.ref (tc_ad G 56)), some (.ref (tc_ad G 76)), some (.int (nI i)), a5, a6] [] := by
  have hfz : cells + 0 ≤ room_1.cells ∧ slots + 0 ≤ room_1.slots := ⟨by have := hf.1; omega, by have := hf.2; omega⟩
  obtain ⟨j1, j2, j3, j4, j5, j6, j7⟩ := j_sh h
  refine tv_aload_n (pc := 547) dL_law_547 (by rfl) ?_
  refine tv_callVi (pc := 548) [] tb_0 (by rfl) (c_T_shorten l G u h.1.s1 h.1.hn j1 j2 j3) (kVT_shorten wm_162 ⟨by decide, by decide⟩) (by rfl) (Nat.le_of_ble_eq_true rfl) dL_law_548 hfz ?_
  refine tv_aload_n (pc := 551) dL_law_551 (by rfl) ?_
  refine tv_callVI (pc := 552) [] tb_56 (by rfl) (c_D_shorten l G _ j4 h.1.hn j5 j6) (kVD_shorten wm_783 ⟨by decide, by decide⟩) (by rfl) (Nat.le_of_ble_eq_true rfl) dL_law_552 hfz (fun r0 w hw => ?_)
  obtain ⟨k, rfl, hw1, hw2⟩ := hw
  obtain ⟨e1, e2, e3⟩ := j7 k w hw1 hw2
  refine tv_icmp_eq (pc := 555) 1200 dL_law_555 (by decide) (fun _ => ?_) (fun h => absurd e2 h)
  exact next cells slots _ _ _ (by omega) (by omega) ⟨n, e1⟩
