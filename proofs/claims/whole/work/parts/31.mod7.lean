theorem if10' {x y : Int32} (h : (if x = y then (0 : Int32) else 1) = 0) : x = y := Classical.byContradiction fun q => absurd ((if_neg q).symm.trans h) (by decide)
theorem if10n' {x y : Int32} (h : ¬ (if x = y then (0 : Int32) else 1) = 0) : ¬ x = y := fun q => h (if_pos q)
theorem ix153 {i r : Nat} (hi : i < 17) (hr : r < 9) : tc_ix (9 * nI i + nI r) 153 (9 * i + r) := by
  have e : (9 : Int32) * nI i = nI (9 * i) := by
    rw [show (9 : Int32) = nI 9 from rfl]
    exact (by decide +kernel : ∀ i : Fin 17, nI 9 * nI i.1 = nI (9 * i.1)) ⟨i, hi⟩
  rw [e, nI_add]
  exact tc_ixN (by omega) (by decide)
/-- what a short line makes of what is lacking -/
def cl_t (P1 : tp_P) (i : Nat) (x : Int32) : Int32 := if ¬ P1 0 i < 0 ∧ ¬ 2 < P1 0 i then (if ¬ P1 0 i = 1 ∨ (x >>> (P1 2 i &&& 31)) &&& 1 = 1 then x ||| tp_sh (P1 1 i) else x &&& (tp_sh (P1 1 i) ^^^ (-1))) else x
def cl_f (P P1 : tp_P) (i : Nat) (T : Nat → Int32) (x : Nat) : Int32 :=
  if (P 0 i = 0 ∨ P 0 i = 2) ∧ x = tp_n (P 1 i) then (if P1 0 i = -1 then 63 else 63 &&& (tp_sh (P 1 i) ^^^ (-1)))
  else if P 0 i = 1 ∧ x = tp_n (P 1 i) then (if P1 0 i = -1 then T (tp_n (P 2 i)) else T (tp_n (P 2 i)) &&& (tp_sh (P 1 i) ^^^ (-1)))
  else if P 0 i = 5 ∧ x = 6 + tp_n (P 1 i) then T (tp_n (P 2 i)) else T x
def cl_g (P : tp_P) (i : Nat) (O : Nat → Int32) (x : Nat) : Int32 :=
  if (P 0 i = 0 ∨ P 0 i = 2) ∧ x = tp_n (P 1 i) then tp_sh (nI i)
  else if P 0 i = 1 ∧ x = tp_n (P 1 i) then O (tp_n (P 2 i))
  else if P 0 i = 5 ∧ x = 6 + tp_n (P 1 i) then O (tp_n (P 2 i)) else O x
def cl_rs (u : tc_S) (f g : Nat → Int32) (N : Nat) : tc_S := tc_row (tc_row u 70 f N) 71 g N
theorem cl_rs_s {u : tc_S} {f g : Nat → Int32} {i : Nat} : tc_up (tc_up (cl_rs u f g i) 70 i (f i)) 71 i (g i) = cl_rs u f g (i + 1) := by
  unfold cl_rs
  rw [tc_row_upc (by decide), tc_row_s, tc_row_s]
theorem cl_rs_1 {u : tc_S} {f g : Nat → Int32} {N a : Nat} {x : Int32} (h : a < N) : tc_up (cl_rs u f g N) 70 a x = cl_rs u (fun j => if j = a then x else f j) g N := by
  unfold cl_rs
  rw [tc_row_upc (by decide), tc_row_up h]
theorem cl_rs_2 {u : tc_S} {f g : Nat → Int32} {N a : Nat} {x : Int32} (h : a < N) : tc_up (cl_rs u f g N) 71 a x = cl_rs u f (fun j => if j = a then x else g j) N := by
  unfold cl_rs
  rw [tc_row_up h]
theorem cl_rs_o {u : tc_S} {f g : Nat → Int32} {N q : Nat} (h : q < 70 ∨ 71 < q) : cl_rs u f g N q = u q := by
  unfold cl_rs
  rw [tc_row_ne (by omega), tc_row_ne (by omega)]
theorem cl_rs_70 {u : tc_S} {f g : Nat → Int32} {N j : Nat} (h : j < N) : cl_rs u f g N 70 j = f j := by
  unfold cl_rs
  rw [tc_row_ne (by decide), tc_row_in h]
theorem cl_rs_71 {u : tc_S} {f g : Nat → Int32} {N j : Nat} (h : j < N) : cl_rs u f g N 71 j = g j := by
  unfold cl_rs
  rw [tc_row_in h]
theorem cl_rs_c {u : tc_S} {f g f' g' : Nat → Int32} {N : Nat} (h1 : ∀ j, j < N → f j = f' j) (h2 : ∀ j, j < N → g j = g' j) : cl_rs u f g N = cl_rs u f' g' N := by
  unfold cl_rs
  rw [tc_row_congr h1, tc_row_congr h2]
theorem cl_rs_0 {u : tc_S} {f g : Nat → Int32} : cl_rs u f g 0 = u := by unfold cl_rs; rw [tc_row_0, tc_row_0]
def cl_L (u : tc_S) (i x : Nat) : Int32 := u 68 (9 * i + x)
def cl_O (u : tc_S) (i x : Nat) : Int32 := u 69 (9 * i + x)
def cl_T (u : tc_S) (i x : Nat) : Int32 := cl_t (pm u 16) i (cl_L u i x)
def cl_ps (i : Nat) (u : tc_S) : tc_S := cl_rs u (cl_f (pm u 0) (pm u 16) i (cl_T u i)) (cl_g (pm u 0) i (cl_O u i)) 9
set_option maxRecDepth 100000 in
set_option maxHeartbeats 4000000 in
theorem c_D_pass (l : Launch) (G : tc_G) (u : tc_S) {i : Nat} (hi : i < 16) (hl : tp_line (pm u 0) i) (hne : ¬ pm u 0 0 i = -1) : tc_C tcx G l yD_pass wD_pass r0D_pass 0 0 [.ref (tc_ad G 56), .int (nI i)] u (tc_Kv (cl_ps i u)) := by
  refine tw_ofV (own := "TracedCodeModel") [some (.ref (tc_ad G 56)), some (.int (nI i)), none, none, none, none, none] (by decide +kernel) rfl (Nat.le_of_ble_eq_true rfl) (by rfl) (fun p e s m args below meth c => ?_)
  have i32 : tc_ix (16 + nI i) 32 (16 + i) := ix16 hi
  have j32 : tc_ix (nI i) 32 i := ix32 hi
  have a0 : u 57 i = pm u 0 0 i := by rw [pm_of (by decide), Nat.zero_add]
  have a1 : u 58 i = pm u 0 1 i := by rw [pm_of (by decide), Nat.zero_add]
  have a2 : u 59 i = pm u 0 2 i := by rw [pm_of (by decide), Nat.zero_add]
  have b0 : u 57 (16 + i) = pm u 16 0 i := by rw [pm_of (by decide)]
  have b1 : u 58 (16 + i) = pm u 16 1 i := by rw [pm_of (by decide)]
  have b2 : u 59 (16 + i) = pm u 16 2 i := by rw [pm_of (by decide)]
  obtain ⟨r1, hr1, er1⟩ := hl.2.1 hne
  have n1 : tp_n (pm u 0 1 i) = r1 := by rw [er1]; exact nI_clamp (by omega)
  have x1 : tc_ix (pm u 0 1 i) 9 r1 := by rw [er1]; exact tc_ixN (by omega) (by decide)
  have hk : pm u 0 0 i = 0 ∨ pm u 0 0 i = 1 ∨ pm u 0 0 i = 2 ∨ pm u 0 0 i = 3 ∨ pm u 0 0 i = 4 ∨ pm u 0 0 i = 5 := by
    rcases hl.1 with q | q
    · exact absurd q hne
    · exact q
  have fin : ∀ (z2 z3 z4 z5 z6 : Option Value) (f g : Nat → Int32), (∀ j, j < 9 → f j = cl_f (pm u 0) (pm u 16) i (cl_T u i) j) → (∀ j, j < 9 → g j = cl_g (pm u 0) i (cl_O u i) j) → tc_V tcx G p l e r0D_pass s m args below meth c bD_pass 7 tw "TracedCodeModel" none [] (MQ below (tc_Qc tcx G (tc_Kv (cl_ps i u)) s.heap.size) args s 0 0 (tc_A tcx G s.heap.size)) 0 0 (cl_rs u f g 9) 373 [some (.ref (tc_ad G 56)), some (.int (nI i)), z2, z3, z4, z5, z6] [] := by
    intro z2 z3 z4 z5 z6 f g h1 h2
    refine tv_vret (pc := 373) dD_pass_373 rfl (Nat.le_refl _) (Nat.le_refl _) ⟨rfl, ?_⟩
    exact cl_rs_c h1 h2
  have r212 : ∀ z2 z6 : Option Value, tc_V tcx G p l e r0D_pass s m args below meth c bD_pass 7 tw "TracedCodeModel" none [] (MQ below (tc_Qc tcx G (tc_Kv (cl_ps i u)) s.heap.size) args s 0 0 (tc_A tcx G s.heap.size)) 0 0 (cl_rs u (cl_T u i) (cl_O u i) 9) 212 [some (.ref (tc_ad G 56)), some (.int (nI i)), z2, some (.int (if pm u 16 0 i = -1 then 0 else 1)), some (.int (pm u 0 1 i)), some (.int (if pm u 16 0 i = -1 then 63 else 63 &&& (tp_sh (pm u 0 1 i) ^^^ (-1)))), z6] [] := by
    intro z2 z6
    rcases hk with h | h | h | h | h | h
    · skip
      refine tv_aload_n (pc := 212) dD_pass_212 (by rfl) ?_
      refine tv_getR (pc := 213) 2 tb_56 (by rfl) uwD_ (by decide) wm_664 (by rfl) dD_pass_213 ?_
      refine tv_iload_n (pc := 216) dD_pass_216 (by rfl) ?_
      refine tv_iald (pc := 217) tb_57 (by assumption) dD_pass_217 ?_
      rw [cl_rs_o (q := 57) (by omega), a0, h]
      refine tv_if_eq (pc := 218) 231 dD_pass_218 (by decide) (fun _ => ?_) (fun h => absurd (by decide) h)
      refine tv_aload_n (pc := 231) dD_pass_231 (by rfl) ?_
      refine tv_getR (pc := 232) 17 tb_56 (by rfl) uwD_ (by decide) wm_679 (by rfl) dD_pass_232 ?_
      refine tv_iload (pc := 235) dD_pass_235 (by rfl) ?_
      refine tv_iload (pc := 237) dD_pass_237 (by rfl) ?_
      refine tv_iast (pc := 239) tb_70 x1 dD_pass_239 ?_
      rw [cl_rs_1 (by omega)]
      refine tv_aload_n (pc := 240) dD_pass_240 (by rfl) ?_
      refine tv_getR (pc := 241) 18 tb_56 (by rfl) uwD_ (by decide) wm_680 (by rfl) dD_pass_241 ?_
      refine tv_iload (pc := 244) dD_pass_244 (by rfl) ?_
      refine tv_iconst (v := 1) (pc := 246) dD_pass_246 (by decide) ?_
      refine tv_iload_n (pc := 247) dD_pass_247 (by rfl) ?_
      refine tv_ishl (pc := 248) dD_pass_248 ?_
      refine tv_iast (pc := 249) tb_71 x1 dD_pass_249 ?_
      rw [cl_rs_2 (by omega)]
      refine tv_aload_n (pc := 250) dD_pass_250 (by rfl) ?_
      refine tv_getR (pc := 251) 2 tb_56 (by rfl) uwD_ (by decide) wm_664 (by rfl) dD_pass_251 ?_
      refine tv_iload_n (pc := 254) dD_pass_254 (by rfl) ?_
      refine tv_iald (pc := 255) tb_57 (by assumption) dD_pass_255 ?_
      rw [cl_rs_o (q := 57) (by omega), a0, h]
      refine tv_iconst (v := 1) (pc := 256) dD_pass_256 (by decide) ?_
      refine tv_icmp_ne (pc := 257) 321 dD_pass_257 (by decide) (fun _ => ?_) (fun h => absurd h (by decide))
      refine tv_aload_n (pc := 321) dD_pass_321 (by rfl) ?_
      refine tv_getR (pc := 322) 2 tb_56 (by rfl) uwD_ (by decide) wm_664 (by rfl) dD_pass_322 ?_
      refine tv_iload_n (pc := 325) dD_pass_325 (by rfl) ?_
      refine tv_iald (pc := 326) tb_57 (by assumption) dD_pass_326 ?_
      rw [cl_rs_o (q := 57) (by omega), a0, h]
      refine tv_iconst (v := 5) (pc := 327) dD_pass_327 (by decide) ?_
      refine tv_icmp_ne (pc := 328) 373 dD_pass_328 (by decide) (fun _ => ?_) (fun h => absurd h (by decide))
      refine fin _ _ _ _ _ _ _ (fun j hj => ?_) (fun j hj => ?_)
      · unfold cl_f; simp [h, n1]
      · unfold cl_g tp_sh; simp [h, n1]
    · skip
      obtain ⟨r2, hr2, er2⟩ := hl.2.2.1 (by first | exact Or.inl h | exact Or.inr (Or.inr h))
      have n2 : tp_n (pm u 0 2 i) = r2 := by rw [er2]; exact nI_clamp (by omega)
      have x2 : tc_ix (pm u 0 2 i) 9 r2 := by rw [er2]; exact tc_ixN (by omega) (by decide)
      have x2b : tc_ix (9 * nI i + pm u 0 2 i) 153 (9 * i + r2) := by rw [er2]; exact ix153 (by omega) (by omega)
      have r297 : tc_V tcx G p l e r0D_pass s m args below meth c bD_pass 7 tw "TracedCodeModel" none [] (MQ below (tc_Qc tcx G (tc_Kv (cl_ps i u)) s.heap.size) args s 0 0 (tc_A tcx G s.heap.size)) 0 0 (cl_rs u (cl_T u i) (cl_O u i) 9) 297 [some (.ref (tc_ad G 56)), some (.int (nI i)), z2, some (.int (if pm u 16 0 i = -1 then 0 else 1)), some (.int (pm u 0 1 i)), some (.int (if pm u 16 0 i = -1 then 63 else 63 &&& (tp_sh (pm u 0 1 i) ^^^ (-1)))), some (.int (cl_T u i r2))] [.int (if pm u 16 0 i = -1 then cl_T u i r2 else cl_T u i r2 &&& (tp_sh (pm u 0 1 i) ^^^ (-1))), .int (pm u 0 1 i), .ref (tc_ad G 70)] := by
        refine tv_iast (pc := 297) tb_70 x1 dD_pass_297 ?_
        rw [cl_rs_1 (by omega)]
        refine tv_aload_n (pc := 298) dD_pass_298 (by rfl) ?_
        refine tv_getR (pc := 299) 18 tb_56 (by rfl) uwD_ (by decide) wm_680 (by rfl) dD_pass_299 ?_
        refine tv_iload (pc := 302) dD_pass_302 (by rfl) ?_
        refine tv_aload_n (pc := 304) dD_pass_304 (by rfl) ?_
        refine tv_getR (pc := 305) 16 tb_56 (by rfl) uwD_ (by decide) wm_678 (by rfl) dD_pass_305 ?_
        refine tv_bipush (v := 9) (pc := 308) dD_pass_308 (by decide) ?_
        refine tv_iload_n (pc := 310) dD_pass_310 (by rfl) ?_
        refine tv_imul (pc := 311) dD_pass_311 ?_
        refine tv_aload_n (pc := 312) dD_pass_312 (by rfl) ?_
        refine tv_getR (pc := 313) 4 tb_56 (by rfl) uwD_ (by decide) wm_666 (by rfl) dD_pass_313 ?_
        refine tv_iload_n (pc := 316) dD_pass_316 (by rfl) ?_
        refine tv_iald (pc := 317) tb_59 (by assumption) dD_pass_317 ?_
        rw [cl_rs_o (q := 59) (by omega), a2]
        refine tv_iadd (pc := 318) dD_pass_318 ?_
        refine tv_iald (pc := 319) tb_69 (by assumption) dD_pass_319 ?_
        rw [cl_rs_o (q := 69) (by omega)]
        refine tv_iast (pc := 320) tb_71 x1 dD_pass_320 ?_
        rw [cl_rs_2 (by omega)]
        refine tv_aload_n (pc := 321) dD_pass_321 (by rfl) ?_
        refine tv_getR (pc := 322) 2 tb_56 (by rfl) uwD_ (by decide) wm_664 (by rfl) dD_pass_322 ?_
        refine tv_iload_n (pc := 325) dD_pass_325 (by rfl) ?_
        refine tv_iald (pc := 326) tb_57 (by assumption) dD_pass_326 ?_
        rw [cl_rs_o (q := 57) (by omega), a0, h]
        refine tv_iconst (v := 5) (pc := 327) dD_pass_327 (by decide) ?_
        refine tv_icmp_ne (pc := 328) 373 dD_pass_328 (by decide) (fun _ => ?_) (fun h => absurd h (by decide))
        refine fin _ _ _ _ _ _ _ (fun j hj => ?_) (fun j hj => ?_)
        · unfold cl_f; simp [h, n1, n2]
        · unfold cl_g; simp [h, n1, n2, cl_O]
      refine tv_aload_n (pc := 212) dD_pass_212 (by rfl) ?_
      refine tv_getR (pc := 213) 2 tb_56 (by rfl) uwD_ (by decide) wm_664 (by rfl) dD_pass_213 ?_
      refine tv_iload_n (pc := 216) dD_pass_216 (by rfl) ?_
      refine tv_iald (pc := 217) tb_57 (by assumption) dD_pass_217 ?_
      rw [cl_rs_o (q := 57) (by omega), a0, h]
      refine tv_if_eq (pc := 218) 231 dD_pass_218 (by decide) (fun h => absurd h (by decide)) (fun _ => ?_)
      refine tv_aload_n (pc := 221) dD_pass_221 (by rfl) ?_
      refine tv_getR (pc := 222) 2 tb_56 (by rfl) uwD_ (by decide) wm_664 (by rfl) dD_pass_222 ?_
      refine tv_iload_n (pc := 225) dD_pass_225 (by rfl) ?_
      refine tv_iald (pc := 226) tb_57 (by assumption) dD_pass_226 ?_
      rw [cl_rs_o (q := 57) (by omega), a0, h]
      refine tv_iconst (v := 2) (pc := 227) dD_pass_227 (by decide) ?_
      refine tv_icmp_ne (pc := 228) 250 dD_pass_228 (by decide) (fun _ => ?_) (fun h => absurd h (by decide))
      refine tv_aload_n (pc := 250) dD_pass_250 (by rfl) ?_
      refine tv_getR (pc := 251) 2 tb_56 (by rfl) uwD_ (by decide) wm_664 (by rfl) dD_pass_251 ?_
      refine tv_iload_n (pc := 254) dD_pass_254 (by rfl) ?_
      refine tv_iald (pc := 255) tb_57 (by assumption) dD_pass_255 ?_
      rw [cl_rs_o (q := 57) (by omega), a0, h]
      refine tv_iconst (v := 1) (pc := 256) dD_pass_256 (by decide) ?_
      refine tv_icmp_ne (pc := 257) 321 dD_pass_257 (by decide) (fun h => absurd h (fun q => q rfl)) (fun _ => ?_)
      refine tv_aload_n (pc := 260) dD_pass_260 (by rfl) ?_
      refine tv_getR (pc := 261) 17 tb_56 (by rfl) uwD_ (by decide) wm_679 (by rfl) dD_pass_261 ?_
      refine tv_aload_n (pc := 264) dD_pass_264 (by rfl) ?_
      refine tv_getR (pc := 265) 4 tb_56 (by rfl) uwD_ (by decide) wm_666 (by rfl) dD_pass_265 ?_
      refine tv_iload_n (pc := 268) dD_pass_268 (by rfl) ?_
      refine tv_iald (pc := 269) tb_59 (by assumption) dD_pass_269 ?_
      rw [cl_rs_o (q := 59) (by omega), a2]
      refine tv_iald (pc := 270) tb_70 (by assumption) dD_pass_270 ?_
      rw [cl_rs_70 (by omega)]
      refine tv_istore6 (pc := 271) dD_pass_271 (by rfl) ?_
      refine tv_aload_n (pc := 273) dD_pass_273 (by rfl) ?_
      refine tv_getR (pc := 274) 17 tb_56 (by rfl) uwD_ (by decide) wm_679 (by rfl) dD_pass_274 ?_
      refine tv_iload (pc := 277) dD_pass_277 (by rfl) ?_
      refine tv_iload_n (pc := 279) dD_pass_279 (by rfl) ?_
      refine tv_if_eq (pc := 280) 295 dD_pass_280 (by decide) (fun h280 => ?_) (fun h280 => ?_)
      · skip
        refine tv_iload (pc := 295) dD_pass_295 (by rfl) ?_
        first
        | (have hq : ¬ pm u 16 0 i = -1 := if10n' (by assumption)
           simp only [if_neg hq] at r297 ⊢
           exact r297)
        | (have hq : pm u 16 0 i = -1 := if10' (by assumption)
           simp only [if_pos hq] at r297 ⊢
           exact r297)
      · skip
        refine tv_iload (pc := 283) dD_pass_283 (by rfl) ?_
        refine tv_iconst (v := 1) (pc := 285) dD_pass_285 (by decide) ?_
        refine tv_iload (pc := 286) dD_pass_286 (by rfl) ?_
        refine tv_ishl (pc := 288) dD_pass_288 ?_
        refine tv_iconst (v := (-1)) (pc := 289) dD_pass_289 (by decide) ?_
        refine tv_ixor (pc := 290) dD_pass_290 ?_
        refine tv_iand (pc := 291) dD_pass_291 ?_
        refine tv_goto (pc := 292) 297 dD_pass_292 (by decide) ?_
        first
        | (have hq : ¬ pm u 16 0 i = -1 := if10n' (by assumption)
           simp only [if_neg hq] at r297 ⊢
           exact r297)
        | (have hq : pm u 16 0 i = -1 := if10' (by assumption)
           simp only [if_pos hq] at r297 ⊢
           exact r297)
    · skip
      refine tv_aload_n (pc := 212) dD_pass_212 (by rfl) ?_
      refine tv_getR (pc := 213) 2 tb_56 (by rfl) uwD_ (by decide) wm_664 (by rfl) dD_pass_213 ?_
      refine tv_iload_n (pc := 216) dD_pass_216 (by rfl) ?_
      refine tv_iald (pc := 217) tb_57 (by assumption) dD_pass_217 ?_
      rw [cl_rs_o (q := 57) (by omega), a0, h]
      refine tv_if_eq (pc := 218) 231 dD_pass_218 (by decide) (fun h => absurd h (by decide)) (fun _ => ?_)
      refine tv_aload_n (pc := 221) dD_pass_221 (by rfl) ?_
      refine tv_getR (pc := 222) 2 tb_56 (by rfl) uwD_ (by decide) wm_664 (by rfl) dD_pass_222 ?_
      refine tv_iload_n (pc := 225) dD_pass_225 (by rfl) ?_
      refine tv_iald (pc := 226) tb_57 (by assumption) dD_pass_226 ?_
      rw [cl_rs_o (q := 57) (by omega), a0, h]
      refine tv_iconst (v := 2) (pc := 227) dD_pass_227 (by decide) ?_
      refine tv_icmp_ne (pc := 228) 250 dD_pass_228 (by decide) (fun h => absurd h (fun q => q rfl)) (fun _ => ?_)
      refine tv_aload_n (pc := 231) dD_pass_231 (by rfl) ?_
      refine tv_getR (pc := 232) 17 tb_56 (by rfl) uwD_ (by decide) wm_679 (by rfl) dD_pass_232 ?_
      refine tv_iload (pc := 235) dD_pass_235 (by rfl) ?_
      refine tv_iload (pc := 237) dD_pass_237 (by rfl) ?_
      refine tv_iast (pc := 239) tb_70 x1 dD_pass_239 ?_
      rw [cl_rs_1 (by omega)]
      refine tv_aload_n (pc := 240) dD_pass_240 (by rfl) ?_
      refine tv_getR (pc := 241) 18 tb_56 (by rfl) uwD_ (by decide) wm_680 (by rfl) dD_pass_241 ?_
      refine tv_iload (pc := 244) dD_pass_244 (by rfl) ?_
      refine tv_iconst (v := 1) (pc := 246) dD_pass_246 (by decide) ?_
      refine tv_iload_n (pc := 247) dD_pass_247 (by rfl) ?_
      refine tv_ishl (pc := 248) dD_pass_248 ?_
      refine tv_iast (pc := 249) tb_71 x1 dD_pass_249 ?_
      rw [cl_rs_2 (by omega)]
      refine tv_aload_n (pc := 250) dD_pass_250 (by rfl) ?_
      refine tv_getR (pc := 251) 2 tb_56 (by rfl) uwD_ (by decide) wm_664 (by rfl) dD_pass_251 ?_
      refine tv_iload_n (pc := 254) dD_pass_254 (by rfl) ?_
      refine tv_iald (pc := 255) tb_57 (by assumption) dD_pass_255 ?_
      rw [cl_rs_o (q := 57) (by omega), a0, h]
      refine tv_iconst (v := 1) (pc := 256) dD_pass_256 (by decide) ?_
      refine tv_icmp_ne (pc := 257) 321 dD_pass_257 (by decide) (fun _ => ?_) (fun h => absurd h (by decide))
      refine tv_aload_n (pc := 321) dD_pass_321 (by rfl) ?_
      refine tv_getR (pc := 322) 2 tb_56 (by rfl) uwD_ (by decide) wm_664 (by rfl) dD_pass_322 ?_
      refine tv_iload_n (pc := 325) dD_pass_325 (by rfl) ?_
      refine tv_iald (pc := 326) tb_57 (by assumption) dD_pass_326 ?_
      rw [cl_rs_o (q := 57) (by omega), a0, h]
      refine tv_iconst (v := 5) (pc := 327) dD_pass_327 (by decide) ?_
      refine tv_icmp_ne (pc := 328) 373 dD_pass_328 (by decide) (fun _ => ?_) (fun h => absurd h (by decide))
      refine fin _ _ _ _ _ _ _ (fun j hj => ?_) (fun j hj => ?_)
      · unfold cl_f; simp [h, n1]
      · unfold cl_g tp_sh; simp [h, n1]
    · skip
      refine tv_aload_n (pc := 212) dD_pass_212 (by rfl) ?_
      refine tv_getR (pc := 213) 2 tb_56 (by rfl) uwD_ (by decide) wm_664 (by rfl) dD_pass_213 ?_
      refine tv_iload_n (pc := 216) dD_pass_216 (by rfl) ?_
      refine tv_iald (pc := 217) tb_57 (by assumption) dD_pass_217 ?_
      rw [cl_rs_o (q := 57) (by omega), a0, h]
      refine tv_if_eq (pc := 218) 231 dD_pass_218 (by decide) (fun h => absurd h (by decide)) (fun _ => ?_)
      refine tv_aload_n (pc := 221) dD_pass_221 (by rfl) ?_
      refine tv_getR (pc := 222) 2 tb_56 (by rfl) uwD_ (by decide) wm_664 (by rfl) dD_pass_222 ?_
      refine tv_iload_n (pc := 225) dD_pass_225 (by rfl) ?_
      refine tv_iald (pc := 226) tb_57 (by assumption) dD_pass_226 ?_
      rw [cl_rs_o (q := 57) (by omega), a0, h]
      refine tv_iconst (v := 2) (pc := 227) dD_pass_227 (by decide) ?_
      refine tv_icmp_ne (pc := 228) 250 dD_pass_228 (by decide) (fun _ => ?_) (fun h => absurd h (by decide))
      refine tv_aload_n (pc := 250) dD_pass_250 (by rfl) ?_
      refine tv_getR (pc := 251) 2 tb_56 (by rfl) uwD_ (by decide) wm_664 (by rfl) dD_pass_251 ?_
      refine tv_iload_n (pc := 254) dD_pass_254 (by rfl) ?_
      refine tv_iald (pc := 255) tb_57 (by assumption) dD_pass_255 ?_
      rw [cl_rs_o (q := 57) (by omega), a0, h]
      refine tv_iconst (v := 1) (pc := 256) dD_pass_256 (by decide) ?_
      refine tv_icmp_ne (pc := 257) 321 dD_pass_257 (by decide) (fun _ => ?_) (fun h => absurd h (by decide))
      refine tv_aload_n (pc := 321) dD_pass_321 (by rfl) ?_
      refine tv_getR (pc := 322) 2 tb_56 (by rfl) uwD_ (by decide) wm_664 (by rfl) dD_pass_322 ?_
      refine tv_iload_n (pc := 325) dD_pass_325 (by rfl) ?_
      refine tv_iald (pc := 326) tb_57 (by assumption) dD_pass_326 ?_
      rw [cl_rs_o (q := 57) (by omega), a0, h]
      refine tv_iconst (v := 5) (pc := 327) dD_pass_327 (by decide) ?_
      refine tv_icmp_ne (pc := 328) 373 dD_pass_328 (by decide) (fun _ => ?_) (fun h => absurd h (by decide))
      refine fin _ _ _ _ _ _ _ (fun j hj => ?_) (fun j hj => ?_)
      · unfold cl_f; simp [h, n1]
      · unfold cl_g tp_sh; simp [h, n1]
    · skip
      refine tv_aload_n (pc := 212) dD_pass_212 (by rfl) ?_
      refine tv_getR (pc := 213) 2 tb_56 (by rfl) uwD_ (by decide) wm_664 (by rfl) dD_pass_213 ?_
      refine tv_iload_n (pc := 216) dD_pass_216 (by rfl) ?_
      refine tv_iald (pc := 217) tb_57 (by assumption) dD_pass_217 ?_
      rw [cl_rs_o (q := 57) (by omega), a0, h]
      refine tv_if_eq (pc := 218) 231 dD_pass_218 (by decide) (fun h => absurd h (by decide)) (fun _ => ?_)
      refine tv_aload_n (pc := 221) dD_pass_221 (by rfl) ?_
      refine tv_getR (pc := 222) 2 tb_56 (by rfl) uwD_ (by decide) wm_664 (by rfl) dD_pass_222 ?_
      refine tv_iload_n (pc := 225) dD_pass_225 (by rfl) ?_
      refine tv_iald (pc := 226) tb_57 (by assumption) dD_pass_226 ?_
      rw [cl_rs_o (q := 57) (by omega), a0, h]
      refine tv_iconst (v := 2) (pc := 227) dD_pass_227 (by decide) ?_
      refine tv_icmp_ne (pc := 228) 250 dD_pass_228 (by decide) (fun _ => ?_) (fun h => absurd h (by decide))
      refine tv_aload_n (pc := 250) dD_pass_250 (by rfl) ?_
      refine tv_getR (pc := 251) 2 tb_56 (by rfl) uwD_ (by decide) wm_664 (by rfl) dD_pass_251 ?_
      refine tv_iload_n (pc := 254) dD_pass_254 (by rfl) ?_
      refine tv_iald (pc := 255) tb_57 (by assumption) dD_pass_255 ?_
      rw [cl_rs_o (q := 57) (by omega), a0, h]
      refine tv_iconst (v := 1) (pc := 256) dD_pass_256 (by decide) ?_
      refine tv_icmp_ne (pc := 257) 321 dD_pass_257 (by decide) (fun _ => ?_) (fun h => absurd h (by decide))
      refine tv_aload_n (pc := 321) dD_pass_321 (by rfl) ?_
      refine tv_getR (pc := 322) 2 tb_56 (by rfl) uwD_ (by decide) wm_664 (by rfl) dD_pass_322 ?_
      refine tv_iload_n (pc := 325) dD_pass_325 (by rfl) ?_
      refine tv_iald (pc := 326) tb_57 (by assumption) dD_pass_326 ?_
      rw [cl_rs_o (q := 57) (by omega), a0, h]
      refine tv_iconst (v := 5) (pc := 327) dD_pass_327 (by decide) ?_
      refine tv_icmp_ne (pc := 328) 373 dD_pass_328 (by decide) (fun _ => ?_) (fun h => absurd h (by decide))
      refine fin _ _ _ _ _ _ _ (fun j hj => ?_) (fun j hj => ?_)
      · unfold cl_f; simp [h, n1]
      · unfold cl_g tp_sh; simp [h, n1]
    · skip
      obtain ⟨r2, hr2, er2⟩ := hl.2.2.1 (by first | exact Or.inl h | exact Or.inr (Or.inr h))
      have n2 : tp_n (pm u 0 2 i) = r2 := by rw [er2]; exact nI_clamp (by omega)
      have x2 : tc_ix (pm u 0 2 i) 9 r2 := by rw [er2]; exact tc_ixN (by omega) (by decide)
      have x2b : tc_ix (9 * nI i + pm u 0 2 i) 153 (9 * i + r2) := by rw [er2]; exact ix153 (by omega) (by omega)
      obtain ⟨r3, hr3, er3⟩ := hl.2.2.2.2.2 h
      have e31 : r3 = r1 := by rw [er1] at er3; exact ((nI_eq (by omega) (by omega)).mp er3).symm
      have x6 : tc_ix (6 + pm u 0 1 i) 9 (6 + r1) := by rw [er1, show (6 : Int32) = nI 6 from rfl, nI_add]; exact tc_ixN (by omega) (by decide)
      refine tv_aload_n (pc := 212) dD_pass_212 (by rfl) ?_
      refine tv_getR (pc := 213) 2 tb_56 (by rfl) uwD_ (by decide) wm_664 (by rfl) dD_pass_213 ?_
      refine tv_iload_n (pc := 216) dD_pass_216 (by rfl) ?_
      refine tv_iald (pc := 217) tb_57 (by assumption) dD_pass_217 ?_
      rw [cl_rs_o (q := 57) (by omega), a0, h]
      refine tv_if_eq (pc := 218) 231 dD_pass_218 (by decide) (fun h => absurd h (by decide)) (fun _ => ?_)
      refine tv_aload_n (pc := 221) dD_pass_221 (by rfl) ?_
      refine tv_getR (pc := 222) 2 tb_56 (by rfl) uwD_ (by decide) wm_664 (by rfl) dD_pass_222 ?_
      refine tv_iload_n (pc := 225) dD_pass_225 (by rfl) ?_
      refine tv_iald (pc := 226) tb_57 (by assumption) dD_pass_226 ?_
      rw [cl_rs_o (q := 57) (by omega), a0, h]
      refine tv_iconst (v := 2) (pc := 227) dD_pass_227 (by decide) ?_
      refine tv_icmp_ne (pc := 228) 250 dD_pass_228 (by decide) (fun _ => ?_) (fun h => absurd h (by decide))
      refine tv_aload_n (pc := 250) dD_pass_250 (by rfl) ?_
      refine tv_getR (pc := 251) 2 tb_56 (by rfl) uwD_ (by decide) wm_664 (by rfl) dD_pass_251 ?_
      refine tv_iload_n (pc := 254) dD_pass_254 (by rfl) ?_
      refine tv_iald (pc := 255) tb_57 (by assumption) dD_pass_255 ?_
      rw [cl_rs_o (q := 57) (by omega), a0, h]
      refine tv_iconst (v := 1) (pc := 256) dD_pass_256 (by decide) ?_
      refine tv_icmp_ne (pc := 257) 321 dD_pass_257 (by decide) (fun _ => ?_) (fun h => absurd h (by decide))
      refine tv_aload_n (pc := 321) dD_pass_321 (by rfl) ?_
      refine tv_getR (pc := 322) 2 tb_56 (by rfl) uwD_ (by decide) wm_664 (by rfl) dD_pass_322 ?_
      refine tv_iload_n (pc := 325) dD_pass_325 (by rfl) ?_
      refine tv_iald (pc := 326) tb_57 (by assumption) dD_pass_326 ?_
      rw [cl_rs_o (q := 57) (by omega), a0, h]
      refine tv_iconst (v := 5) (pc := 327) dD_pass_327 (by decide) ?_
      refine tv_icmp_ne (pc := 328) 373 dD_pass_328 (by decide) (fun h => absurd h (fun q => q rfl)) (fun _ => ?_)
      refine tv_aload_n (pc := 331) dD_pass_331 (by rfl) ?_
      refine tv_getR (pc := 332) 17 tb_56 (by rfl) uwD_ (by decide) wm_679 (by rfl) dD_pass_332 ?_
      refine tv_bipush (v := 6) (pc := 335) dD_pass_335 (by decide) ?_
      refine tv_iload (pc := 337) dD_pass_337 (by rfl) ?_
      refine tv_iadd (pc := 339) dD_pass_339 ?_
      refine tv_aload_n (pc := 340) dD_pass_340 (by rfl) ?_
      refine tv_getR (pc := 341) 17 tb_56 (by rfl) uwD_ (by decide) wm_679 (by rfl) dD_pass_341 ?_
      refine tv_aload_n (pc := 344) dD_pass_344 (by rfl) ?_
      refine tv_getR (pc := 345) 4 tb_56 (by rfl) uwD_ (by decide) wm_666 (by rfl) dD_pass_345 ?_
      refine tv_iload_n (pc := 348) dD_pass_348 (by rfl) ?_
      refine tv_iald (pc := 349) tb_59 (by assumption) dD_pass_349 ?_
      rw [cl_rs_o (q := 59) (by omega), a2]
      refine tv_iald (pc := 350) tb_70 (by assumption) dD_pass_350 ?_
      rw [cl_rs_70 (by omega)]
      refine tv_iast (pc := 351) tb_70 (by assumption) dD_pass_351 ?_
      rw [cl_rs_1 (by omega)]
      refine tv_aload_n (pc := 352) dD_pass_352 (by rfl) ?_
      refine tv_getR (pc := 353) 18 tb_56 (by rfl) uwD_ (by decide) wm_680 (by rfl) dD_pass_353 ?_
      refine tv_bipush (v := 6) (pc := 356) dD_pass_356 (by decide) ?_
      refine tv_iload (pc := 358) dD_pass_358 (by rfl) ?_
      refine tv_iadd (pc := 360) dD_pass_360 ?_
      refine tv_aload_n (pc := 361) dD_pass_361 (by rfl) ?_
      refine tv_getR (pc := 362) 18 tb_56 (by rfl) uwD_ (by decide) wm_680 (by rfl) dD_pass_362 ?_
      refine tv_aload_n (pc := 365) dD_pass_365 (by rfl) ?_
      refine tv_getR (pc := 366) 4 tb_56 (by rfl) uwD_ (by decide) wm_666 (by rfl) dD_pass_366 ?_
      refine tv_iload_n (pc := 369) dD_pass_369 (by rfl) ?_
      refine tv_iald (pc := 370) tb_59 (by assumption) dD_pass_370 ?_
      rw [cl_rs_o (q := 59) (by omega), a2]
      refine tv_iald (pc := 371) tb_71 (by assumption) dD_pass_371 ?_
      rw [cl_rs_71 (by omega)]
      refine tv_iast (pc := 372) tb_71 (by assumption) dD_pass_372 ?_
      rw [cl_rs_2 (by omega)]
      refine fin _ _ _ _ _ _ _ (fun j hj => ?_) (fun j hj => ?_)
      · unfold cl_f; simp [h, n1, n2]
      · unfold cl_g; simp [h, n1, n2]
  have r184 : ∀ z2 z4 z5 z6 : Option Value, tc_V tcx G p l e r0D_pass s m args below meth c bD_pass 7 tw "TracedCodeModel" none [] (MQ below (tc_Qc tcx G (tc_Kv (cl_ps i u)) s.heap.size) args s 0 0 (tc_A tcx G s.heap.size)) 0 0 (cl_rs u (cl_T u i) (cl_O u i) 9) 184 [some (.ref (tc_ad G 56)), some (.int (nI i)), z2, some (.int (if pm u 16 0 i = -1 then 0 else 1)), z4, z5, z6] [] := by
    intro z2 z4 z5 z6
    refine tv_aload_n (pc := 184) dD_pass_184 (by rfl) ?_
    refine tv_getR (pc := 185) 3 tb_56 (by rfl) uwD_ (by decide) wm_665 (by rfl) dD_pass_185 ?_
    refine tv_iload_n (pc := 188) dD_pass_188 (by rfl) ?_
    refine tv_iald (pc := 189) tb_58 (by assumption) dD_pass_189 ?_
    rw [cl_rs_o (q := 58) (by omega), a1]
    refine tv_istore4 (pc := 190) dD_pass_190 (by rfl) ?_
    refine tv_iload_n (pc := 192) dD_pass_192 (by rfl) ?_
    refine tv_if_eq (pc := 193) 208 dD_pass_193 (by decide) (fun h193 => ?_) (fun h193 => ?_)
    · skip
      refine tv_bipush (v := 63) (pc := 208) dD_pass_208 (by decide) ?_
      refine tv_istore5 (pc := 210) dD_pass_210 (by rfl) ?_
      first
      | (have hq : ¬ pm u 16 0 i = -1 := if10n' (by assumption)
         have hz := r212 z2 z6
         rw [if_neg hq, if_neg hq] at hz
         rw [if_neg hq]
         exact hz)
      | (have hq : pm u 16 0 i = -1 := if10' (by assumption)
         have hz := r212 z2 z6
         rw [if_pos hq, if_pos hq] at hz
         rw [if_pos hq]
         exact hz)
    · skip
      refine tv_bipush (v := 63) (pc := 196) dD_pass_196 (by decide) ?_
      refine tv_iconst (v := 1) (pc := 198) dD_pass_198 (by decide) ?_
      refine tv_iload (pc := 199) dD_pass_199 (by rfl) ?_
      refine tv_ishl (pc := 201) dD_pass_201 ?_
      refine tv_iconst (v := (-1)) (pc := 202) dD_pass_202 (by decide) ?_
      refine tv_ixor (pc := 203) dD_pass_203 ?_
      refine tv_iand (pc := 204) dD_pass_204 ?_
      refine tv_goto (pc := 205) 210 dD_pass_205 (by decide) ?_
      refine tv_istore5 (pc := 210) dD_pass_210 (by rfl) ?_
      first
      | (have hq : ¬ pm u 16 0 i = -1 := if10n' (by assumption)
         have hz := r212 z2 z6
         rw [if_neg hq, if_neg hq] at hz
         rw [if_neg hq]
         exact hz)
      | (have hq : pm u 16 0 i = -1 := if10' (by assumption)
         have hz := r212 z2 z6
         rw [if_pos hq, if_pos hq] at hz
         rw [if_pos hq]
         exact hz)
  have rB : ¬ pm u 16 0 i < 0 → ¬ 2 < pm u 16 0 i → ∀ (d r : Nat) (z6 : Option Value), r + d = 9 → tc_V tcx G p l e r0D_pass s m args below meth c bD_pass 7 tw "TracedCodeModel" none [] (MQ below (tc_Qc tcx G (tc_Kv (cl_ps i u)) s.heap.size) args s 0 0 (tc_A tcx G s.heap.size)) 0 0 (cl_rs u (fun j => if j < r then cl_T u i j else cl_L u i j) (cl_O u i) 9) 94 [some (.ref (tc_ad G 56)), some (.int (nI i)), some (.int (pm u 16 0 i)), some (.int (if pm u 16 0 i = -1 then 0 else 1)), some (.int (tp_sh (pm u 16 1 i))), some (.int (nI r)), z6] [] := by
    intro hk0 hk2 d
    induction d with
    | zero =>
      intro r z6 hd
      have hr : r = 9 := by omega
      subst hr
      have hz := r184 (some (.int (pm u 16 0 i))) (some (.int (tp_sh (pm u 16 1 i)))) (some (.int (nI 9))) z6
      rw [cl_rs_c (f := fun j => if j < 9 then cl_T u i j else cl_L u i j) (f' := cl_T u i) (fun j hj => if_pos hj) (fun j _ => rfl)]
      refine tv_iload (pc := 94) dD_pass_94 (by rfl) ?_
      refine tv_bipush (v := 9) (pc := 96) dD_pass_96 (by decide) ?_
      refine tv_icmp_ge (pc := 98) 184 dD_pass_98 (by decide) (fun _ => ?_) (fun h => absurd (by decide) h)
      exact hz
    | succ d ih =>
      intro r z6 hd
      have hr9 : tc_ix (nI r) 9 r := tc_ixN (by omega) (by decide)
      have hr153 := ix153 (i := i) (r := r) (by omega) (by omega)
      have el : (cl_rs u (fun j => if j < r then cl_T u i j else cl_L u i j) (cl_O u i) 9) 70 r = cl_L u i r := by rw [cl_rs_70 (by omega), if_neg (by omega)]
      have nx : ∀ (z6 : Option Value) (x : Int32), x = cl_T u i r → tc_V tcx G p l e r0D_pass s m args below meth c bD_pass 7 tw "TracedCodeModel" none [] (MQ below (tc_Qc tcx G (tc_Kv (cl_ps i u)) s.heap.size) args s 0 0 (tc_A tcx G s.heap.size)) 0 0 (tc_up (cl_rs u (fun j => if j < r then cl_T u i j else cl_L u i j) (cl_O u i) 9) 70 r x) 178 [some (.ref (tc_ad G 56)), some (.int (nI i)), some (.int (pm u 16 0 i)), some (.int (if pm u 16 0 i = -1 then 0 else 1)), some (.int (tp_sh (pm u 16 1 i))), some (.int (nI r)), z6] [] := by
        intro z6 x hx
        have hz := ih (r + 1) z6 (by omega)
        rw [cl_rs_1 (by omega), cl_rs_c (f := fun j => if j = r then x else if j < r then cl_T u i j else cl_L u i j) (f' := fun j => if j < r + 1 then cl_T u i j else cl_L u i j) (fun j hj => ?_) (fun j _ => rfl)]
        · rw [← nI_1] at hz
          refine tv_iinc5 (v := 1) (pc := 178) dD_pass_178 (by decide) (by rfl) ?_
          refine tv_goto (pc := 181) 94 dD_pass_181 (by decide) ?_
          exact hz
        · by_cases e : j = r
          · rw [if_pos e, if_pos (by omega), hx, e]
          · rw [if_neg e]
            by_cases q : j < r
            · rw [if_pos q, if_pos (by omega)]
            · rw [if_neg q, if_neg (by omega)]
      refine tv_iload (pc := 94) dD_pass_94 (by rfl) ?_
      refine tv_bipush (v := 9) (pc := 96) dD_pass_96 (by decide) ?_
      refine tv_icmp_ge (pc := 98) 184 dD_pass_98 (by decide) (fun h => absurd h (nI_lt9 (by omega))) (fun _ => ?_)
      refine tv_iload_n (pc := 101) dD_pass_101 (by rfl) ?_
      refine tv_iconst (v := 1) (pc := 102) dD_pass_102 (by decide) ?_
      refine tv_icmp_ne (pc := 103) 134 dD_pass_103 (by decide) (fun h103 => ?_) (fun h103 => ?_)
      · skip
        refine tv_iconst (v := 1) (pc := 134) dD_pass_134 (by decide) ?_
        refine tv_goto (pc := 135) 139 dD_pass_135 (by decide) ?_
        refine tv_istore6 (pc := 139) dD_pass_139 (by rfl) ?_
        first
        | (have hc : ¬ pm u 16 0 i = 1 := (by assumption)
           have hT : cl_T u i r = cl_L u i r ||| tp_sh (pm u 16 1 i) := by unfold cl_T cl_t; rw [if_pos ⟨hk0, hk2⟩, if_pos (Or.inl hc)])
        | (have hc0 : (u 68 (9 * i + r) >>> (pm u 16 2 i &&& 31)) &&& 1 = 1 := (by assumption)
           have hc : (cl_L u i r >>> (pm u 16 2 i &&& 31)) &&& 1 = 1 := hc0
           have hT : cl_T u i r = cl_L u i r ||| tp_sh (pm u 16 1 i) := by unfold cl_T cl_t; rw [if_pos ⟨hk0, hk2⟩, if_pos (Or.inr hc)])
        | (have hc0 : ¬ (u 68 (9 * i + r) >>> (pm u 16 2 i &&& 31)) &&& 1 = 1 := (by assumption)
           have hc : ¬ (cl_L u i r >>> (pm u 16 2 i &&& 31)) &&& 1 = 1 := hc0
           have hk1 : pm u 16 0 i = 1 := (by assumption)
           have hT : cl_T u i r = cl_L u i r &&& (tp_sh (pm u 16 1 i) ^^^ (-1)) := by unfold cl_T cl_t; rw [if_pos ⟨hk0, hk2⟩, if_neg (fun q => q.elim (fun q => q hk1) hc)])
        refine tv_aload_n (pc := 141) dD_pass_141 (by rfl) ?_
        refine tv_getR (pc := 142) 17 tb_56 (by rfl) uwD_ (by decide) wm_679 (by rfl) dD_pass_142 ?_
        refine tv_iload (pc := 145) dD_pass_145 (by rfl) ?_
        refine tv_iload (pc := 147) dD_pass_147 (by rfl) ?_
        refine tv_if_eq (pc := 149) 165 dD_pass_149 (by decide) (fun h => absurd h (by decide)) (fun _ => ?_)
        refine tv_aload_n (pc := 152) dD_pass_152 (by rfl) ?_
        refine tv_getR (pc := 153) 17 tb_56 (by rfl) uwD_ (by decide) wm_679 (by rfl) dD_pass_153 ?_
        refine tv_iload (pc := 156) dD_pass_156 (by rfl) ?_
        refine tv_iald (pc := 158) tb_70 hr9 dD_pass_158 ?_
        rw [el]
        refine tv_iload (pc := 159) dD_pass_159 (by rfl) ?_
        refine tv_ior (pc := 161) dD_pass_161 ?_
        refine tv_goto (pc := 162) 177 dD_pass_162 (by decide) ?_
        refine tv_iast (pc := 177) tb_70 hr9 dD_pass_177 ?_
        exact nx _ _ hT.symm
      · skip
        refine tv_aload_n (pc := 106) dD_pass_106 (by rfl) ?_
        refine tv_getR (pc := 107) 15 tb_56 (by rfl) uwD_ (by decide) wm_677 (by rfl) dD_pass_107 ?_
        refine tv_bipush (v := 9) (pc := 110) dD_pass_110 (by decide) ?_
        refine tv_iload_n (pc := 112) dD_pass_112 (by rfl) ?_
        refine tv_imul (pc := 113) dD_pass_113 ?_
        refine tv_iload (pc := 114) dD_pass_114 (by rfl) ?_
        refine tv_iadd (pc := 116) dD_pass_116 ?_
        refine tv_iald (pc := 117) tb_68 (by assumption) dD_pass_117 ?_
        rw [cl_rs_o (q := 68) (by omega)]
        refine tv_aload_n (pc := 118) dD_pass_118 (by rfl) ?_
        refine tv_getR (pc := 119) 4 tb_56 (by rfl) uwD_ (by decide) wm_666 (by rfl) dD_pass_119 ?_
        refine tv_bipush (v := 16) (pc := 122) dD_pass_122 (by decide) ?_
        refine tv_iload_n (pc := 124) dD_pass_124 (by rfl) ?_
        refine tv_iadd (pc := 125) dD_pass_125 ?_
        refine tv_iald (pc := 126) tb_59 (by assumption) dD_pass_126 ?_
        rw [cl_rs_o (q := 59) (by omega), b2]
        refine tv_ishr (pc := 127) dD_pass_127 ?_
        refine tv_iconst (v := 1) (pc := 128) dD_pass_128 (by decide) ?_
        refine tv_iand (pc := 129) dD_pass_129 ?_
        refine tv_iconst (v := 1) (pc := 130) dD_pass_130 (by decide) ?_
        refine tv_icmp_ne (pc := 131) 138 dD_pass_131 (by decide) (fun h131 => ?_) (fun h131 => ?_)
        · skip
          refine tv_iconst (v := 0) (pc := 138) dD_pass_138 (by decide) ?_
          refine tv_istore6 (pc := 139) dD_pass_139 (by rfl) ?_
          first
          | (have hc : ¬ pm u 16 0 i = 1 := (by assumption)
             have hT : cl_T u i r = cl_L u i r ||| tp_sh (pm u 16 1 i) := by unfold cl_T cl_t; rw [if_pos ⟨hk0, hk2⟩, if_pos (Or.inl hc)])
          | (have hc0 : (u 68 (9 * i + r) >>> (pm u 16 2 i &&& 31)) &&& 1 = 1 := (by assumption)
             have hc : (cl_L u i r >>> (pm u 16 2 i &&& 31)) &&& 1 = 1 := hc0
             have hT : cl_T u i r = cl_L u i r ||| tp_sh (pm u 16 1 i) := by unfold cl_T cl_t; rw [if_pos ⟨hk0, hk2⟩, if_pos (Or.inr hc)])
          | (have hc0 : ¬ (u 68 (9 * i + r) >>> (pm u 16 2 i &&& 31)) &&& 1 = 1 := (by assumption)
             have hc : ¬ (cl_L u i r >>> (pm u 16 2 i &&& 31)) &&& 1 = 1 := hc0
             have hk1 : pm u 16 0 i = 1 := (by assumption)
             have hT : cl_T u i r = cl_L u i r &&& (tp_sh (pm u 16 1 i) ^^^ (-1)) := by unfold cl_T cl_t; rw [if_pos ⟨hk0, hk2⟩, if_neg (fun q => q.elim (fun q => q hk1) hc)])
          refine tv_aload_n (pc := 141) dD_pass_141 (by rfl) ?_
          refine tv_getR (pc := 142) 17 tb_56 (by rfl) uwD_ (by decide) wm_679 (by rfl) dD_pass_142 ?_
          refine tv_iload (pc := 145) dD_pass_145 (by rfl) ?_
          refine tv_iload (pc := 147) dD_pass_147 (by rfl) ?_
          refine tv_if_eq (pc := 149) 165 dD_pass_149 (by decide) (fun _ => ?_) (fun h => absurd (by decide) h)
          refine tv_aload_n (pc := 165) dD_pass_165 (by rfl) ?_
          refine tv_getR (pc := 166) 17 tb_56 (by rfl) uwD_ (by decide) wm_679 (by rfl) dD_pass_166 ?_
          refine tv_iload (pc := 169) dD_pass_169 (by rfl) ?_
          refine tv_iald (pc := 171) tb_70 hr9 dD_pass_171 ?_
          rw [el]
          refine tv_iload (pc := 172) dD_pass_172 (by rfl) ?_
          refine tv_iconst (v := (-1)) (pc := 174) dD_pass_174 (by decide) ?_
          refine tv_ixor (pc := 175) dD_pass_175 ?_
          refine tv_iand (pc := 176) dD_pass_176 ?_
          refine tv_iast (pc := 177) tb_70 hr9 dD_pass_177 ?_
          exact nx _ _ hT.symm
        · skip
          refine tv_iconst (v := 1) (pc := 134) dD_pass_134 (by decide) ?_
          refine tv_goto (pc := 135) 139 dD_pass_135 (by decide) ?_
          refine tv_istore6 (pc := 139) dD_pass_139 (by rfl) ?_
          first
          | (have hc : ¬ pm u 16 0 i = 1 := (by assumption)
             have hT : cl_T u i r = cl_L u i r ||| tp_sh (pm u 16 1 i) := by unfold cl_T cl_t; rw [if_pos ⟨hk0, hk2⟩, if_pos (Or.inl hc)])
          | (have hc0 : (u 68 (9 * i + r) >>> (pm u 16 2 i &&& 31)) &&& 1 = 1 := (by assumption)
             have hc : (cl_L u i r >>> (pm u 16 2 i &&& 31)) &&& 1 = 1 := hc0
             have hT : cl_T u i r = cl_L u i r ||| tp_sh (pm u 16 1 i) := by unfold cl_T cl_t; rw [if_pos ⟨hk0, hk2⟩, if_pos (Or.inr hc)])
          | (have hc0 : ¬ (u 68 (9 * i + r) >>> (pm u 16 2 i &&& 31)) &&& 1 = 1 := (by assumption)
             have hc : ¬ (cl_L u i r >>> (pm u 16 2 i &&& 31)) &&& 1 = 1 := hc0
             have hk1 : pm u 16 0 i = 1 := (by assumption)
             have hT : cl_T u i r = cl_L u i r &&& (tp_sh (pm u 16 1 i) ^^^ (-1)) := by unfold cl_T cl_t; rw [if_pos ⟨hk0, hk2⟩, if_neg (fun q => q.elim (fun q => q hk1) hc)])
          refine tv_aload_n (pc := 141) dD_pass_141 (by rfl) ?_
          refine tv_getR (pc := 142) 17 tb_56 (by rfl) uwD_ (by decide) wm_679 (by rfl) dD_pass_142 ?_
          refine tv_iload (pc := 145) dD_pass_145 (by rfl) ?_
          refine tv_iload (pc := 147) dD_pass_147 (by rfl) ?_
          refine tv_if_eq (pc := 149) 165 dD_pass_149 (by decide) (fun h => absurd h (by decide)) (fun _ => ?_)
          refine tv_aload_n (pc := 152) dD_pass_152 (by rfl) ?_
          refine tv_getR (pc := 153) 17 tb_56 (by rfl) uwD_ (by decide) wm_679 (by rfl) dD_pass_153 ?_
          refine tv_iload (pc := 156) dD_pass_156 (by rfl) ?_
          refine tv_iald (pc := 158) tb_70 hr9 dD_pass_158 ?_
          rw [el]
          refine tv_iload (pc := 159) dD_pass_159 (by rfl) ?_
          refine tv_ior (pc := 161) dD_pass_161 ?_
          refine tv_goto (pc := 162) 177 dD_pass_162 (by decide) ?_
          refine tv_iast (pc := 177) tb_70 hr9 dD_pass_177 ?_
          exact nx _ _ hT.symm
  have r69 : tc_V tcx G p l e r0D_pass s m args below meth c bD_pass 7 tw "TracedCodeModel" none [] (MQ below (tc_Qc tcx G (tc_Kv (cl_ps i u)) s.heap.size) args s 0 0 (tc_A tcx G s.heap.size)) 0 0 (cl_rs u (cl_L u i) (cl_O u i) 9) 69 [some (.ref (tc_ad G 56)), some (.int (nI i)), some (.int (pm u 16 0 i)), some (.int (if pm u 16 0 i = -1 then 0 else 1)), none, none, none] [] := by
    have hz0 := r184 (some (.int (pm u 16 0 i))) none none none
    refine tv_iload_n (pc := 69) dD_pass_69 (by rfl) ?_
    refine tv_if_lt (pc := 70) 184 dD_pass_70 (by decide) (fun h70 => ?_) (fun h70 => ?_)
    · skip
      first
      | (have hT : ∀ j, j < 9 → cl_T u i j = cl_L u i j := fun j _ => by unfold cl_T cl_t; rw [if_neg (fun q => q.2 (by assumption))]
         rw [cl_rs_c (f := cl_T u i) (f' := cl_L u i) hT (fun j _ => rfl)] at hz0
         exact hz0)
      | (have hT : ∀ j, j < 9 → cl_T u i j = cl_L u i j := fun j _ => by unfold cl_T cl_t; rw [if_neg (fun q => q.1 (by assumption))]
         rw [cl_rs_c (f := cl_T u i) (f' := cl_L u i) hT (fun j _ => rfl)] at hz0
         exact hz0)
    · skip
      refine tv_iload_n (pc := 73) dD_pass_73 (by rfl) ?_
      refine tv_iconst (v := 2) (pc := 74) dD_pass_74 (by decide) ?_
      refine tv_icmp_gt (pc := 75) 184 dD_pass_75 (by decide) (fun h75 => ?_) (fun h75 => ?_)
      · skip
        first
        | (have hT : ∀ j, j < 9 → cl_T u i j = cl_L u i j := fun j _ => by unfold cl_T cl_t; rw [if_neg (fun q => q.2 (by assumption))]
           rw [cl_rs_c (f := cl_T u i) (f' := cl_L u i) hT (fun j _ => rfl)] at hz0
           exact hz0)
        | (have hT : ∀ j, j < 9 → cl_T u i j = cl_L u i j := fun j _ => by unfold cl_T cl_t; rw [if_neg (fun q => q.1 (by assumption))]
           rw [cl_rs_c (f := cl_T u i) (f' := cl_L u i) hT (fun j _ => rfl)] at hz0
           exact hz0)
      · skip
        refine tv_iconst (v := 1) (pc := 78) dD_pass_78 (by decide) ?_
        refine tv_aload_n (pc := 79) dD_pass_79 (by rfl) ?_
        refine tv_getR (pc := 80) 3 tb_56 (by rfl) uwD_ (by decide) wm_665 (by rfl) dD_pass_80 ?_
        refine tv_bipush (v := 16) (pc := 83) dD_pass_83 (by decide) ?_
        refine tv_iload_n (pc := 85) dD_pass_85 (by rfl) ?_
        refine tv_iadd (pc := 86) dD_pass_86 ?_
        refine tv_iald (pc := 87) tb_58 (by assumption) dD_pass_87 ?_
        rw [cl_rs_o (q := 58) (by omega), b1]
        refine tv_ishl (pc := 88) dD_pass_88 ?_
        refine tv_istore4 (pc := 89) dD_pass_89 (by rfl) ?_
        refine tv_iconst (v := 0) (pc := 91) dD_pass_91 (by decide) ?_
        refine tv_istore5 (pc := 92) dD_pass_92 (by rfl) ?_
        have hz := rB (by assumption) (by assumption) 9 0 none (by omega)
        rw [cl_rs_c (f := fun j => if j < 0 then cl_T u i j else cl_L u i j) (f' := cl_L u i) (fun j _ => if_neg (by omega)) (fun j _ => rfl)] at hz
        exact hz
  have rA : tc_V tcx G p l e r0D_pass s m args below meth c bD_pass 7 tw "TracedCodeModel" none [] (MQ below (tc_Qc tcx G (tc_Kv (cl_ps i u)) s.heap.size) args s 0 0 (tc_A tcx G s.heap.size)) 0 0 (cl_rs u (cl_L u i) (cl_O u i) 0) 2 [some (.ref (tc_ad G 56)), some (.int (nI i)), some (.int (nI 0)), none, none, none, none] [] := by
    refine tv_down (P := fun i0 => tc_V tcx G p l e r0D_pass s m args below meth c bD_pass 7 tw "TracedCodeModel" none [] (MQ below (tc_Qc tcx G (tc_Kv (cl_ps i u)) s.heap.size) args s 0 0 (tc_A tcx G s.heap.size)) 0 0 (cl_rs u (cl_L u i) (cl_O u i) i0) 2 [some (.ref (tc_ad G 56)), some (.int (nI i)), some (.int (nI i0)), none, none, none, none] []) 9 ?_ ?_
    · skip
      refine tv_iload_n (pc := 2) dD_pass_2 (by rfl) ?_
      refine tv_bipush (v := 9) (pc := 3) dD_pass_3 (by decide) ?_
      refine tv_icmp_ge (pc := 5) 48 dD_pass_5 (by decide) (fun _ => ?_) (fun h => absurd (by decide) h)
      refine tv_aload_n (pc := 48) dD_pass_48 (by rfl) ?_
      refine tv_getR (pc := 49) 2 tb_56 (by rfl) uwD_ (by decide) wm_664 (by rfl) dD_pass_49 ?_
      refine tv_bipush (v := 16) (pc := 52) dD_pass_52 (by decide) ?_
      refine tv_iload_n (pc := 54) dD_pass_54 (by rfl) ?_
      refine tv_iadd (pc := 55) dD_pass_55 ?_
      refine tv_iald (pc := 56) tb_57 (by assumption) dD_pass_56 ?_
      rw [cl_rs_o (q := 57) (by omega), b0]
      refine tv_istore2 (pc := 57) dD_pass_57 (by rfl) ?_
      refine tv_iload_n (pc := 58) dD_pass_58 (by rfl) ?_
      refine tv_iconst (v := (-1)) (pc := 59) dD_pass_59 (by decide) ?_
      refine tv_icmp_eq (pc := 60) 67 dD_pass_60 (by decide) (fun h60 => ?_) (fun h60 => ?_)
      · skip
        refine tv_iconst (v := 0) (pc := 67) dD_pass_67 (by decide) ?_
        refine tv_istore3 (pc := 68) dD_pass_68 (by rfl) ?_
        first
        | (have hq : ¬ pm u 16 0 i = -1 := (by assumption)
           rw [if_neg hq] at r69
           exact r69)
        | (have hq : pm u 16 0 i = -1 := (by assumption)
           rw [if_pos hq] at r69
           exact r69)
      · skip
        refine tv_iconst (v := 1) (pc := 63) dD_pass_63 (by decide) ?_
        refine tv_goto (pc := 64) 68 dD_pass_64 (by decide) ?_
        refine tv_istore3 (pc := 68) dD_pass_68 (by rfl) ?_
        first
        | (have hq : ¬ pm u 16 0 i = -1 := (by assumption)
           rw [if_neg hq] at r69
           exact r69)
        | (have hq : pm u 16 0 i = -1 := (by assumption)
           rw [if_pos hq] at r69
           exact r69)
    · intro r hr ih
      have hr9 : tc_ix (nI r) 9 r := tc_ixN hr (by decide)
      have hr153 := ix153 (i := i) (r := r) (by omega) hr
      have c1 : (cl_rs u (cl_L u i) (cl_O u i) r) 68 (9 * i + r) = cl_L u i r := by rw [cl_rs_o (by omega)]; rfl
      have c2 : (tc_up (cl_rs u (cl_L u i) (cl_O u i) r) 70 r (cl_L u i r)) 69 (9 * i + r) = cl_O u i r := by rw [tc_up_ne (by decide), cl_rs_o (by omega)]; rfl
      rw [← cl_rs_s, ← nI_1] at ih
      refine tv_iload_n (pc := 2) dD_pass_2 (by rfl) ?_
      refine tv_bipush (v := 9) (pc := 3) dD_pass_3 (by decide) ?_
      refine tv_icmp_ge (pc := 5) 48 dD_pass_5 (by decide) (fun h => absurd h (nI_lt9 hr)) (fun _ => ?_)
      refine tv_aload_n (pc := 8) dD_pass_8 (by rfl) ?_
      refine tv_getR (pc := 9) 17 tb_56 (by rfl) uwD_ (by decide) wm_679 (by rfl) dD_pass_9 ?_
      refine tv_iload_n (pc := 12) dD_pass_12 (by rfl) ?_
      refine tv_aload_n (pc := 13) dD_pass_13 (by rfl) ?_
      refine tv_getR (pc := 14) 15 tb_56 (by rfl) uwD_ (by decide) wm_677 (by rfl) dD_pass_14 ?_
      refine tv_bipush (v := 9) (pc := 17) dD_pass_17 (by decide) ?_
      refine tv_iload_n (pc := 19) dD_pass_19 (by rfl) ?_
      refine tv_imul (pc := 20) dD_pass_20 ?_
      refine tv_iload_n (pc := 21) dD_pass_21 (by rfl) ?_
      refine tv_iadd (pc := 22) dD_pass_22 ?_
      refine tv_iald (pc := 23) tb_68 (by assumption) dD_pass_23 ?_
      rw [c1]
      refine tv_iast (pc := 24) tb_70 hr9 dD_pass_24 ?_
      refine tv_aload_n (pc := 25) dD_pass_25 (by rfl) ?_
      refine tv_getR (pc := 26) 18 tb_56 (by rfl) uwD_ (by decide) wm_680 (by rfl) dD_pass_26 ?_
      refine tv_iload_n (pc := 29) dD_pass_29 (by rfl) ?_
      refine tv_aload_n (pc := 30) dD_pass_30 (by rfl) ?_
      refine tv_getR (pc := 31) 16 tb_56 (by rfl) uwD_ (by decide) wm_678 (by rfl) dD_pass_31 ?_
      refine tv_bipush (v := 9) (pc := 34) dD_pass_34 (by decide) ?_
      refine tv_iload_n (pc := 36) dD_pass_36 (by rfl) ?_
      refine tv_imul (pc := 37) dD_pass_37 ?_
      refine tv_iload_n (pc := 38) dD_pass_38 (by rfl) ?_
      refine tv_iadd (pc := 39) dD_pass_39 ?_
      refine tv_iald (pc := 40) tb_69 (by assumption) dD_pass_40 ?_
      rw [c2]
      refine tv_iast (pc := 41) tb_71 hr9 dD_pass_41 ?_
      refine tv_iinc2 (v := 1) (pc := 42) dD_pass_42 (by decide) (by rfl) ?_
      refine tv_goto (pc := 45) 2 dD_pass_45 (by decide) ?_
      exact ih
  rw [cl_rs_0] at rA
  refine tv_iconst (v := 0) (pc := 0) dD_pass_0 (by decide) ?_
  refine tv_istore2 (pc := 1) dD_pass_1 (by rfl) ?_
  exact rA
