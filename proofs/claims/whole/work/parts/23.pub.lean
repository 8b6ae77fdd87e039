theorem tp_b_1 {p : Prop} (h : p) : ¬ tp_b p = 0 := by rw [tp_b_t h]; decide
theorem tp_b_p {p : Prop} (h : ¬ tp_b p = 0) : p := Classical.byContradiction fun q => h (tp_b_f q)
theorem tp_b_q {p : Prop} (h : tp_b p = 0) : ¬ p := fun q => tp_b_1 q h
/-- an int that is not below 0 and below a bound -/
def tq_b (b x : Int32) : Prop := ¬ x < 0 ∧ ¬ b ≤ x
theorem tq_ix {b : Nat} (hb : b < 2 ^ 31) {x : Int32} (h : tq_b (nI b) x) : ∃ a, a < b ∧ x = nI a := by
  obtain ⟨j, hj, e⟩ := nI_of h.1
  refine ⟨j, Classical.byContradiction fun q => h.2 ?_, e⟩
  rw [e]
  exact nI_le (by omega) hj
theorem tq_of {b a : Nat} (hb : b < 2 ^ 31) (h : a < b) : tq_b (nI b) (nI a) := ⟨nI_pos (by omega), nI_ge h hb⟩
set_option maxRecDepth 100000 in
set_option maxHeartbeats 4000000 in
theorem c_T_isPoint (l : Launch) (G : tc_G) (u : tc_S) {n : Nat} (hs : u 7 1 = nI n) (x : Int32) : tc_C tcx G l yT_isPoint wT_isPoint r0T_isPoint 0 0 [.ref (tc_ad G 0), .int x] u (tc_Ki (tp_b (¬ x < 0 ∧ ¬ nI (n + 1) ≤ x)) u) := by
  refine tw_ofV (own := "TracedCode") [some (.ref (tc_ad G 0)), some (.int x)] (by decide +kernel) rfl (Nat.le_of_ble_eq_true rfl) (by rfl) (fun p e s m args below meth c => ?_)
  refine tv_iload_n (pc := 0) dT_isPoint_0 (by rfl) ?_
  refine tv_aload_n (pc := 1) dT_isPoint_1 (by rfl) ?_
  refine tv_getR (pc := 2) 1 tb_0 (by rfl) uwT_ (by decide) wm_136 (by rfl) dT_isPoint_2 ?_
  refine tv_callVi (pc := 5) [] tb_7 (by rfl) (c_C_size l G u code_7) (kVC_size wm_403 ⟨by decide, by decide⟩) (by rfl) (Nat.le_of_ble_eq_true rfl) dT_isPoint_5 ⟨by decide, by decide⟩ ?_
  refine tv_iconst (v := 1) (pc := 8) dT_isPoint_8 (by decide) ?_
  refine tv_iadd (pc := 9) dT_isPoint_9 ?_
  rw [hs, nI_1]
  refine tv_callSi (pc := 10) [_, _] (c_T_isBelow l G u _ _) (kST_isBelow wm_329 ⟨by decide, by decide⟩) (by rfl) (Nat.le_of_ble_eq_true rfl) dT_isPoint_10 ⟨by decide, by decide⟩ ?_
  exact tv_zret (pc := 13) dT_isPoint_13 rfl (Nat.le_refl _) (Nat.le_refl _) tp_b_z ⟨rfl, rfl⟩
set_option maxRecDepth 100000 in
set_option maxHeartbeats 4000000 in
theorem c_T_requireShortProgram (l : Launch) (G : tc_G) (u : tc_S) (hm : ¬ u 0 5 = 0) : tc_C tcx G l yT_requireShortProgram wT_requireShortProgram r0T_requireShortProgram 0 0 [.ref (tc_ad G 0)] u (tc_Kv u) := by
  refine tw_ofV (own := "TracedCode") [some (.ref (tc_ad G 0))] (by decide +kernel) rfl (Nat.le_of_ble_eq_true rfl) (by rfl) (fun p e s m args below meth c => ?_)
  refine tv_aload_n (pc := 0) dT_requireShortProgram_0 (by rfl) ?_
  refine tv_getI (pc := 1) 5 tb_0 (by rfl) uwT_ (by decide) wm_140 (by rfl) dT_requireShortProgram_1 ?_
  refine tv_callSv (pc := 4) [_] (c_T_requireState l G u hm) (kST_requireState wm_404 ⟨by decide, by decide⟩) (by rfl) (Nat.le_of_ble_eq_true rfl) dT_requireShortProgram_4 ⟨by decide, by decide⟩ ?_
  exact tv_vret (pc := 7) dT_requireShortProgram_7 rfl (Nat.le_refl _) (Nat.le_refl _) ⟨rfl, rfl⟩
set_option maxRecDepth 100000 in
set_option maxHeartbeats 4000000 in
theorem t_T_requireShortProgram (l : Launch) (hl : l.stackTraces = false) (G : tc_G) (u : tc_S) (hm : u 0 5 = 0) : tc_T tcx G l yT_requireShortProgram wT_requireShortProgram r1T_requireShortProgram 1 6 [.ref (tc_ad G 0)] u u "java/lang/IllegalStateException" := by
  refine tw_ofT (own := "TracedCode") [some (.ref (tc_ad G 0))] (by decide +kernel) rfl (Nat.le_of_ble_eq_true rfl) (by rfl) (fun p e s m args below meth c => ?_)
  refine tv_aload_n (pc := 0) dT_requireShortProgram_0 (by rfl) ?_
  refine tv_getI (pc := 1) 5 tb_0 (by rfl) uwT_ (by decide) wm_140 (by rfl) dT_requireShortProgram_1 ?_
  rw [hm]
  exact tv_thrS (pc := 4) [_] (t_T_requireState l hl G u) (kS1T_requireState wm_404 ⟨by decide, by decide⟩) (by rfl) (Nat.le_of_ble_eq_true rfl) dT_requireShortProgram_4 ⟨by decide, by decide⟩ (by decide) (by decide)
/-- a line more -/
def st_app (n : Nat) (k a1 a2 a3 : Int32) (u : tc_S) : tc_S := tc_up (tc_up (tc_up (tc_up (tc_up (tc_up u 0 5 0) (3 + 0) n k) (3 + 1) n a1) (3 + 2) n a2) (3 + 3) n a3) 1 1 (nI (n + 1))
set_option maxRecDepth 100000 in
set_option maxHeartbeats 4000000 in
theorem c_T_newLine (l : Launch) (G : tc_G) (u : tc_S) {n : Nat} (hs : u 1 1 = nI n) (hn : n < 16) (k a1 a2 a3 : Int32) : tc_C tcx G l yT_newLine wT_newLine r0T_newLine 0 0 [.ref (tc_ad G 0), .int k, .int a1, .int a2, .int a3] u (tc_Ki (nI n) (st_app n k a1 a2 a3 u)) := by
  refine tw_ofV (own := "TracedCode") [some (.ref (tc_ad G 0)), some (.int k), some (.int a1), some (.int a2), some (.int a3)] (by decide +kernel) rfl (Nat.le_of_ble_eq_true rfl) (by rfl) (fun p e s m args below meth c => ?_)
  have e1 : (tc_up u 0 5 0) 1 = u 1 := tc_up_ne (by decide)
  have ka := c_C_append l G (tc_up u 0 5 0) code_1 k a1 a2 a3 (i := n) (by rw [e1, hs]; exact tc_ixN hn (by decide))
  rw [e1, hs, nI_1] at ka
  refine tv_aload_n (pc := 0) dT_newLine_0 (by rfl) ?_
  refine tv_getR (pc := 1) 0 tb_0 (by rfl) uwT_ (by decide) wm_135 (by rfl) dT_newLine_1 ?_
  refine tv_callVi (pc := 4) [] tb_1 (by rfl) (c_C_size l G u code_1) (kVC_size wm_403 ⟨by decide, by decide⟩) (by rfl) (Nat.le_of_ble_eq_true rfl) dT_newLine_4 ⟨by decide, by decide⟩ ?_
  refine tv_bipush (v := 16) (pc := 7) dT_newLine_7 (by decide) ?_
  refine tv_icmp_ge (pc := 9) 16 dT_newLine_9 (by decide) (fun h => absurd h (by rw [hs]; exact nI_ge (b := 16) hn (by decide))) (fun _ => ?_)
  refine tv_iconst (v := 1) (pc := 12) dT_newLine_12 (by decide) ?_
  refine tv_goto (pc := 13) 17 dT_newLine_13 (by decide) ?_
  refine tv_callSv (pc := 17) [_] (c_T_requireState l G u (by decide)) (kST_requireState wm_404 ⟨by decide, by decide⟩) (by rfl) (Nat.le_of_ble_eq_true rfl) dT_newLine_17 ⟨by decide, by decide⟩ ?_
  refine tv_aload_n (pc := 20) dT_newLine_20 (by rfl) ?_
  refine tv_iconst (v := 0) (pc := 21) dT_newLine_21 (by decide) ?_
  refine tv_putI (ty := .boolean) (pc := 22) 5 tyT_ tb_0 (by rfl) uwT_ (by decide) wm_140 okT_ nmT_ (by rfl) (by decide +kernel) (by rfl) (by rfl) (by rfl) dT_newLine_22 ?_
  refine tv_aload_n (pc := 25) dT_newLine_25 (by rfl) ?_
  refine tv_getR (pc := 26) 0 tb_0 (by rfl) uwT_ (by decide) wm_135 (by rfl) dT_newLine_26 ?_
  refine tv_iload_n (pc := 29) dT_newLine_29 (by rfl) ?_
  refine tv_iload_n (pc := 30) dT_newLine_30 (by rfl) ?_
  refine tv_iload_n (pc := 31) dT_newLine_31 (by rfl) ?_
  refine tv_iload (pc := 32) dT_newLine_32 (by rfl) ?_
  refine tv_callVi (pc := 34) [_, _, _, _] tb_1 (by rfl) ka (kVC_append wm_422 ⟨by decide, by decide⟩) (by rfl) (Nat.le_of_ble_eq_true rfl) dT_newLine_34 ⟨by decide, by decide⟩ ?_
  exact tv_iret (pc := 37) dT_newLine_37 rfl (Nat.le_refl _) (Nat.le_refl _) ⟨rfl, rfl⟩
set_option maxRecDepth 100000 in
set_option maxHeartbeats 4000000 in
theorem t_T_newLine (l : Launch) (hl : l.stackTraces = false) (G : tc_G) (u : tc_S) {n : Nat} (hs : u 1 1 = nI n) (hn : n = 16) (k a1 a2 a3 : Int32) : tc_T tcx G l yT_newLine wT_newLine r1T_newLine 1 6 [.ref (tc_ad G 0), .int k, .int a1, .int a2, .int a3] u u "java/lang/IllegalStateException" := by
  refine tw_ofT (own := "TracedCode") [some (.ref (tc_ad G 0)), some (.int k), some (.int a1), some (.int a2), some (.int a3)] (by decide +kernel) rfl (Nat.le_of_ble_eq_true rfl) (by rfl) (fun p e s m args below meth c => ?_)
  refine tv_aload_n (pc := 0) dT_newLine_0 (by rfl) ?_
  refine tv_getR (pc := 1) 0 tb_0 (by rfl) uwT_ (by decide) wm_135 (by rfl) dT_newLine_1 ?_
  refine tv_callVi (pc := 4) [] tb_1 (by rfl) (c_C_size l G u code_1) (kVC_size wm_403 ⟨by decide, by decide⟩) (by rfl) (Nat.le_of_ble_eq_true rfl) dT_newLine_4 ⟨by decide, by decide⟩ ?_
  refine tv_bipush (v := 16) (pc := 7) dT_newLine_7 (by decide) ?_
  refine tv_icmp_ge (pc := 9) 16 dT_newLine_9 (by decide) (fun _ => ?_) (fun h => absurd (by rw [hs, hn]; decide) h)
  refine tv_iconst (v := 0) (pc := 16) dT_newLine_16 (by decide) ?_
  exact tv_thrS (pc := 17) [_] (t_T_requireState l hl G u) (kS1T_requireState wm_404 ⟨by decide, by decide⟩) (by rfl) (Nat.le_of_ble_eq_true rfl) dT_newLine_17 ⟨by decide, by decide⟩ (by decide) (by decide)
set_option maxRecDepth 100000 in
set_option maxHeartbeats 4000000 in
theorem c_T_set (l : Launch) (G : tc_G) (u : tc_S) {n : Nat} (hs : u 1 1 = nI n) (hn : n < 16) (r c1 : Int32) (ho : ((¬ r < 0 ∧ ¬ 6 ≤ r))) : tc_C tcx G l yT_set wT_set r0T_set 0 0 [.ref (tc_ad G 0), .int r, .int c1] u (tc_Ki (nI n) (st_app n 0 r c1 0 u)) := by
  refine tw_ofV (own := "TracedCode") [some (.ref (tc_ad G 0)), some (.int r), some (.int c1)] (by decide +kernel) rfl (Nat.le_of_ble_eq_true rfl) (by rfl) (fun p e s m args below meth c => ?_)
  refine tv_iload_n (pc := 0) dT_set_0 (by rfl) ?_
  refine tv_callSi (pc := 1) [_] (c_T_isRegister l G u _) (kST_isRegister wm_326 ⟨by decide, by decide⟩) (by rfl) (Nat.le_of_ble_eq_true rfl) dT_set_1 ⟨by decide, by decide⟩ ?_
  refine tv_callSv (pc := 4) [_] (c_T_requireArgument l G u (tp_b_1 ho)) (kST_requireArgument wm_332 ⟨by decide, by decide⟩) (by rfl) (Nat.le_of_ble_eq_true rfl) dT_set_4 ⟨by decide, by decide⟩ ?_
  refine tv_aload_n (pc := 7) dT_set_7 (by rfl) ?_
  refine tv_iconst (v := 0) (pc := 8) dT_set_8 (by decide) ?_
  refine tv_iload_n (pc := 9) dT_set_9 (by rfl) ?_
  refine tv_iload_n (pc := 10) dT_set_10 (by rfl) ?_
  refine tv_iconst (v := 0) (pc := 11) dT_set_11 (by decide) ?_
  refine tv_callVi (pc := 12) [_, _, _, _] tb_0 (by rfl) (c_T_newLine l G u hs hn 0 r c1 0) (kVT_newLine wm_399 ⟨by decide, by decide⟩) (by rfl) (Nat.le_of_ble_eq_true rfl) dT_set_12 ⟨by decide, by decide⟩ ?_
  exact tv_iret (pc := 15) dT_set_15 rfl (Nat.le_refl _) (Nat.le_refl _) ⟨rfl, rfl⟩
set_option maxRecDepth 100000 in
set_option maxHeartbeats 4000000 in
theorem t_T_set_A (l : Launch) (hl : l.stackTraces = false) (G : tc_G) (u : tc_S) (r c1 : Int32) (h : ¬ (((¬ r < 0 ∧ ¬ 6 ≤ r)))) : tc_T tcx G l yT_set wT_set r1T_set 1 6 [.ref (tc_ad G 0), .int r, .int c1] u u "java/lang/IllegalArgumentException" := by
  refine tw_ofT (own := "TracedCode") [some (.ref (tc_ad G 0)), some (.int r), some (.int c1)] (by decide +kernel) rfl (Nat.le_of_ble_eq_true rfl) (by rfl) (fun p e s m args below meth c => ?_)
  refine tv_iload_n (pc := 0) dT_set_0 (by rfl) ?_
  refine tv_callSi (pc := 1) [_] (c_T_isRegister l G u _) (kST_isRegister wm_326 ⟨by decide, by decide⟩) (by rfl) (Nat.le_of_ble_eq_true rfl) dT_set_1 ⟨by decide, by decide⟩ ?_
  rw [tp_b_f h]
  exact tv_thrS (pc := 4) [_] (t_T_requireArgument l hl G u) (kS1T_requireArgument wm_332 ⟨by decide, by decide⟩) (by rfl) (Nat.le_of_ble_eq_true rfl) dT_set_4 ⟨by decide, by decide⟩ (by decide) (by decide)
set_option maxRecDepth 100000 in
set_option maxHeartbeats 4000000 in
theorem t_T_set_S (l : Launch) (hl : l.stackTraces = false) (G : tc_G) (u : tc_S) {n : Nat} (hs : u 1 1 = nI n) (hn : n = 16) (r c1 : Int32) (ho : ((¬ r < 0 ∧ ¬ 6 ≤ r))) : tc_T tcx G l yT_set wT_set r1T_set 1 6 [.ref (tc_ad G 0), .int r, .int c1] u u "java/lang/IllegalStateException" := by
  refine tw_ofT (own := "TracedCode") [some (.ref (tc_ad G 0)), some (.int r), some (.int c1)] (by decide +kernel) rfl (Nat.le_of_ble_eq_true rfl) (by rfl) (fun p e s m args below meth c => ?_)
  refine tv_iload_n (pc := 0) dT_set_0 (by rfl) ?_
  refine tv_callSi (pc := 1) [_] (c_T_isRegister l G u _) (kST_isRegister wm_326 ⟨by decide, by decide⟩) (by rfl) (Nat.le_of_ble_eq_true rfl) dT_set_1 ⟨by decide, by decide⟩ ?_
  refine tv_callSv (pc := 4) [_] (c_T_requireArgument l G u (tp_b_1 ho)) (kST_requireArgument wm_332 ⟨by decide, by decide⟩) (by rfl) (Nat.le_of_ble_eq_true rfl) dT_set_4 ⟨by decide, by decide⟩ ?_
  refine tv_aload_n (pc := 7) dT_set_7 (by rfl) ?_
  refine tv_iconst (v := 0) (pc := 8) dT_set_8 (by decide) ?_
  refine tv_iload_n (pc := 9) dT_set_9 (by rfl) ?_
  refine tv_iload_n (pc := 10) dT_set_10 (by rfl) ?_
  refine tv_iconst (v := 0) (pc := 11) dT_set_11 (by decide) ?_
  exact tv_thrV (pc := 12) [_, _, _, _] tb_0 (by rfl) (t_T_newLine l hl G u hs hn 0 r c1 0) (kV1T_newLine wm_399 ⟨by decide, by decide⟩) (by rfl) (Nat.le_of_ble_eq_true rfl) dT_set_12 ⟨by decide, by decide⟩ (by decide) (by decide)
set_option maxRecDepth 100000 in
set_option maxHeartbeats 4000000 in
theorem c_T_copy (l : Launch) (G : tc_G) (u : tc_S) {n : Nat} (hs : u 1 1 = nI n) (hn : n < 16) (r s1 : Int32) (ho : ((¬ r < 0 ∧ ¬ 6 ≤ r)) ∧ ((¬ s1 < 0 ∧ ¬ 6 ≤ s1))) : tc_C tcx G l yT_copy wT_copy r0T_copy 0 0 [.ref (tc_ad G 0), .int r, .int s1] u (tc_Ki (nI n) (st_app n 1 r s1 0 u)) := by
  refine tw_ofV (own := "TracedCode") [some (.ref (tc_ad G 0)), some (.int r), some (.int s1)] (by decide +kernel) rfl (Nat.le_of_ble_eq_true rfl) (by rfl) (fun p e s m args below meth c => ?_)
  refine tv_iload_n (pc := 0) dT_copy_0 (by rfl) ?_
  refine tv_callSi (pc := 1) [_] (c_T_isRegister l G u _) (kST_isRegister wm_326 ⟨by decide, by decide⟩) (by rfl) (Nat.le_of_ble_eq_true rfl) dT_copy_1 ⟨by decide, by decide⟩ ?_
  refine tv_if_eq (pc := 4) 18 dT_copy_4 (by decide) (fun h => absurd h (tp_b_1 ho.1)) (fun _ => ?_)
  refine tv_iload_n (pc := 7) dT_copy_7 (by rfl) ?_
  refine tv_callSi (pc := 8) [_] (c_T_isRegister l G u _) (kST_isRegister wm_326 ⟨by decide, by decide⟩) (by rfl) (Nat.le_of_ble_eq_true rfl) dT_copy_8 ⟨by decide, by decide⟩ ?_
  refine tv_if_eq (pc := 11) 18 dT_copy_11 (by decide) (fun h => absurd h (tp_b_1 ho.2)) (fun _ => ?_)
  refine tv_iconst (v := 1) (pc := 14) dT_copy_14 (by decide) ?_
  refine tv_goto (pc := 15) 19 dT_copy_15 (by decide) ?_
  refine tv_callSv (pc := 19) [_] (c_T_requireArgument l G u (by decide)) (kST_requireArgument wm_332 ⟨by decide, by decide⟩) (by rfl) (Nat.le_of_ble_eq_true rfl) dT_copy_19 ⟨by decide, by decide⟩ ?_
  refine tv_aload_n (pc := 22) dT_copy_22 (by rfl) ?_
  refine tv_iconst (v := 1) (pc := 23) dT_copy_23 (by decide) ?_
  refine tv_iload_n (pc := 24) dT_copy_24 (by rfl) ?_
  refine tv_iload_n (pc := 25) dT_copy_25 (by rfl) ?_
  refine tv_iconst (v := 0) (pc := 26) dT_copy_26 (by decide) ?_
  refine tv_callVi (pc := 27) [_, _, _, _] tb_0 (by rfl) (c_T_newLine l G u hs hn 1 r s1 0) (kVT_newLine wm_399 ⟨by decide, by decide⟩) (by rfl) (Nat.le_of_ble_eq_true rfl) dT_copy_27 ⟨by decide, by decide⟩ ?_
  exact tv_iret (pc := 30) dT_copy_30 rfl (Nat.le_refl _) (Nat.le_refl _) ⟨rfl, rfl⟩
set_option maxRecDepth 100000 in
set_option maxHeartbeats 4000000 in
theorem t_T_copy_A (l : Launch) (hl : l.stackTraces = false) (G : tc_G) (u : tc_S) (r s1 : Int32) (h : ¬ (((¬ r < 0 ∧ ¬ 6 ≤ r)) ∧ ((¬ s1 < 0 ∧ ¬ 6 ≤ s1)))) : tc_T tcx G l yT_copy wT_copy r1T_copy 1 6 [.ref (tc_ad G 0), .int r, .int s1] u u "java/lang/IllegalArgumentException" := by
  refine tw_ofT (own := "TracedCode") [some (.ref (tc_ad G 0)), some (.int r), some (.int s1)] (by decide +kernel) rfl (Nat.le_of_ble_eq_true rfl) (by rfl) (fun p e s m args below meth c => ?_)
  refine tv_iload_n (pc := 0) dT_copy_0 (by rfl) ?_
  refine tv_callSi (pc := 1) [_] (c_T_isRegister l G u _) (kST_isRegister wm_326 ⟨by decide, by decide⟩) (by rfl) (Nat.le_of_ble_eq_true rfl) dT_copy_1 ⟨by decide, by decide⟩ ?_
  refine tv_if_eq (pc := 4) 18 dT_copy_4 (by decide) (fun h4 => ?_) (fun h4 => ?_)
  · skip
    refine tv_iconst (v := 0) (pc := 18) dT_copy_18 (by decide) ?_
    exact tv_thrS (pc := 19) [_] (t_T_requireArgument l hl G u) (kS1T_requireArgument wm_332 ⟨by decide, by decide⟩) (by rfl) (Nat.le_of_ble_eq_true rfl) dT_copy_19 ⟨by decide, by decide⟩ (by decide) (by decide)
  · skip
    refine tv_iload_n (pc := 7) dT_copy_7 (by rfl) ?_
    refine tv_callSi (pc := 8) [_] (c_T_isRegister l G u _) (kST_isRegister wm_326 ⟨by decide, by decide⟩) (by rfl) (Nat.le_of_ble_eq_true rfl) dT_copy_8 ⟨by decide, by decide⟩ ?_
    refine tv_if_eq (pc := 11) 18 dT_copy_11 (by decide) (fun h11 => ?_) (fun h11 => ?_)
    · skip
      refine tv_iconst (v := 0) (pc := 18) dT_copy_18 (by decide) ?_
      exact tv_thrS (pc := 19) [_] (t_T_requireArgument l hl G u) (kS1T_requireArgument wm_332 ⟨by decide, by decide⟩) (by rfl) (Nat.le_of_ble_eq_true rfl) dT_copy_19 ⟨by decide, by decide⟩ (by decide) (by decide)
    · skip
      exact absurd ⟨tp_b_p h4, tp_b_p h11⟩ h
set_option maxRecDepth 100000 in
set_option maxHeartbeats 4000000 in
theorem t_T_copy_S (l : Launch) (hl : l.stackTraces = false) (G : tc_G) (u : tc_S) {n : Nat} (hs : u 1 1 = nI n) (hn : n = 16) (r s1 : Int32) (ho : ((¬ r < 0 ∧ ¬ 6 ≤ r)) ∧ ((¬ s1 < 0 ∧ ¬ 6 ≤ s1))) : tc_T tcx G l yT_copy wT_copy r1T_copy 1 6 [.ref (tc_ad G 0), .int r, .int s1] u u "java/lang/IllegalStateException" := by
  refine tw_ofT (own := "TracedCode") [some (.ref (tc_ad G 0)), some (.int r), some (.int s1)] (by decide +kernel) rfl (Nat.le_of_ble_eq_true rfl) (by rfl) (fun p e s m args below meth c => ?_)
  refine tv_iload_n (pc := 0) dT_copy_0 (by rfl) ?_
  refine tv_callSi (pc := 1) [_] (c_T_isRegister l G u _) (kST_isRegister wm_326 ⟨by decide, by decide⟩) (by rfl) (Nat.le_of_ble_eq_true rfl) dT_copy_1 ⟨by decide, by decide⟩ ?_
  refine tv_if_eq (pc := 4) 18 dT_copy_4 (by decide) (fun h => absurd h (tp_b_1 ho.1)) (fun _ => ?_)
  refine tv_iload_n (pc := 7) dT_copy_7 (by rfl) ?_
  refine tv_callSi (pc := 8) [_] (c_T_isRegister l G u _) (kST_isRegister wm_326 ⟨by decide, by decide⟩) (by rfl) (Nat.le_of_ble_eq_true rfl) dT_copy_8 ⟨by decide, by decide⟩ ?_
  refine tv_if_eq (pc := 11) 18 dT_copy_11 (by decide) (fun h => absurd h (tp_b_1 ho.2)) (fun _ => ?_)
  refine tv_iconst (v := 1) (pc := 14) dT_copy_14 (by decide) ?_
  refine tv_goto (pc := 15) 19 dT_copy_15 (by decide) ?_
  refine tv_callSv (pc := 19) [_] (c_T_requireArgument l G u (by decide)) (kST_requireArgument wm_332 ⟨by decide, by decide⟩) (by rfl) (Nat.le_of_ble_eq_true rfl) dT_copy_19 ⟨by decide, by decide⟩ ?_
  refine tv_aload_n (pc := 22) dT_copy_22 (by rfl) ?_
  refine tv_iconst (v := 1) (pc := 23) dT_copy_23 (by decide) ?_
  refine tv_iload_n (pc := 24) dT_copy_24 (by rfl) ?_
  refine tv_iload_n (pc := 25) dT_copy_25 (by rfl) ?_
  refine tv_iconst (v := 0) (pc := 26) dT_copy_26 (by decide) ?_
  exact tv_thrV (pc := 27) [_, _, _, _] tb_0 (by rfl) (t_T_newLine l hl G u hs hn 1 r s1 0) (kV1T_newLine wm_399 ⟨by decide, by decide⟩) (by rfl) (Nat.le_of_ble_eq_true rfl) dT_copy_27 ⟨by decide, by decide⟩ (by decide) (by decide)
set_option maxRecDepth 100000 in
set_option maxHeartbeats 4000000 in
theorem c_T_add (l : Launch) (G : tc_G) (u : tc_S) {n : Nat} (hs : u 1 1 = nI n) (hn : n < 16) (r s1 t : Int32) (ho : ((¬ r < 0 ∧ ¬ 6 ≤ r)) ∧ ((¬ s1 < 0 ∧ ¬ 6 ≤ s1)) ∧ ((¬ t < 0 ∧ ¬ 6 ≤ t))) : tc_C tcx G l yT_add wT_add r0T_add 0 0 [.ref (tc_ad G 0), .int r, .int s1, .int t] u (tc_Ki (nI n) (st_app n 2 r s1 t u)) := by
  refine tw_ofV (own := "TracedCode") [some (.ref (tc_ad G 0)), some (.int r), some (.int s1), some (.int t)] (by decide +kernel) rfl (Nat.le_of_ble_eq_true rfl) (by rfl) (fun p e s m args below meth c => ?_)
  refine tv_iload_n (pc := 0) dT_add_0 (by rfl) ?_
  refine tv_callSi (pc := 1) [_] (c_T_isRegister l G u _) (kST_isRegister wm_326 ⟨by decide, by decide⟩) (by rfl) (Nat.le_of_ble_eq_true rfl) dT_add_1 ⟨by decide, by decide⟩ ?_
  refine tv_if_eq (pc := 4) 25 dT_add_4 (by decide) (fun h => absurd h (tp_b_1 ho.1)) (fun _ => ?_)
  refine tv_iload_n (pc := 7) dT_add_7 (by rfl) ?_
  refine tv_callSi (pc := 8) [_] (c_T_isRegister l G u _) (kST_isRegister wm_326 ⟨by decide, by decide⟩) (by rfl) (Nat.le_of_ble_eq_true rfl) dT_add_8 ⟨by decide, by decide⟩ ?_
  refine tv_if_eq (pc := 11) 25 dT_add_11 (by decide) (fun h => absurd h (tp_b_1 ho.2.1)) (fun _ => ?_)
  refine tv_iload_n (pc := 14) dT_add_14 (by rfl) ?_
  refine tv_callSi (pc := 15) [_] (c_T_isRegister l G u _) (kST_isRegister wm_326 ⟨by decide, by decide⟩) (by rfl) (Nat.le_of_ble_eq_true rfl) dT_add_15 ⟨by decide, by decide⟩ ?_
  refine tv_if_eq (pc := 18) 25 dT_add_18 (by decide) (fun h => absurd h (tp_b_1 ho.2.2)) (fun _ => ?_)
  refine tv_iconst (v := 1) (pc := 21) dT_add_21 (by decide) ?_
  refine tv_goto (pc := 22) 26 dT_add_22 (by decide) ?_
  refine tv_callSv (pc := 26) [_] (c_T_requireArgument l G u (by decide)) (kST_requireArgument wm_332 ⟨by decide, by decide⟩) (by rfl) (Nat.le_of_ble_eq_true rfl) dT_add_26 ⟨by decide, by decide⟩ ?_
  refine tv_aload_n (pc := 29) dT_add_29 (by rfl) ?_
  refine tv_iconst (v := 2) (pc := 30) dT_add_30 (by decide) ?_
  refine tv_iload_n (pc := 31) dT_add_31 (by rfl) ?_
  refine tv_iload_n (pc := 32) dT_add_32 (by rfl) ?_
  refine tv_iload_n (pc := 33) dT_add_33 (by rfl) ?_
  refine tv_callVi (pc := 34) [_, _, _, _] tb_0 (by rfl) (c_T_newLine l G u hs hn 2 r s1 t) (kVT_newLine wm_399 ⟨by decide, by decide⟩) (by rfl) (Nat.le_of_ble_eq_true rfl) dT_add_34 ⟨by decide, by decide⟩ ?_
  exact tv_iret (pc := 37) dT_add_37 rfl (Nat.le_refl _) (Nat.le_refl _) ⟨rfl, rfl⟩
set_option maxRecDepth 100000 in
set_option maxHeartbeats 4000000 in
theorem t_T_add_A (l : Launch) (hl : l.stackTraces = false) (G : tc_G) (u : tc_S) (r s1 t : Int32) (h : ¬ (((¬ r < 0 ∧ ¬ 6 ≤ r)) ∧ ((¬ s1 < 0 ∧ ¬ 6 ≤ s1)) ∧ ((¬ t < 0 ∧ ¬ 6 ≤ t)))) : tc_T tcx G l yT_add wT_add r1T_add 1 6 [.ref (tc_ad G 0), .int r, .int s1, .int t] u u "java/lang/IllegalArgumentException" := by
  refine tw_ofT (own := "TracedCode") [some (.ref (tc_ad G 0)), some (.int r), some (.int s1), some (.int t)] (by decide +kernel) rfl (Nat.le_of_ble_eq_true rfl) (by rfl) (fun p e s m args below meth c => ?_)
  refine tv_iload_n (pc := 0) dT_add_0 (by rfl) ?_
  refine tv_callSi (pc := 1) [_] (c_T_isRegister l G u _) (kST_isRegister wm_326 ⟨by decide, by decide⟩) (by rfl) (Nat.le_of_ble_eq_true rfl) dT_add_1 ⟨by decide, by decide⟩ ?_
  refine tv_if_eq (pc := 4) 25 dT_add_4 (by decide) (fun h4 => ?_) (fun h4 => ?_)
  · skip
    refine tv_iconst (v := 0) (pc := 25) dT_add_25 (by decide) ?_
    exact tv_thrS (pc := 26) [_] (t_T_requireArgument l hl G u) (kS1T_requireArgument wm_332 ⟨by decide, by decide⟩) (by rfl) (Nat.le_of_ble_eq_true rfl) dT_add_26 ⟨by decide, by decide⟩ (by decide) (by decide)
  · skip
    refine tv_iload_n (pc := 7) dT_add_7 (by rfl) ?_
    refine tv_callSi (pc := 8) [_] (c_T_isRegister l G u _) (kST_isRegister wm_326 ⟨by decide, by decide⟩) (by rfl) (Nat.le_of_ble_eq_true rfl) dT_add_8 ⟨by decide, by decide⟩ ?_
    refine tv_if_eq (pc := 11) 25 dT_add_11 (by decide) (fun h11 => ?_) (fun h11 => ?_)
    · skip
      refine tv_iconst (v := 0) (pc := 25) dT_add_25 (by decide) ?_
      exact tv_thrS (pc := 26) [_] (t_T_requireArgument l hl G u) (kS1T_requireArgument wm_332 ⟨by decide, by decide⟩) (by rfl) (Nat.le_of_ble_eq_true rfl) dT_add_26 ⟨by decide, by decide⟩ (by decide) (by decide)
    · skip
      refine tv_iload_n (pc := 14) dT_add_14 (by rfl) ?_
      refine tv_callSi (pc := 15) [_] (c_T_isRegister l G u _) (kST_isRegister wm_326 ⟨by decide, by decide⟩) (by rfl) (Nat.le_of_ble_eq_true rfl) dT_add_15 ⟨by decide, by decide⟩ ?_
      refine tv_if_eq (pc := 18) 25 dT_add_18 (by decide) (fun h18 => ?_) (fun h18 => ?_)
      · skip
        refine tv_iconst (v := 0) (pc := 25) dT_add_25 (by decide) ?_
        exact tv_thrS (pc := 26) [_] (t_T_requireArgument l hl G u) (kS1T_requireArgument wm_332 ⟨by decide, by decide⟩) (by rfl) (Nat.le_of_ble_eq_true rfl) dT_add_26 ⟨by decide, by decide⟩ (by decide) (by decide)
      · skip
        exact absurd ⟨tp_b_p h4, tp_b_p h11, tp_b_p h18⟩ h
set_option maxRecDepth 100000 in
set_option maxHeartbeats 4000000 in
theorem t_T_add_S (l : Launch) (hl : l.stackTraces = false) (G : tc_G) (u : tc_S) {n : Nat} (hs : u 1 1 = nI n) (hn : n = 16) (r s1 t : Int32) (ho : ((¬ r < 0 ∧ ¬ 6 ≤ r)) ∧ ((¬ s1 < 0 ∧ ¬ 6 ≤ s1)) ∧ ((¬ t < 0 ∧ ¬ 6 ≤ t))) : tc_T tcx G l yT_add wT_add r1T_add 1 6 [.ref (tc_ad G 0), .int r, .int s1, .int t] u u "java/lang/IllegalStateException" := by
  refine tw_ofT (own := "TracedCode") [some (.ref (tc_ad G 0)), some (.int r), some (.int s1), some (.int t)] (by decide +kernel) rfl (Nat.le_of_ble_eq_true rfl) (by rfl) (fun p e s m args below meth c => ?_)
  refine tv_iload_n (pc := 0) dT_add_0 (by rfl) ?_
  refine tv_callSi (pc := 1) [_] (c_T_isRegister l G u _) (kST_isRegister wm_326 ⟨by decide, by decide⟩) (by rfl) (Nat.le_of_ble_eq_true rfl) dT_add_1 ⟨by decide, by decide⟩ ?_
  refine tv_if_eq (pc := 4) 25 dT_add_4 (by decide) (fun h => absurd h (tp_b_1 ho.1)) (fun _ => ?_)
  refine tv_iload_n (pc := 7) dT_add_7 (by rfl) ?_
  refine tv_callSi (pc := 8) [_] (c_T_isRegister l G u _) (kST_isRegister wm_326 ⟨by decide, by decide⟩) (by rfl) (Nat.le_of_ble_eq_true rfl) dT_add_8 ⟨by decide, by decide⟩ ?_
  refine tv_if_eq (pc := 11) 25 dT_add_11 (by decide) (fun h => absurd h (tp_b_1 ho.2.1)) (fun _ => ?_)
  refine tv_iload_n (pc := 14) dT_add_14 (by rfl) ?_
  refine tv_callSi (pc := 15) [_] (c_T_isRegister l G u _) (kST_isRegister wm_326 ⟨by decide, by decide⟩) (by rfl) (Nat.le_of_ble_eq_true rfl) dT_add_15 ⟨by decide, by decide⟩ ?_
  refine tv_if_eq (pc := 18) 25 dT_add_18 (by decide) (fun h => absurd h (tp_b_1 ho.2.2)) (fun _ => ?_)
  refine tv_iconst (v := 1) (pc := 21) dT_add_21 (by decide) ?_
  refine tv_goto (pc := 22) 26 dT_add_22 (by decide) ?_
  refine tv_callSv (pc := 26) [_] (c_T_requireArgument l G u (by decide)) (kST_requireArgument wm_332 ⟨by decide, by decide⟩) (by rfl) (Nat.le_of_ble_eq_true rfl) dT_add_26 ⟨by decide, by decide⟩ ?_
  refine tv_aload_n (pc := 29) dT_add_29 (by rfl) ?_
  refine tv_iconst (v := 2) (pc := 30) dT_add_30 (by decide) ?_
  refine tv_iload_n (pc := 31) dT_add_31 (by rfl) ?_
  refine tv_iload_n (pc := 32) dT_add_32 (by rfl) ?_
  refine tv_iload_n (pc := 33) dT_add_33 (by rfl) ?_
  exact tv_thrV (pc := 34) [_, _, _, _] tb_0 (by rfl) (t_T_newLine l hl G u hs hn 2 r s1 t) (kV1T_newLine wm_399 ⟨by decide, by decide⟩) (by rfl) (Nat.le_of_ble_eq_true rfl) dT_add_34 ⟨by decide, by decide⟩ (by decide) (by decide)
set_option maxRecDepth 100000 in
set_option maxHeartbeats 4000000 in
theorem c_T_out (l : Launch) (G : tc_G) (u : tc_S) {n : Nat} (hs : u 1 1 = nI n) (hn : n < 16) (r : Int32) (ho : ((¬ r < 0 ∧ ¬ 6 ≤ r))) : tc_C tcx G l yT_out wT_out r0T_out 0 0 [.ref (tc_ad G 0), .int r] u (tc_Ki (nI n) (st_app n 3 r 0 0 u)) := by
  refine tw_ofV (own := "TracedCode") [some (.ref (tc_ad G 0)), some (.int r)] (by decide +kernel) rfl (Nat.le_of_ble_eq_true rfl) (by rfl) (fun p e s m args below meth c => ?_)
  refine tv_iload_n (pc := 0) dT_out_0 (by rfl) ?_
  refine tv_callSi (pc := 1) [_] (c_T_isRegister l G u _) (kST_isRegister wm_326 ⟨by decide, by decide⟩) (by rfl) (Nat.le_of_ble_eq_true rfl) dT_out_1 ⟨by decide, by decide⟩ ?_
  refine tv_callSv (pc := 4) [_] (c_T_requireArgument l G u (tp_b_1 ho)) (kST_requireArgument wm_332 ⟨by decide, by decide⟩) (by rfl) (Nat.le_of_ble_eq_true rfl) dT_out_4 ⟨by decide, by decide⟩ ?_
  refine tv_aload_n (pc := 7) dT_out_7 (by rfl) ?_
  refine tv_iconst (v := 3) (pc := 8) dT_out_8 (by decide) ?_
  refine tv_iload_n (pc := 9) dT_out_9 (by rfl) ?_
  refine tv_iconst (v := 0) (pc := 10) dT_out_10 (by decide) ?_
  refine tv_iconst (v := 0) (pc := 11) dT_out_11 (by decide) ?_
  refine tv_callVi (pc := 12) [_, _, _, _] tb_0 (by rfl) (c_T_newLine l G u hs hn 3 r 0 0) (kVT_newLine wm_399 ⟨by decide, by decide⟩) (by rfl) (Nat.le_of_ble_eq_true rfl) dT_out_12 ⟨by decide, by decide⟩ ?_
  exact tv_iret (pc := 15) dT_out_15 rfl (Nat.le_refl _) (Nat.le_refl _) ⟨rfl, rfl⟩
set_option maxRecDepth 100000 in
set_option maxHeartbeats 4000000 in
theorem t_T_out_A (l : Launch) (hl : l.stackTraces = false) (G : tc_G) (u : tc_S) (r : Int32) (h : ¬ (((¬ r < 0 ∧ ¬ 6 ≤ r)))) : tc_T tcx G l yT_out wT_out r1T_out 1 6 [.ref (tc_ad G 0), .int r] u u "java/lang/IllegalArgumentException" := by
  refine tw_ofT (own := "TracedCode") [some (.ref (tc_ad G 0)), some (.int r)] (by decide +kernel) rfl (Nat.le_of_ble_eq_true rfl) (by rfl) (fun p e s m args below meth c => ?_)
  refine tv_iload_n (pc := 0) dT_out_0 (by rfl) ?_
  refine tv_callSi (pc := 1) [_] (c_T_isRegister l G u _) (kST_isRegister wm_326 ⟨by decide, by decide⟩) (by rfl) (Nat.le_of_ble_eq_true rfl) dT_out_1 ⟨by decide, by decide⟩ ?_
  rw [tp_b_f h]
  exact tv_thrS (pc := 4) [_] (t_T_requireArgument l hl G u) (kS1T_requireArgument wm_332 ⟨by decide, by decide⟩) (by rfl) (Nat.le_of_ble_eq_true rfl) dT_out_4 ⟨by decide, by decide⟩ (by decide) (by decide)
set_option maxRecDepth 100000 in
set_option maxHeartbeats 4000000 in
theorem t_T_out_S (l : Launch) (hl : l.stackTraces = false) (G : tc_G) (u : tc_S) {n : Nat} (hs : u 1 1 = nI n) (hn : n = 16) (r : Int32) (ho : ((¬ r < 0 ∧ ¬ 6 ≤ r))) : tc_T tcx G l yT_out wT_out r1T_out 1 6 [.ref (tc_ad G 0), .int r] u u "java/lang/IllegalStateException" := by
  refine tw_ofT (own := "TracedCode") [some (.ref (tc_ad G 0)), some (.int r)] (by decide +kernel) rfl (Nat.le_of_ble_eq_true rfl) (by rfl) (fun p e s m args below meth c => ?_)
  refine tv_iload_n (pc := 0) dT_out_0 (by rfl) ?_
  refine tv_callSi (pc := 1) [_] (c_T_isRegister l G u _) (kST_isRegister wm_326 ⟨by decide, by decide⟩) (by rfl) (Nat.le_of_ble_eq_true rfl) dT_out_1 ⟨by decide, by decide⟩ ?_
  refine tv_callSv (pc := 4) [_] (c_T_requireArgument l G u (tp_b_1 ho)) (kST_requireArgument wm_332 ⟨by decide, by decide⟩) (by rfl) (Nat.le_of_ble_eq_true rfl) dT_out_4 ⟨by decide, by decide⟩ ?_
  refine tv_aload_n (pc := 7) dT_out_7 (by rfl) ?_
  refine tv_iconst (v := 3) (pc := 8) dT_out_8 (by decide) ?_
  refine tv_iload_n (pc := 9) dT_out_9 (by rfl) ?_
  refine tv_iconst (v := 0) (pc := 10) dT_out_10 (by decide) ?_
  refine tv_iconst (v := 0) (pc := 11) dT_out_11 (by decide) ?_
  exact tv_thrV (pc := 12) [_, _, _, _] tb_0 (by rfl) (t_T_newLine l hl G u hs hn 3 r 0 0) (kV1T_newLine wm_399 ⟨by decide, by decide⟩) (by rfl) (Nat.le_of_ble_eq_true rfl) dT_out_12 ⟨by decide, by decide⟩ (by decide) (by decide)
set_option maxRecDepth 100000 in
set_option maxHeartbeats 4000000 in
theorem c_T_jump (l : Launch) (G : tc_G) (u : tc_S) {n : Nat} (hs : u 1 1 = nI n) (hn : n < 16) (r s1 : Int32) (ho : ((¬ r < 0 ∧ ¬ 6 ≤ r)) ∧ ((¬ s1 < 0 ∧ ¬ 17 ≤ s1))) : tc_C tcx G l yT_jump wT_jump r0T_jump 0 0 [.ref (tc_ad G 0), .int r, .int s1] u (tc_Ki (nI n) (st_app n 4 r s1 0 u)) := by
  refine tw_ofV (own := "TracedCode") [some (.ref (tc_ad G 0)), some (.int r), some (.int s1)] (by decide +kernel) rfl (Nat.le_of_ble_eq_true rfl) (by rfl) (fun p e s m args below meth c => ?_)
  refine tv_iload_n (pc := 0) dT_jump_0 (by rfl) ?_
  refine tv_callSi (pc := 1) [_] (c_T_isRegister l G u _) (kST_isRegister wm_326 ⟨by decide, by decide⟩) (by rfl) (Nat.le_of_ble_eq_true rfl) dT_jump_1 ⟨by decide, by decide⟩ ?_
  refine tv_if_eq (pc := 4) 20 dT_jump_4 (by decide) (fun h => absurd h (tp_b_1 ho.1)) (fun _ => ?_)
  refine tv_iload_n (pc := 7) dT_jump_7 (by rfl) ?_
  refine tv_bipush (v := 17) (pc := 8) dT_jump_8 (by decide) ?_
  refine tv_callSi (pc := 10) [_, _] (c_T_isBelow l G u _ _) (kST_isBelow wm_329 ⟨by decide, by decide⟩) (by rfl) (Nat.le_of_ble_eq_true rfl) dT_jump_10 ⟨by decide, by decide⟩ ?_
  refine tv_if_eq (pc := 13) 20 dT_jump_13 (by decide) (fun h => absurd h (tp_b_1 ho.2)) (fun _ => ?_)
  refine tv_iconst (v := 1) (pc := 16) dT_jump_16 (by decide) ?_
  refine tv_goto (pc := 17) 21 dT_jump_17 (by decide) ?_
  refine tv_callSv (pc := 21) [_] (c_T_requireArgument l G u (by decide)) (kST_requireArgument wm_332 ⟨by decide, by decide⟩) (by rfl) (Nat.le_of_ble_eq_true rfl) dT_jump_21 ⟨by decide, by decide⟩ ?_
  refine tv_aload_n (pc := 24) dT_jump_24 (by rfl) ?_
  refine tv_iconst (v := 4) (pc := 25) dT_jump_25 (by decide) ?_
  refine tv_iload_n (pc := 26) dT_jump_26 (by rfl) ?_
  refine tv_iload_n (pc := 27) dT_jump_27 (by rfl) ?_
  refine tv_iconst (v := 0) (pc := 28) dT_jump_28 (by decide) ?_
  refine tv_callVi (pc := 29) [_, _, _, _] tb_0 (by rfl) (c_T_newLine l G u hs hn 4 r s1 0) (kVT_newLine wm_399 ⟨by decide, by decide⟩) (by rfl) (Nat.le_of_ble_eq_true rfl) dT_jump_29 ⟨by decide, by decide⟩ ?_
  exact tv_iret (pc := 32) dT_jump_32 rfl (Nat.le_refl _) (Nat.le_refl _) ⟨rfl, rfl⟩
set_option maxRecDepth 100000 in
set_option maxHeartbeats 4000000 in
theorem t_T_jump_A (l : Launch) (hl : l.stackTraces = false) (G : tc_G) (u : tc_S) (r s1 : Int32) (h : ¬ (((¬ r < 0 ∧ ¬ 6 ≤ r)) ∧ ((¬ s1 < 0 ∧ ¬ 17 ≤ s1)))) : tc_T tcx G l yT_jump wT_jump r1T_jump 1 6 [.ref (tc_ad G 0), .int r, .int s1] u u "java/lang/IllegalArgumentException" := by
  refine tw_ofT (own := "TracedCode") [some (.ref (tc_ad G 0)), some (.int r), some (.int s1)] (by decide +kernel) rfl (Nat.le_of_ble_eq_true rfl) (by rfl) (fun p e s m args below meth c => ?_)
  refine tv_iload_n (pc := 0) dT_jump_0 (by rfl) ?_
  refine tv_callSi (pc := 1) [_] (c_T_isRegister l G u _) (kST_isRegister wm_326 ⟨by decide, by decide⟩) (by rfl) (Nat.le_of_ble_eq_true rfl) dT_jump_1 ⟨by decide, by decide⟩ ?_
  refine tv_if_eq (pc := 4) 20 dT_jump_4 (by decide) (fun h4 => ?_) (fun h4 => ?_)
  · skip
    refine tv_iconst (v := 0) (pc := 20) dT_jump_20 (by decide) ?_
    exact tv_thrS (pc := 21) [_] (t_T_requireArgument l hl G u) (kS1T_requireArgument wm_332 ⟨by decide, by decide⟩) (by rfl) (Nat.le_of_ble_eq_true rfl) dT_jump_21 ⟨by decide, by decide⟩ (by decide) (by decide)
  · skip
    refine tv_iload_n (pc := 7) dT_jump_7 (by rfl) ?_
    refine tv_bipush (v := 17) (pc := 8) dT_jump_8 (by decide) ?_
    refine tv_callSi (pc := 10) [_, _] (c_T_isBelow l G u _ _) (kST_isBelow wm_329 ⟨by decide, by decide⟩) (by rfl) (Nat.le_of_ble_eq_true rfl) dT_jump_10 ⟨by decide, by decide⟩ ?_
    refine tv_if_eq (pc := 13) 20 dT_jump_13 (by decide) (fun h13 => ?_) (fun h13 => ?_)
    · skip
      refine tv_iconst (v := 0) (pc := 20) dT_jump_20 (by decide) ?_
      exact tv_thrS (pc := 21) [_] (t_T_requireArgument l hl G u) (kS1T_requireArgument wm_332 ⟨by decide, by decide⟩) (by rfl) (Nat.le_of_ble_eq_true rfl) dT_jump_21 ⟨by decide, by decide⟩ (by decide) (by decide)
    · skip
      exact absurd ⟨tp_b_p h4, tp_b_p h13⟩ h
set_option maxRecDepth 100000 in
set_option maxHeartbeats 4000000 in
theorem t_T_jump_S (l : Launch) (hl : l.stackTraces = false) (G : tc_G) (u : tc_S) {n : Nat} (hs : u 1 1 = nI n) (hn : n = 16) (r s1 : Int32) (ho : ((¬ r < 0 ∧ ¬ 6 ≤ r)) ∧ ((¬ s1 < 0 ∧ ¬ 17 ≤ s1))) : tc_T tcx G l yT_jump wT_jump r1T_jump 1 6 [.ref (tc_ad G 0), .int r, .int s1] u u "java/lang/IllegalStateException" := by
  refine tw_ofT (own := "TracedCode") [some (.ref (tc_ad G 0)), some (.int r), some (.int s1)] (by decide +kernel) rfl (Nat.le_of_ble_eq_true rfl) (by rfl) (fun p e s m args below meth c => ?_)
  refine tv_iload_n (pc := 0) dT_jump_0 (by rfl) ?_
  refine tv_callSi (pc := 1) [_] (c_T_isRegister l G u _) (kST_isRegister wm_326 ⟨by decide, by decide⟩) (by rfl) (Nat.le_of_ble_eq_true rfl) dT_jump_1 ⟨by decide, by decide⟩ ?_
  refine tv_if_eq (pc := 4) 20 dT_jump_4 (by decide) (fun h => absurd h (tp_b_1 ho.1)) (fun _ => ?_)
  refine tv_iload_n (pc := 7) dT_jump_7 (by rfl) ?_
  refine tv_bipush (v := 17) (pc := 8) dT_jump_8 (by decide) ?_
  refine tv_callSi (pc := 10) [_, _] (c_T_isBelow l G u _ _) (kST_isBelow wm_329 ⟨by decide, by decide⟩) (by rfl) (Nat.le_of_ble_eq_true rfl) dT_jump_10 ⟨by decide, by decide⟩ ?_
  refine tv_if_eq (pc := 13) 20 dT_jump_13 (by decide) (fun h => absurd h (tp_b_1 ho.2)) (fun _ => ?_)
  refine tv_iconst (v := 1) (pc := 16) dT_jump_16 (by decide) ?_
  refine tv_goto (pc := 17) 21 dT_jump_17 (by decide) ?_
  refine tv_callSv (pc := 21) [_] (c_T_requireArgument l G u (by decide)) (kST_requireArgument wm_332 ⟨by decide, by decide⟩) (by rfl) (Nat.le_of_ble_eq_true rfl) dT_jump_21 ⟨by decide, by decide⟩ ?_
  refine tv_aload_n (pc := 24) dT_jump_24 (by rfl) ?_
  refine tv_iconst (v := 4) (pc := 25) dT_jump_25 (by decide) ?_
  refine tv_iload_n (pc := 26) dT_jump_26 (by rfl) ?_
  refine tv_iload_n (pc := 27) dT_jump_27 (by rfl) ?_
  refine tv_iconst (v := 0) (pc := 28) dT_jump_28 (by decide) ?_
  exact tv_thrV (pc := 29) [_, _, _, _] tb_0 (by rfl) (t_T_newLine l hl G u hs hn 4 r s1 0) (kV1T_newLine wm_399 ⟨by decide, by decide⟩) (by rfl) (Nat.le_of_ble_eq_true rfl) dT_jump_29 ⟨by decide, by decide⟩ (by decide) (by decide)
set_option maxRecDepth 100000 in
set_option maxHeartbeats 4000000 in
theorem c_T_name (l : Launch) (G : tc_G) (u : tc_S) {n : Nat} (hs : u 1 1 = nI n) (hn : n < 16) (v r : Int32) (ho : ((¬ v < 0 ∧ ¬ 3 ≤ v)) ∧ ((¬ r < 0 ∧ ¬ 6 ≤ r))) : tc_C tcx G l yT_name wT_name r0T_name 0 0 [.ref (tc_ad G 0), .int v, .int r] u (tc_Ki (nI n) (st_app n 5 v r 0 u)) := by
  refine tw_ofV (own := "TracedCode") [some (.ref (tc_ad G 0)), some (.int v), some (.int r)] (by decide +kernel) rfl (Nat.le_of_ble_eq_true rfl) (by rfl) (fun p e s m args below meth c => ?_)
  refine tv_iload_n (pc := 0) dT_name_0 (by rfl) ?_
  refine tv_callSi (pc := 1) [_] (c_T_isVariable l G u _) (kST_isVariable wm_461 ⟨by decide, by decide⟩) (by rfl) (Nat.le_of_ble_eq_true rfl) dT_name_1 ⟨by decide, by decide⟩ ?_
  refine tv_if_eq (pc := 4) 18 dT_name_4 (by decide) (fun h => absurd h (tp_b_1 ho.1)) (fun _ => ?_)
  refine tv_iload_n (pc := 7) dT_name_7 (by rfl) ?_
  refine tv_callSi (pc := 8) [_] (c_T_isRegister l G u _) (kST_isRegister wm_326 ⟨by decide, by decide⟩) (by rfl) (Nat.le_of_ble_eq_true rfl) dT_name_8 ⟨by decide, by decide⟩ ?_
  refine tv_if_eq (pc := 11) 18 dT_name_11 (by decide) (fun h => absurd h (tp_b_1 ho.2)) (fun _ => ?_)
  refine tv_iconst (v := 1) (pc := 14) dT_name_14 (by decide) ?_
  refine tv_goto (pc := 15) 19 dT_name_15 (by decide) ?_
  refine tv_callSv (pc := 19) [_] (c_T_requireArgument l G u (by decide)) (kST_requireArgument wm_332 ⟨by decide, by decide⟩) (by rfl) (Nat.le_of_ble_eq_true rfl) dT_name_19 ⟨by decide, by decide⟩ ?_
  refine tv_aload_n (pc := 22) dT_name_22 (by rfl) ?_
  refine tv_iconst (v := 5) (pc := 23) dT_name_23 (by decide) ?_
  refine tv_iload_n (pc := 24) dT_name_24 (by rfl) ?_
  refine tv_iload_n (pc := 25) dT_name_25 (by rfl) ?_
  refine tv_iconst (v := 0) (pc := 26) dT_name_26 (by decide) ?_
  refine tv_callVi (pc := 27) [_, _, _, _] tb_0 (by rfl) (c_T_newLine l G u hs hn 5 v r 0) (kVT_newLine wm_399 ⟨by decide, by decide⟩) (by rfl) (Nat.le_of_ble_eq_true rfl) dT_name_27 ⟨by decide, by decide⟩ ?_
  exact tv_iret (pc := 30) dT_name_30 rfl (Nat.le_refl _) (Nat.le_refl _) ⟨rfl, rfl⟩
set_option maxRecDepth 100000 in
set_option maxHeartbeats 4000000 in
theorem t_T_name_A (l : Launch) (hl : l.stackTraces = false) (G : tc_G) (u : tc_S) (v r : Int32) (h : ¬ (((¬ v < 0 ∧ ¬ 3 ≤ v)) ∧ ((¬ r < 0 ∧ ¬ 6 ≤ r)))) : tc_T tcx G l yT_name wT_name r1T_name 1 6 [.ref (tc_ad G 0), .int v, .int r] u u "java/lang/IllegalArgumentException" := by
  refine tw_ofT (own := "TracedCode") [some (.ref (tc_ad G 0)), some (.int v), some (.int r)] (by decide +kernel) rfl (Nat.le_of_ble_eq_true rfl) (by rfl) (fun p e s m args below meth c => ?_)
  refine tv_iload_n (pc := 0) dT_name_0 (by rfl) ?_
  refine tv_callSi (pc := 1) [_] (c_T_isVariable l G u _) (kST_isVariable wm_461 ⟨by decide, by decide⟩) (by rfl) (Nat.le_of_ble_eq_true rfl) dT_name_1 ⟨by decide, by decide⟩ ?_
  refine tv_if_eq (pc := 4) 18 dT_name_4 (by decide) (fun h4 => ?_) (fun h4 => ?_)
  · skip
    refine tv_iconst (v := 0) (pc := 18) dT_name_18 (by decide) ?_
    exact tv_thrS (pc := 19) [_] (t_T_requireArgument l hl G u) (kS1T_requireArgument wm_332 ⟨by decide, by decide⟩) (by rfl) (Nat.le_of_ble_eq_true rfl) dT_name_19 ⟨by decide, by decide⟩ (by decide) (by decide)
  · skip
    refine tv_iload_n (pc := 7) dT_name_7 (by rfl) ?_
    refine tv_callSi (pc := 8) [_] (c_T_isRegister l G u _) (kST_isRegister wm_326 ⟨by decide, by decide⟩) (by rfl) (Nat.le_of_ble_eq_true rfl) dT_name_8 ⟨by decide, by decide⟩ ?_
    refine tv_if_eq (pc := 11) 18 dT_name_11 (by decide) (fun h11 => ?_) (fun h11 => ?_)
    · skip
      refine tv_iconst (v := 0) (pc := 18) dT_name_18 (by decide) ?_
      exact tv_thrS (pc := 19) [_] (t_T_requireArgument l hl G u) (kS1T_requireArgument wm_332 ⟨by decide, by decide⟩) (by rfl) (Nat.le_of_ble_eq_true rfl) dT_name_19 ⟨by decide, by decide⟩ (by decide) (by decide)
    · skip
      exact absurd ⟨tp_b_p h4, tp_b_p h11⟩ h
set_option maxRecDepth 100000 in
set_option maxHeartbeats 4000000 in
theorem t_T_name_S (l : Launch) (hl : l.stackTraces = false) (G : tc_G) (u : tc_S) {n : Nat} (hs : u 1 1 = nI n) (hn : n = 16) (v r : Int32) (ho : ((¬ v < 0 ∧ ¬ 3 ≤ v)) ∧ ((¬ r < 0 ∧ ¬ 6 ≤ r))) : tc_T tcx G l yT_name wT_name r1T_name 1 6 [.ref (tc_ad G 0), .int v, .int r] u u "java/lang/IllegalStateException" := by
  refine tw_ofT (own := "TracedCode") [some (.ref (tc_ad G 0)), some (.int v), some (.int r)] (by decide +kernel) rfl (Nat.le_of_ble_eq_true rfl) (by rfl) (fun p e s m args below meth c => ?_)
  refine tv_iload_n (pc := 0) dT_name_0 (by rfl) ?_
  refine tv_callSi (pc := 1) [_] (c_T_isVariable l G u _) (kST_isVariable wm_461 ⟨by decide, by decide⟩) (by rfl) (Nat.le_of_ble_eq_true rfl) dT_name_1 ⟨by decide, by decide⟩ ?_
  refine tv_if_eq (pc := 4) 18 dT_name_4 (by decide) (fun h => absurd h (tp_b_1 ho.1)) (fun _ => ?_)
  refine tv_iload_n (pc := 7) dT_name_7 (by rfl) ?_
  refine tv_callSi (pc := 8) [_] (c_T_isRegister l G u _) (kST_isRegister wm_326 ⟨by decide, by decide⟩) (by rfl) (Nat.le_of_ble_eq_true rfl) dT_name_8 ⟨by decide, by decide⟩ ?_
  refine tv_if_eq (pc := 11) 18 dT_name_11 (by decide) (fun h => absurd h (tp_b_1 ho.2)) (fun _ => ?_)
  refine tv_iconst (v := 1) (pc := 14) dT_name_14 (by decide) ?_
  refine tv_goto (pc := 15) 19 dT_name_15 (by decide) ?_
  refine tv_callSv (pc := 19) [_] (c_T_requireArgument l G u (by decide)) (kST_requireArgument wm_332 ⟨by decide, by decide⟩) (by rfl) (Nat.le_of_ble_eq_true rfl) dT_name_19 ⟨by decide, by decide⟩ ?_
  refine tv_aload_n (pc := 22) dT_name_22 (by rfl) ?_
  refine tv_iconst (v := 5) (pc := 23) dT_name_23 (by decide) ?_
  refine tv_iload_n (pc := 24) dT_name_24 (by rfl) ?_
  refine tv_iload_n (pc := 25) dT_name_25 (by rfl) ?_
  refine tv_iconst (v := 0) (pc := 26) dT_name_26 (by decide) ?_
  exact tv_thrV (pc := 27) [_, _, _, _] tb_0 (by rfl) (t_T_newLine l hl G u hs hn 5 v r 0) (kV1T_newLine wm_399 ⟨by decide, by decide⟩) (by rfl) (Nat.le_of_ble_eq_true rfl) dT_name_27 ⟨by decide, by decide⟩ (by decide) (by decide)
set_option maxRecDepth 100000 in
set_option maxHeartbeats 4000000 in
theorem c_T_clear (l : Launch) (G : tc_G) (u : tc_S)  : tc_C tcx G l yT_clear wT_clear r0T_clear 0 0 [.ref (tc_ad G 0)] u (tc_Kv (tc_up (tc_up u 1 1 0) 0 5 0)) := by
  refine tw_ofV (own := "TracedCode") [some (.ref (tc_ad G 0))] (by decide +kernel) rfl (Nat.le_of_ble_eq_true rfl) (by rfl) (fun p e s m args below meth c => ?_)
  refine tv_aload_n (pc := 0) dT_clear_0 (by rfl) ?_
  refine tv_getR (pc := 1) 0 tb_0 (by rfl) uwT_ (by decide) wm_135 (by rfl) dT_clear_1 ?_
  refine tv_callVv (pc := 4) [] tb_1 (by rfl) (c_C_dropLines l G u code_1) (kVC_dropLines wm_158 ⟨by decide, by decide⟩) (by rfl) (Nat.le_of_ble_eq_true rfl) dT_clear_4 ⟨by decide, by decide⟩ ?_
  refine tv_aload_n (pc := 7) dT_clear_7 (by rfl) ?_
  refine tv_iconst (v := 0) (pc := 8) dT_clear_8 (by decide) ?_
  refine tv_putI (ty := .boolean) (pc := 9) 5 tyT_ tb_0 (by rfl) uwT_ (by decide) wm_140 okT_ nmT_ (by rfl) (by decide +kernel) (by rfl) (by rfl) (by rfl) dT_clear_9 ?_
  exact tv_vret (pc := 12) dT_clear_12 rfl (Nat.le_refl _) (Nat.le_refl _) ⟨rfl, rfl⟩
/-- shorten -/
noncomputable def st_r (n : Nat) (u : tc_S) : Nat × tc_S := sr n 1000000 0 (tc_take u n)
noncomputable def st_sh (n : Nat) (u : tc_S) : tc_S := tc_up (sn_begin (sk_find n (st_r n u).2)) 0 5 1
set_option maxRecDepth 100000 in
set_option maxHeartbeats 4000000 in
theorem c_T_shorten (l : Launch) (G : tc_G) (u : tc_S) {n : Nat} (hs : u 1 1 = nI n) (hn : n ≤ 16) (hI : sp_I n (tc_take u n)) (hJ : sp_I n (st_r n u).2) (hQ : ∀ i, i < n → tp_line (pv (st_r n u).2 3) i ∧ ¬ pv (st_r n u).2 3 0 i = -1) : tc_C tcx G l yT_shorten wT_shorten r0T_shorten 0 0 [.ref (tc_ad G 0)] u (tc_Ki (nI (st_r n u).1) (st_sh n u)) := by
  refine tw_ofV (own := "TracedCode") [some (.ref (tc_ad G 0)), none] (by decide +kernel) rfl (Nat.le_of_ble_eq_true rfl) (by rfl) (fun p e s m args below meth c => ?_)
  refine tv_aload_n (pc := 0) dT_shorten_0 (by rfl) ?_
  refine tv_getR (pc := 1) 1 tb_0 (by rfl) uwT_ (by decide) wm_136 (by rfl) dT_shorten_1 ?_
  refine tv_aload_n (pc := 4) dT_shorten_4 (by rfl) ?_
  refine tv_getR (pc := 5) 0 tb_0 (by rfl) uwT_ (by decide) wm_135 (by rfl) dT_shorten_5 ?_
  refine tv_callVv (pc := 8) [_] tb_7 (by rfl) (c_C_takeLines l G u hs hn) (kVC_takeLines wm_166 ⟨by decide, by decide⟩) (by rfl) (Nat.le_of_ble_eq_true rfl) dT_shorten_8 ⟨by decide, by decide⟩ ?_
  refine tv_aload_n (pc := 11) dT_shorten_11 (by rfl) ?_
  refine tv_getR (pc := 12) 2 tb_0 (by rfl) uwT_ (by decide) wm_137 (by rfl) dT_shorten_12 ?_
  refine tv_aload_n (pc := 15) dT_shorten_15 (by rfl) ?_
  refine tv_getR (pc := 16) 1 tb_0 (by rfl) uwT_ (by decide) wm_136 (by rfl) dT_shorten_16 ?_
  refine tv_callVi (pc := 19) [_] tb_13 (by rfl) (c_S_changingRounds l G (tc_take u n) hn hI) (kVS_changingRounds wm_173 ⟨by decide, by decide⟩) (by rfl) (Nat.le_of_ble_eq_true rfl) dT_shorten_19 ⟨by decide, by decide⟩ ?_
  refine tv_istore1 (pc := 22) dT_shorten_22 (by rfl) ?_
  refine tv_aload_n (pc := 23) dT_shorten_23 (by rfl) ?_
  refine tv_getR (pc := 24) 3 tb_0 (by rfl) uwT_ (by decide) wm_138 (by rfl) dT_shorten_24 ?_
  refine tv_aload_n (pc := 27) dT_shorten_27 (by rfl) ?_
  refine tv_getR (pc := 28) 0 tb_0 (by rfl) uwT_ (by decide) wm_135 (by rfl) dT_shorten_28 ?_
  refine tv_aload_n (pc := 31) dT_shorten_31 (by rfl) ?_
  refine tv_getR (pc := 32) 1 tb_0 (by rfl) uwT_ (by decide) wm_136 (by rfl) dT_shorten_32 ?_
  refine tv_callVv (pc := 35) [_, _] tb_24 (by rfl) (c_K_find l G (st_r n u).2 hJ.1 hn hJ.2.1 hQ) (kVK_find wm_301 ⟨by decide, by decide⟩) (by rfl) (Nat.le_of_ble_eq_true rfl) dT_shorten_35 ⟨by decide, by decide⟩ ?_
  refine tv_aload_n (pc := 38) dT_shorten_38 (by rfl) ?_
  refine tv_getR (pc := 39) 4 tb_0 (by rfl) uwT_ (by decide) wm_139 (by rfl) dT_shorten_39 ?_
  refine tv_callVv (pc := 42) [] tb_47 (by rfl) (c_R_begin l G _) (kVR_begin wm_308 ⟨by decide, by decide⟩) (by rfl) (Nat.le_of_ble_eq_true rfl) dT_shorten_42 ⟨by decide, by decide⟩ ?_
  refine tv_aload_n (pc := 45) dT_shorten_45 (by rfl) ?_
  refine tv_iconst (v := 1) (pc := 46) dT_shorten_46 (by decide) ?_
  refine tv_putI (ty := .boolean) (pc := 47) 5 tyT_ tb_0 (by rfl) uwT_ (by decide) wm_140 okT_ nmT_ (by rfl) (by decide +kernel) (by rfl) (by rfl) (by rfl) dT_shorten_47 ?_
  refine tv_iload_n (pc := 50) dT_shorten_50 (by rfl) ?_
  exact tv_iret (pc := 51) dT_shorten_51 rfl (Nat.le_refl _) (Nat.le_refl _) ⟨rfl, rfl⟩
set_option maxRecDepth 100000 in
set_option maxHeartbeats 4000000 in
theorem c_T_kept (l : Launch) (G : tc_G) (u : tc_S) (hm : ¬ u 0 5 = 0) {n : Nat} (hs : u 7 1 = nI n) (hn : n ≤ 16) : tc_C tcx G l yT_kept wT_kept r0T_kept 0 0 [.ref (tc_ad G 0)] u (tc_Ki (nI (tp_cn (pv u 9) n)) u) := by
  refine tw_ofV (own := "TracedCode") [some (.ref (tc_ad G 0))] (by decide +kernel) rfl (Nat.le_of_ble_eq_true rfl) (by rfl) (fun p e s m args below meth c => ?_)
  refine tv_aload_n (pc := 0) dT_kept_0 (by rfl) ?_
  refine tv_callVv (pc := 1) [] tb_0 (by rfl) (c_T_requireShortProgram l G u hm) (kVT_requireShortProgram wm_471 ⟨by decide, by decide⟩) (by rfl) (Nat.le_of_ble_eq_true rfl) dT_kept_1 ⟨by decide, by decide⟩ ?_
  refine tv_aload_n (pc := 4) dT_kept_4 (by rfl) ?_
  refine tv_getR (pc := 5) 1 tb_0 (by rfl) uwT_ (by decide) wm_136 (by rfl) dT_kept_5 ?_
  refine tv_callVi (pc := 8) [] tb_7 (by rfl) (c_C_fullLines l G u code_7 hs hn) (kVC_fullLines wm_475 ⟨by decide, by decide⟩) (by rfl) (Nat.le_of_ble_eq_true rfl) dT_kept_8 ⟨by decide, by decide⟩ ?_
  exact tv_iret (pc := 11) dT_kept_11 rfl (Nat.le_refl _) (Nat.le_refl _) ⟨rfl, rfl⟩
set_option maxRecDepth 100000 in
set_option maxHeartbeats 4000000 in
theorem t_T_kept_M (l : Launch) (hl : l.stackTraces = false) (G : tc_G) (u : tc_S) (hm : u 0 5 = 0)  : tc_T tcx G l yT_kept wT_kept r1T_kept 1 6 [.ref (tc_ad G 0)] u u "java/lang/IllegalStateException" := by
  refine tw_ofT (own := "TracedCode") [some (.ref (tc_ad G 0))] (by decide +kernel) rfl (Nat.le_of_ble_eq_true rfl) (by rfl) (fun p e s m args below meth c => ?_)
  refine tv_aload_n (pc := 0) dT_kept_0 (by rfl) ?_
  exact tv_thrV (pc := 1) [] tb_0 (by rfl) (t_T_requireShortProgram l hl G u hm) (kV1T_requireShortProgram wm_471 ⟨by decide, by decide⟩) (by rfl) (Nat.le_of_ble_eq_true rfl) dT_kept_1 ⟨by decide, by decide⟩ (by decide) (by decide)
set_option maxRecDepth 100000 in
set_option maxHeartbeats 4000000 in
theorem c_T_part (l : Launch) (G : tc_G) (u : tc_S) (hm : ¬ u 0 5 = 0) {n : Nat} (hs : u 7 1 = nI n) (hn : n ≤ 16) {i j : Nat} (hi : i < n) (hj : j < 4) : tc_C tcx G l yT_part wT_part r0T_part 0 0 [.ref (tc_ad G 0), .int (nI i), .int (nI j)] u (tc_Ki (u (9 + j) i) u) := by
  refine tw_ofV (own := "TracedCode") [some (.ref (tc_ad G 0)), some (.int (nI i)), some (.int (nI j))] (by decide +kernel) rfl (Nat.le_of_ble_eq_true rfl) (by rfl) (fun p e s m args below meth c => ?_)
  refine tv_aload_n (pc := 0) dT_part_0 (by rfl) ?_
  refine tv_callVv (pc := 1) [] tb_0 (by rfl) (c_T_requireShortProgram l G u hm) (kVT_requireShortProgram wm_471 ⟨by decide, by decide⟩) (by rfl) (Nat.le_of_ble_eq_true rfl) dT_part_1 ⟨by decide, by decide⟩ ?_
  refine tv_iload_n (pc := 4) dT_part_4 (by rfl) ?_
  refine tv_aload_n (pc := 5) dT_part_5 (by rfl) ?_
  refine tv_getR (pc := 6) 1 tb_0 (by rfl) uwT_ (by decide) wm_136 (by rfl) dT_part_6 ?_
  refine tv_callVi (pc := 9) [] tb_7 (by rfl) (c_C_size l G u code_7) (kVC_size wm_403 ⟨by decide, by decide⟩) (by rfl) (Nat.le_of_ble_eq_true rfl) dT_part_9 ⟨by decide, by decide⟩ ?_
  refine tv_callSi (pc := 12) [_, _] (c_T_isBelow l G u _ _) (kST_isBelow wm_329 ⟨by decide, by decide⟩) (by rfl) (Nat.le_of_ble_eq_true rfl) dT_part_12 ⟨by decide, by decide⟩ ?_
  refine tv_if_eq (pc := 15) 30 dT_part_15 (by decide) (fun h => absurd h (tp_b_1 (by rw [hs]; exact tq_of (by omega) hi))) (fun _ => ?_)
  refine tv_iload_n (pc := 18) dT_part_18 (by rfl) ?_
  refine tv_iconst (v := 4) (pc := 19) dT_part_19 (by decide) ?_
  refine tv_callSi (pc := 20) [_, _] (c_T_isBelow l G u _ _) (kST_isBelow wm_329 ⟨by decide, by decide⟩) (by rfl) (Nat.le_of_ble_eq_true rfl) dT_part_20 ⟨by decide, by decide⟩ ?_
  refine tv_if_eq (pc := 23) 30 dT_part_23 (by decide) (fun h => absurd h (tp_b_1 (tq_of (b := 4) (by decide) hj))) (fun _ => ?_)
  refine tv_iconst (v := 1) (pc := 26) dT_part_26 (by decide) ?_
  refine tv_goto (pc := 27) 31 dT_part_27 (by decide) ?_
  refine tv_callSv (pc := 31) [_] (c_T_requireIndex l G u (by decide)) (kST_requireIndex wm_488 ⟨by decide, by decide⟩) (by rfl) (Nat.le_of_ble_eq_true rfl) dT_part_31 ⟨by decide, by decide⟩ ?_
  refine tv_aload_n (pc := 34) dT_part_34 (by rfl) ?_
  refine tv_getR (pc := 35) 1 tb_0 (by rfl) uwT_ (by decide) wm_136 (by rfl) dT_part_35 ?_
  refine tv_iload_n (pc := 38) dT_part_38 (by rfl) ?_
  refine tv_iload_n (pc := 39) dT_part_39 (by rfl) ?_
  refine tv_callVi (pc := 40) [_, _] tb_7 (by rfl) (c_C_number l G u code_7 (tc_ixN (by omega) (by decide)) (tc_ixN hj (by decide))) (kVC_number wm_506 ⟨by decide, by decide⟩) (by rfl) (Nat.le_of_ble_eq_true rfl) dT_part_40 ⟨by decide, by decide⟩ ?_
  exact tv_iret (pc := 43) dT_part_43 rfl (Nat.le_refl _) (Nat.le_refl _) ⟨rfl, rfl⟩
set_option maxRecDepth 100000 in
set_option maxHeartbeats 4000000 in
theorem t_T_part_M (l : Launch) (hl : l.stackTraces = false) (G : tc_G) (u : tc_S) (hm : u 0 5 = 0) (x y : Int32) : tc_T tcx G l yT_part wT_part r1T_part 1 6 [.ref (tc_ad G 0), .int x, .int y] u u "java/lang/IllegalStateException" := by
  refine tw_ofT (own := "TracedCode") [some (.ref (tc_ad G 0)), some (.int x), some (.int y)] (by decide +kernel) rfl (Nat.le_of_ble_eq_true rfl) (by rfl) (fun p e s m args below meth c => ?_)
  refine tv_aload_n (pc := 0) dT_part_0 (by rfl) ?_
  exact tv_thrV (pc := 1) [] tb_0 (by rfl) (t_T_requireShortProgram l hl G u hm) (kV1T_requireShortProgram wm_471 ⟨by decide, by decide⟩) (by rfl) (Nat.le_of_ble_eq_true rfl) dT_part_1 ⟨by decide, by decide⟩ (by decide) (by decide)
set_option maxRecDepth 100000 in
set_option maxHeartbeats 4000000 in
theorem t_T_part_I (l : Launch) (hl : l.stackTraces = false) (G : tc_G) (u : tc_S) (hm : ¬ u 0 5 = 0) {n : Nat} (hs : u 7 1 = nI n) (x y : Int32) (h : ¬ ((¬ x < 0 ∧ ¬ nI n ≤ x) ∧ (¬ y < 0 ∧ ¬ 4 ≤ y))) : tc_T tcx G l yT_part wT_part r1T_part 1 6 [.ref (tc_ad G 0), .int x, .int y] u u "java/lang/IndexOutOfBoundsException" := by
  refine tw_ofT (own := "TracedCode") [some (.ref (tc_ad G 0)), some (.int x), some (.int y)] (by decide +kernel) rfl (Nat.le_of_ble_eq_true rfl) (by rfl) (fun p e s m args below meth c => ?_)
  refine tv_aload_n (pc := 0) dT_part_0 (by rfl) ?_
  refine tv_callVv (pc := 1) [] tb_0 (by rfl) (c_T_requireShortProgram l G u hm) (kVT_requireShortProgram wm_471 ⟨by decide, by decide⟩) (by rfl) (Nat.le_of_ble_eq_true rfl) dT_part_1 ⟨by decide, by decide⟩ ?_
  refine tv_iload_n (pc := 4) dT_part_4 (by rfl) ?_
  refine tv_aload_n (pc := 5) dT_part_5 (by rfl) ?_
  refine tv_getR (pc := 6) 1 tb_0 (by rfl) uwT_ (by decide) wm_136 (by rfl) dT_part_6 ?_
  refine tv_callVi (pc := 9) [] tb_7 (by rfl) (c_C_size l G u code_7) (kVC_size wm_403 ⟨by decide, by decide⟩) (by rfl) (Nat.le_of_ble_eq_true rfl) dT_part_9 ⟨by decide, by decide⟩ ?_
  rw [hs]
  refine tv_callSi (pc := 12) [_, _] (c_T_isBelow l G u _ _) (kST_isBelow wm_329 ⟨by decide, by decide⟩) (by rfl) (Nat.le_of_ble_eq_true rfl) dT_part_12 ⟨by decide, by decide⟩ ?_
  refine tv_if_eq (pc := 15) 30 dT_part_15 (by decide) (fun h15 => ?_) (fun h15 => ?_)
  · skip
    refine tv_iconst (v := 0) (pc := 30) dT_part_30 (by decide) ?_
    exact tv_thrS (pc := 31) [_] (t_T_requireIndex l hl G u) (kS1T_requireIndex wm_488 ⟨by decide, by decide⟩) (by rfl) (Nat.le_of_ble_eq_true rfl) dT_part_31 ⟨by decide, by decide⟩ (by decide) (by decide)
  · skip
    refine tv_iload_n (pc := 18) dT_part_18 (by rfl) ?_
    refine tv_iconst (v := 4) (pc := 19) dT_part_19 (by decide) ?_
    refine tv_callSi (pc := 20) [_, _] (c_T_isBelow l G u _ _) (kST_isBelow wm_329 ⟨by decide, by decide⟩) (by rfl) (Nat.le_of_ble_eq_true rfl) dT_part_20 ⟨by decide, by decide⟩ ?_
    refine tv_if_eq (pc := 23) 30 dT_part_23 (by decide) (fun h23 => ?_) (fun h23 => ?_)
    · skip
      refine tv_iconst (v := 0) (pc := 30) dT_part_30 (by decide) ?_
      exact tv_thrS (pc := 31) [_] (t_T_requireIndex l hl G u) (kS1T_requireIndex wm_488 ⟨by decide, by decide⟩) (by rfl) (Nat.le_of_ble_eq_true rfl) dT_part_31 ⟨by decide, by decide⟩ (by decide) (by decide)
    · skip
      exact absurd ⟨tp_b_p h15, tp_b_p h23⟩ h
set_option maxRecDepth 100000 in
set_option maxHeartbeats 4000000 in
theorem c_T_where (l : Launch) (G : tc_G) (u : tc_S) (hm : ¬ u 0 5 = 0) {n : Nat} (hs : u 7 1 = nI n) (hn : n ≤ 16) {i v : Nat} (hi : i ≤ n) (hv : v < 3) : tc_C tcx G l yT_where wT_where r0T_where 0 0 [.ref (tc_ad G 0), .int (nI i), .int (nI v)] u (tc_Ki (sk_pf (u (26 + (6 + v)) i) 7 0) u) := by
  refine tw_ofV (own := "TracedCode") [some (.ref (tc_ad G 0)), some (.int (nI i)), some (.int (nI v))] (by decide +kernel) rfl (Nat.le_of_ble_eq_true rfl) (by rfl) (fun p e s m args below meth c => ?_)
  refine tv_aload_n (pc := 0) dT_where_0 (by rfl) ?_
  refine tv_callVv (pc := 1) [] tb_0 (by rfl) (c_T_requireShortProgram l G u hm) (kVT_requireShortProgram wm_471 ⟨by decide, by decide⟩) (by rfl) (Nat.le_of_ble_eq_true rfl) dT_where_1 ⟨by decide, by decide⟩ ?_
  refine tv_aload_n (pc := 4) dT_where_4 (by rfl) ?_
  refine tv_iload_n (pc := 5) dT_where_5 (by rfl) ?_
  refine tv_callVi (pc := 6) [_] tb_0 (by rfl) (c_T_isPoint l G u hs _) (kVT_isPoint wm_514 ⟨by decide, by decide⟩) (by rfl) (Nat.le_of_ble_eq_true rfl) dT_where_6 ⟨by decide, by decide⟩ ?_
  refine tv_if_eq (pc := 9) 23 dT_where_9 (by decide) (fun h => absurd h (tp_b_1 (tq_of (by omega) (by omega)))) (fun _ => ?_)
  refine tv_iload_n (pc := 12) dT_where_12 (by rfl) ?_
  refine tv_callSi (pc := 13) [_] (c_T_isVariable l G u _) (kST_isVariable wm_461 ⟨by decide, by decide⟩) (by rfl) (Nat.le_of_ble_eq_true rfl) dT_where_13 ⟨by decide, by decide⟩ ?_
  refine tv_if_eq (pc := 16) 23 dT_where_16 (by decide) (fun h => absurd h (tp_b_1 (tq_of (b := 3) (by decide) hv))) (fun _ => ?_)
  refine tv_iconst (v := 1) (pc := 19) dT_where_19 (by decide) ?_
  refine tv_goto (pc := 20) 24 dT_where_20 (by decide) ?_
  refine tv_callSv (pc := 24) [_] (c_T_requireIndex l G u (by decide)) (kST_requireIndex wm_488 ⟨by decide, by decide⟩) (by rfl) (Nat.le_of_ble_eq_true rfl) dT_where_24 ⟨by decide, by decide⟩ ?_
  refine tv_aload_n (pc := 27) dT_where_27 (by rfl) ?_
  refine tv_getR (pc := 28) 3 tb_0 (by rfl) uwT_ (by decide) wm_138 (by rfl) dT_where_28 ?_
  refine tv_iload_n (pc := 31) dT_where_31 (by rfl) ?_
  refine tv_iload_n (pc := 32) dT_where_32 (by rfl) ?_
  refine tv_callVi (pc := 33) [_, _] tb_24 (by rfl) (c_K_placeOfVariable l G u (tc_ixN (by omega) (by decide)) hv) (kVK_placeOfVariable wm_518 ⟨by decide, by decide⟩) (by rfl) (Nat.le_of_ble_eq_true rfl) dT_where_33 ⟨by decide, by decide⟩ ?_
  exact tv_iret (pc := 36) dT_where_36 rfl (Nat.le_refl _) (Nat.le_refl _) ⟨rfl, rfl⟩
set_option maxRecDepth 100000 in
set_option maxHeartbeats 4000000 in
theorem t_T_where_M (l : Launch) (hl : l.stackTraces = false) (G : tc_G) (u : tc_S) (hm : u 0 5 = 0) (x y : Int32) : tc_T tcx G l yT_where wT_where r1T_where 1 6 [.ref (tc_ad G 0), .int x, .int y] u u "java/lang/IllegalStateException" := by
  refine tw_ofT (own := "TracedCode") [some (.ref (tc_ad G 0)), some (.int x), some (.int y)] (by decide +kernel) rfl (Nat.le_of_ble_eq_true rfl) (by rfl) (fun p e s m args below meth c => ?_)
  refine tv_aload_n (pc := 0) dT_where_0 (by rfl) ?_
  exact tv_thrV (pc := 1) [] tb_0 (by rfl) (t_T_requireShortProgram l hl G u hm) (kV1T_requireShortProgram wm_471 ⟨by decide, by decide⟩) (by rfl) (Nat.le_of_ble_eq_true rfl) dT_where_1 ⟨by decide, by decide⟩ (by decide) (by decide)
set_option maxRecDepth 100000 in
set_option maxHeartbeats 4000000 in
theorem t_T_where_I (l : Launch) (hl : l.stackTraces = false) (G : tc_G) (u : tc_S) (hm : ¬ u 0 5 = 0) {n : Nat} (hs : u 7 1 = nI n) (x y : Int32) (h : ¬ ((¬ x < 0 ∧ ¬ nI (n + 1) ≤ x) ∧ (¬ y < 0 ∧ ¬ 3 ≤ y))) : tc_T tcx G l yT_where wT_where r1T_where 1 6 [.ref (tc_ad G 0), .int x, .int y] u u "java/lang/IndexOutOfBoundsException" := by
  refine tw_ofT (own := "TracedCode") [some (.ref (tc_ad G 0)), some (.int x), some (.int y)] (by decide +kernel) rfl (Nat.le_of_ble_eq_true rfl) (by rfl) (fun p e s m args below meth c => ?_)
  refine tv_aload_n (pc := 0) dT_where_0 (by rfl) ?_
  refine tv_callVv (pc := 1) [] tb_0 (by rfl) (c_T_requireShortProgram l G u hm) (kVT_requireShortProgram wm_471 ⟨by decide, by decide⟩) (by rfl) (Nat.le_of_ble_eq_true rfl) dT_where_1 ⟨by decide, by decide⟩ ?_
  refine tv_aload_n (pc := 4) dT_where_4 (by rfl) ?_
  refine tv_iload_n (pc := 5) dT_where_5 (by rfl) ?_
  refine tv_callVi (pc := 6) [_] tb_0 (by rfl) (c_T_isPoint l G u hs _) (kVT_isPoint wm_514 ⟨by decide, by decide⟩) (by rfl) (Nat.le_of_ble_eq_true rfl) dT_where_6 ⟨by decide, by decide⟩ ?_
  refine tv_if_eq (pc := 9) 23 dT_where_9 (by decide) (fun h9 => ?_) (fun h9 => ?_)
  · skip
    refine tv_iconst (v := 0) (pc := 23) dT_where_23 (by decide) ?_
    exact tv_thrS (pc := 24) [_] (t_T_requireIndex l hl G u) (kS1T_requireIndex wm_488 ⟨by decide, by decide⟩) (by rfl) (Nat.le_of_ble_eq_true rfl) dT_where_24 ⟨by decide, by decide⟩ (by decide) (by decide)
  · skip
    refine tv_iload_n (pc := 12) dT_where_12 (by rfl) ?_
    refine tv_callSi (pc := 13) [_] (c_T_isVariable l G u _) (kST_isVariable wm_461 ⟨by decide, by decide⟩) (by rfl) (Nat.le_of_ble_eq_true rfl) dT_where_13 ⟨by decide, by decide⟩ ?_
    refine tv_if_eq (pc := 16) 23 dT_where_16 (by decide) (fun h16 => ?_) (fun h16 => ?_)
    · skip
      refine tv_iconst (v := 0) (pc := 23) dT_where_23 (by decide) ?_
      exact tv_thrS (pc := 24) [_] (t_T_requireIndex l hl G u) (kS1T_requireIndex wm_488 ⟨by decide, by decide⟩) (by rfl) (Nat.le_of_ble_eq_true rfl) dT_where_24 ⟨by decide, by decide⟩ (by decide) (by decide)
    · skip
      exact absurd ⟨tp_b_p h9, tp_b_p h16⟩ h
set_option maxRecDepth 100000 in
set_option maxHeartbeats 4000000 in
theorem c_T_carriers (l : Launch) (G : tc_G) (u : tc_S) (hm : ¬ u 0 5 = 0) {n : Nat} (hs : u 7 1 = nI n) (hn : n ≤ 16) {i r : Nat} (hi : i ≤ n) (hr : r < 6) : tc_C tcx G l yT_carriers wT_carriers r0T_carriers 0 0 [.ref (tc_ad G 0), .int (nI i), .int (nI r)] u (tc_Ki (u (26 + r) i &&& 63) u) := by
  refine tw_ofV (own := "TracedCode") [some (.ref (tc_ad G 0)), some (.int (nI i)), some (.int (nI r))] (by decide +kernel) rfl (Nat.le_of_ble_eq_true rfl) (by rfl) (fun p e s m args below meth c => ?_)
  refine tv_aload_n (pc := 0) dT_carriers_0 (by rfl) ?_
  refine tv_callVv (pc := 1) [] tb_0 (by rfl) (c_T_requireShortProgram l G u hm) (kVT_requireShortProgram wm_471 ⟨by decide, by decide⟩) (by rfl) (Nat.le_of_ble_eq_true rfl) dT_carriers_1 ⟨by decide, by decide⟩ ?_
  refine tv_aload_n (pc := 4) dT_carriers_4 (by rfl) ?_
  refine tv_iload_n (pc := 5) dT_carriers_5 (by rfl) ?_
  refine tv_callVi (pc := 6) [_] tb_0 (by rfl) (c_T_isPoint l G u hs _) (kVT_isPoint wm_514 ⟨by decide, by decide⟩) (by rfl) (Nat.le_of_ble_eq_true rfl) dT_carriers_6 ⟨by decide, by decide⟩ ?_
  refine tv_if_eq (pc := 9) 23 dT_carriers_9 (by decide) (fun h => absurd h (tp_b_1 (tq_of (by omega) (by omega)))) (fun _ => ?_)
  refine tv_iload_n (pc := 12) dT_carriers_12 (by rfl) ?_
  refine tv_callSi (pc := 13) [_] (c_T_isRegister l G u _) (kST_isRegister wm_326 ⟨by decide, by decide⟩) (by rfl) (Nat.le_of_ble_eq_true rfl) dT_carriers_13 ⟨by decide, by decide⟩ ?_
  refine tv_if_eq (pc := 16) 23 dT_carriers_16 (by decide) (fun h => absurd h (tp_b_1 (tq_of (b := 6) (by decide) hr))) (fun _ => ?_)
  refine tv_iconst (v := 1) (pc := 19) dT_carriers_19 (by decide) ?_
  refine tv_goto (pc := 20) 24 dT_carriers_20 (by decide) ?_
  refine tv_callSv (pc := 24) [_] (c_T_requireIndex l G u (by decide)) (kST_requireIndex wm_488 ⟨by decide, by decide⟩) (by rfl) (Nat.le_of_ble_eq_true rfl) dT_carriers_24 ⟨by decide, by decide⟩ ?_
  refine tv_aload_n (pc := 27) dT_carriers_27 (by rfl) ?_
  refine tv_getR (pc := 28) 3 tb_0 (by rfl) uwT_ (by decide) wm_138 (by rfl) dT_carriers_28 ?_
  refine tv_iload_n (pc := 31) dT_carriers_31 (by rfl) ?_
  refine tv_iload_n (pc := 32) dT_carriers_32 (by rfl) ?_
  refine tv_callVi (pc := 33) [_, _] tb_24 (by rfl) (c_K_ofRegister l G u (tc_ixN (by omega) (by decide)) (tc_ixN (by omega) (by decide))) (kVK_ofRegister wm_529 ⟨by decide, by decide⟩) (by rfl) (Nat.le_of_ble_eq_true rfl) dT_carriers_33 ⟨by decide, by decide⟩ ?_
  exact tv_iret (pc := 36) dT_carriers_36 rfl (Nat.le_refl _) (Nat.le_refl _) ⟨rfl, rfl⟩
set_option maxRecDepth 100000 in
set_option maxHeartbeats 4000000 in
theorem t_T_carriers_M (l : Launch) (hl : l.stackTraces = false) (G : tc_G) (u : tc_S) (hm : u 0 5 = 0) (x y : Int32) : tc_T tcx G l yT_carriers wT_carriers r1T_carriers 1 6 [.ref (tc_ad G 0), .int x, .int y] u u "java/lang/IllegalStateException" := by
  refine tw_ofT (own := "TracedCode") [some (.ref (tc_ad G 0)), some (.int x), some (.int y)] (by decide +kernel) rfl (Nat.le_of_ble_eq_true rfl) (by rfl) (fun p e s m args below meth c => ?_)
  refine tv_aload_n (pc := 0) dT_carriers_0 (by rfl) ?_
  exact tv_thrV (pc := 1) [] tb_0 (by rfl) (t_T_requireShortProgram l hl G u hm) (kV1T_requireShortProgram wm_471 ⟨by decide, by decide⟩) (by rfl) (Nat.le_of_ble_eq_true rfl) dT_carriers_1 ⟨by decide, by decide⟩ (by decide) (by decide)
set_option maxRecDepth 100000 in
set_option maxHeartbeats 4000000 in
theorem t_T_carriers_I (l : Launch) (hl : l.stackTraces = false) (G : tc_G) (u : tc_S) (hm : ¬ u 0 5 = 0) {n : Nat} (hs : u 7 1 = nI n) (x y : Int32) (h : ¬ ((¬ x < 0 ∧ ¬ nI (n + 1) ≤ x) ∧ (¬ y < 0 ∧ ¬ 6 ≤ y))) : tc_T tcx G l yT_carriers wT_carriers r1T_carriers 1 6 [.ref (tc_ad G 0), .int x, .int y] u u "java/lang/IndexOutOfBoundsException" := by
  refine tw_ofT (own := "TracedCode") [some (.ref (tc_ad G 0)), some (.int x), some (.int y)] (by decide +kernel) rfl (Nat.le_of_ble_eq_true rfl) (by rfl) (fun p e s m args below meth c => ?_)
  refine tv_aload_n (pc := 0) dT_carriers_0 (by rfl) ?_
  refine tv_callVv (pc := 1) [] tb_0 (by rfl) (c_T_requireShortProgram l G u hm) (kVT_requireShortProgram wm_471 ⟨by decide, by decide⟩) (by rfl) (Nat.le_of_ble_eq_true rfl) dT_carriers_1 ⟨by decide, by decide⟩ ?_
  refine tv_aload_n (pc := 4) dT_carriers_4 (by rfl) ?_
  refine tv_iload_n (pc := 5) dT_carriers_5 (by rfl) ?_
  refine tv_callVi (pc := 6) [_] tb_0 (by rfl) (c_T_isPoint l G u hs _) (kVT_isPoint wm_514 ⟨by decide, by decide⟩) (by rfl) (Nat.le_of_ble_eq_true rfl) dT_carriers_6 ⟨by decide, by decide⟩ ?_
  refine tv_if_eq (pc := 9) 23 dT_carriers_9 (by decide) (fun h9 => ?_) (fun h9 => ?_)
  · skip
    refine tv_iconst (v := 0) (pc := 23) dT_carriers_23 (by decide) ?_
    exact tv_thrS (pc := 24) [_] (t_T_requireIndex l hl G u) (kS1T_requireIndex wm_488 ⟨by decide, by decide⟩) (by rfl) (Nat.le_of_ble_eq_true rfl) dT_carriers_24 ⟨by decide, by decide⟩ (by decide) (by decide)
  · skip
    refine tv_iload_n (pc := 12) dT_carriers_12 (by rfl) ?_
    refine tv_callSi (pc := 13) [_] (c_T_isRegister l G u _) (kST_isRegister wm_326 ⟨by decide, by decide⟩) (by rfl) (Nat.le_of_ble_eq_true rfl) dT_carriers_13 ⟨by decide, by decide⟩ ?_
    refine tv_if_eq (pc := 16) 23 dT_carriers_16 (by decide) (fun h16 => ?_) (fun h16 => ?_)
    · skip
      refine tv_iconst (v := 0) (pc := 23) dT_carriers_23 (by decide) ?_
      exact tv_thrS (pc := 24) [_] (t_T_requireIndex l hl G u) (kS1T_requireIndex wm_488 ⟨by decide, by decide⟩) (by rfl) (Nat.le_of_ble_eq_true rfl) dT_carriers_24 ⟨by decide, by decide⟩ (by decide) (by decide)
    · skip
      exact absurd ⟨tp_b_p h9, tp_b_p h16⟩ h
set_option maxRecDepth 100000 in
set_option maxHeartbeats 4000000 in
theorem c_T_restart (l : Launch) (G : tc_G) (u : tc_S) (hm : ¬ u 0 5 = 0)  : tc_C tcx G l yT_restart wT_restart r0T_restart 0 0 [.ref (tc_ad G 0)] u (tc_Kv (sn_begin u)) := by
  refine tw_ofV (own := "TracedCode") [some (.ref (tc_ad G 0))] (by decide +kernel) rfl (Nat.le_of_ble_eq_true rfl) (by rfl) (fun p e s m args below meth c => ?_)
  refine tv_aload_n (pc := 0) dT_restart_0 (by rfl) ?_
  refine tv_callVv (pc := 1) [] tb_0 (by rfl) (c_T_requireShortProgram l G u hm) (kVT_requireShortProgram wm_471 ⟨by decide, by decide⟩) (by rfl) (Nat.le_of_ble_eq_true rfl) dT_restart_1 ⟨by decide, by decide⟩ ?_
  refine tv_aload_n (pc := 4) dT_restart_4 (by rfl) ?_
  refine tv_getR (pc := 5) 4 tb_0 (by rfl) uwT_ (by decide) wm_139 (by rfl) dT_restart_5 ?_
  refine tv_callVv (pc := 8) [] tb_47 (by rfl) (c_R_begin l G u) (kVR_begin wm_308 ⟨by decide, by decide⟩) (by rfl) (Nat.le_of_ble_eq_true rfl) dT_restart_8 ⟨by decide, by decide⟩ ?_
  exact tv_vret (pc := 11) dT_restart_11 rfl (Nat.le_refl _) (Nat.le_refl _) ⟨rfl, rfl⟩
set_option maxRecDepth 100000 in
set_option maxHeartbeats 4000000 in
theorem t_T_restart_M (l : Launch) (hl : l.stackTraces = false) (G : tc_G) (u : tc_S) (hm : u 0 5 = 0)  : tc_T tcx G l yT_restart wT_restart r1T_restart 1 6 [.ref (tc_ad G 0)] u u "java/lang/IllegalStateException" := by
  refine tw_ofT (own := "TracedCode") [some (.ref (tc_ad G 0))] (by decide +kernel) rfl (Nat.le_of_ble_eq_true rfl) (by rfl) (fun p e s m args below meth c => ?_)
  refine tv_aload_n (pc := 0) dT_restart_0 (by rfl) ?_
  exact tv_thrV (pc := 1) [] tb_0 (by rfl) (t_T_requireShortProgram l hl G u hm) (kV1T_requireShortProgram wm_471 ⟨by decide, by decide⟩) (by rfl) (Nat.le_of_ble_eq_true rfl) dT_restart_1 ⟨by decide, by decide⟩ (by decide) (by decide)
set_option maxRecDepth 100000 in
set_option maxHeartbeats 4000000 in
theorem c_T_step0 (l : Launch) (G : tc_G) (u : tc_S) (hm : ¬ u 0 5 = 0) {n : Nat} (hs : u 1 1 = nI n) (h : nI n ≤ u 47 4 ∨ ¬ u 47 5 < 200) : tc_C tcx G l yT_step wT_step r0T_step 0 0 [.ref (tc_ad G 0)] u (tc_Ki (-1) u) := by
  refine tw_ofV (own := "TracedCode") [some (.ref (tc_ad G 0))] (by decide +kernel) rfl (Nat.le_of_ble_eq_true rfl) (by rfl) (fun p e s m args below meth c => ?_)
  refine tv_aload_n (pc := 0) dT_step_0 (by rfl) ?_
  refine tv_callVv (pc := 1) [] tb_0 (by rfl) (c_T_requireShortProgram l G u hm) (kVT_requireShortProgram wm_471 ⟨by decide, by decide⟩) (by rfl) (Nat.le_of_ble_eq_true rfl) dT_step_1 ⟨by decide, by decide⟩ ?_
  refine tv_aload_n (pc := 4) dT_step_4 (by rfl) ?_
  refine tv_getR (pc := 5) 4 tb_0 (by rfl) uwT_ (by decide) wm_139 (by rfl) dT_step_5 ?_
  refine tv_aload_n (pc := 8) dT_step_8 (by rfl) ?_
  refine tv_getR (pc := 9) 0 tb_0 (by rfl) uwT_ (by decide) wm_135 (by rfl) dT_step_9 ?_
  refine tv_aload_n (pc := 12) dT_step_12 (by rfl) ?_
  refine tv_getR (pc := 13) 1 tb_0 (by rfl) uwT_ (by decide) wm_136 (by rfl) dT_step_13 ?_
  refine tv_callVi (pc := 16) [_, _] tb_47 (by rfl) (c_R_advance0 l G u hs h) (kVR_advance wm_547 ⟨by decide, by decide⟩) (by rfl) (Nat.le_of_ble_eq_true rfl) dT_step_16 ⟨by decide, by decide⟩ ?_
  exact tv_iret (pc := 19) dT_step_19 rfl (Nat.le_refl _) (Nat.le_refl _) ⟨rfl, rfl⟩
set_option maxRecDepth 100000 in
set_option maxHeartbeats 4000000 in
theorem c_T_step (l : Launch) (G : tc_G) (u : tc_S) (hm : ¬ u 0 5 = 0) {n q : Nat} (hs : u 1 1 = nI n) (hs7 : u 7 1 = nI n) (hn : n ≤ 16) (hq : u 47 4 = nI q) (hqn : q < n) (ht : u 47 5 < 200) (hl : tp_line (pv u 3) q) (hl1 : tp_line (pv u 9) q) (hc : ¬ u 48 2 < 0) (hc1 : ¬ u 51 2 < 0) : tc_C tcx G l yT_step wT_step r0T_step 0 0 [.ref (tc_ad G 0)] u (tc_Ki (nI (sn_nx n (pv u 3) (pv u 9) q u)) (sn_step n (pv u 3) (pv u 9) q u)) := by
  refine tw_ofV (own := "TracedCode") [some (.ref (tc_ad G 0))] (by decide +kernel) rfl (Nat.le_of_ble_eq_true rfl) (by rfl) (fun p e s m args below meth c => ?_)
  refine tv_aload_n (pc := 0) dT_step_0 (by rfl) ?_
  refine tv_callVv (pc := 1) [] tb_0 (by rfl) (c_T_requireShortProgram l G u hm) (kVT_requireShortProgram wm_471 ⟨by decide, by decide⟩) (by rfl) (Nat.le_of_ble_eq_true rfl) dT_step_1 ⟨by decide, by decide⟩ ?_
  refine tv_aload_n (pc := 4) dT_step_4 (by rfl) ?_
  refine tv_getR (pc := 5) 4 tb_0 (by rfl) uwT_ (by decide) wm_139 (by rfl) dT_step_5 ?_
  refine tv_aload_n (pc := 8) dT_step_8 (by rfl) ?_
  refine tv_getR (pc := 9) 0 tb_0 (by rfl) uwT_ (by decide) wm_135 (by rfl) dT_step_9 ?_
  refine tv_aload_n (pc := 12) dT_step_12 (by rfl) ?_
  refine tv_getR (pc := 13) 1 tb_0 (by rfl) uwT_ (by decide) wm_136 (by rfl) dT_step_13 ?_
  refine tv_callVi (pc := 16) [_, _] tb_47 (by rfl) (c_R_advance l G u hs hs7 hn hq hqn ht hl hl1 hc hc1) (kVR_advance wm_547 ⟨by decide, by decide⟩) (by rfl) (Nat.le_of_ble_eq_true rfl) dT_step_16 ⟨by decide, by decide⟩ ?_
  exact tv_iret (pc := 19) dT_step_19 rfl (Nat.le_refl _) (Nat.le_refl _) ⟨rfl, rfl⟩
set_option maxRecDepth 100000 in
set_option maxHeartbeats 4000000 in
theorem t_T_step_M (l : Launch) (hl : l.stackTraces = false) (G : tc_G) (u : tc_S) (hm : u 0 5 = 0)  : tc_T tcx G l yT_step wT_step r1T_step 1 6 [.ref (tc_ad G 0)] u u "java/lang/IllegalStateException" := by
  refine tw_ofT (own := "TracedCode") [some (.ref (tc_ad G 0))] (by decide +kernel) rfl (Nat.le_of_ble_eq_true rfl) (by rfl) (fun p e s m args below meth c => ?_)
  refine tv_aload_n (pc := 0) dT_step_0 (by rfl) ?_
  exact tv_thrV (pc := 1) [] tb_0 (by rfl) (t_T_requireShortProgram l hl G u hm) (kV1T_requireShortProgram wm_471 ⟨by decide, by decide⟩) (by rfl) (Nat.le_of_ble_eq_true rfl) dT_step_1 ⟨by decide, by decide⟩ (by decide) (by decide)
set_option maxRecDepth 100000 in
set_option maxHeartbeats 4000000 in
theorem c_T_line (l : Launch) (G : tc_G) (u : tc_S) (hm : ¬ u 0 5 = 0)  : tc_C tcx G l yT_line wT_line r0T_line 0 0 [.ref (tc_ad G 0)] u (tc_Ki (u 47 4) u) := by
  refine tw_ofV (own := "TracedCode") [some (.ref (tc_ad G 0))] (by decide +kernel) rfl (Nat.le_of_ble_eq_true rfl) (by rfl) (fun p e s m args below meth c => ?_)
  refine tv_aload_n (pc := 0) dT_line_0 (by rfl) ?_
  refine tv_callVv (pc := 1) [] tb_0 (by rfl) (c_T_requireShortProgram l G u hm) (kVT_requireShortProgram wm_471 ⟨by decide, by decide⟩) (by rfl) (Nat.le_of_ble_eq_true rfl) dT_line_1 ⟨by decide, by decide⟩ ?_
  refine tv_aload_n (pc := 4) dT_line_4 (by rfl) ?_
  refine tv_getR (pc := 5) 4 tb_0 (by rfl) uwT_ (by decide) wm_139 (by rfl) dT_line_5 ?_
  refine tv_callVi (pc := 8) [] tb_47 (by rfl) (c_R_position l G u) (kVR_position wm_580 ⟨by decide, by decide⟩) (by rfl) (Nat.le_of_ble_eq_true rfl) dT_line_8 ⟨by decide, by decide⟩ ?_
  exact tv_iret (pc := 11) dT_line_11 rfl (Nat.le_refl _) (Nat.le_refl _) ⟨rfl, rfl⟩
set_option maxRecDepth 100000 in
set_option maxHeartbeats 4000000 in
theorem t_T_line_M (l : Launch) (hl : l.stackTraces = false) (G : tc_G) (u : tc_S) (hm : u 0 5 = 0)  : tc_T tcx G l yT_line wT_line r1T_line 1 6 [.ref (tc_ad G 0)] u u "java/lang/IllegalStateException" := by
  refine tw_ofT (own := "TracedCode") [some (.ref (tc_ad G 0))] (by decide +kernel) rfl (Nat.le_of_ble_eq_true rfl) (by rfl) (fun p e s m args below meth c => ?_)
  refine tv_aload_n (pc := 0) dT_line_0 (by rfl) ?_
  exact tv_thrV (pc := 1) [] tb_0 (by rfl) (t_T_requireShortProgram l hl G u hm) (kV1T_requireShortProgram wm_471 ⟨by decide, by decide⟩) (by rfl) (Nat.le_of_ble_eq_true rfl) dT_line_1 ⟨by decide, by decide⟩ (by decide) (by decide)
set_option maxRecDepth 100000 in
set_option maxHeartbeats 4000000 in
theorem c_T_register1 (l : Launch) (G : tc_G) (u : tc_S) (hm : ¬ u 0 5 = 0) {r : Nat} (hr : r < 6) : tc_C tcx G l yT_register wT_register r0T_register 0 0 [.ref (tc_ad G 0), .int (nI r), .int 1] u (tc_Ki (u 52 r) u) := by
  refine tw_ofV (own := "TracedCode") [some (.ref (tc_ad G 0)), some (.int (nI r)), some (.int 1)] (by decide +kernel) rfl (Nat.le_of_ble_eq_true rfl) (by rfl) (fun p e s m args below meth c => ?_)
  refine tv_aload_n (pc := 0) dT_register_0 (by rfl) ?_
  refine tv_callVv (pc := 1) [] tb_0 (by rfl) (c_T_requireShortProgram l G u hm) (kVT_requireShortProgram wm_471 ⟨by decide, by decide⟩) (by rfl) (Nat.le_of_ble_eq_true rfl) dT_register_1 ⟨by decide, by decide⟩ ?_
  refine tv_iload_n (pc := 4) dT_register_4 (by rfl) ?_
  refine tv_callSi (pc := 5) [_] (c_T_isRegister l G u _) (kST_isRegister wm_326 ⟨by decide, by decide⟩) (by rfl) (Nat.le_of_ble_eq_true rfl) dT_register_5 ⟨by decide, by decide⟩ ?_
  refine tv_callSv (pc := 8) [_] (c_T_requireIndex l G u (tp_b_1 (tq_of (b := 6) (by decide) hr))) (kST_requireIndex wm_488 ⟨by decide, by decide⟩) (by rfl) (Nat.le_of_ble_eq_true rfl) dT_register_8 ⟨by decide, by decide⟩ ?_
  refine tv_aload_n (pc := 11) dT_register_11 (by rfl) ?_
  refine tv_getR (pc := 12) 4 tb_0 (by rfl) uwT_ (by decide) wm_139 (by rfl) dT_register_12 ?_
  refine tv_iload_n (pc := 15) dT_register_15 (by rfl) ?_
  refine tv_callVr (pc := 16) [_] tb_47 (by rfl) (c_R_machine1 l G u (by decide)) (kVR_machine wm_591 ⟨by decide, by decide⟩) (by rfl) (Nat.le_of_ble_eq_true rfl) dT_register_16 ⟨by decide, by decide⟩ ?_
  refine tv_iload_n (pc := 19) dT_register_19 (by rfl) ?_
  refine tv_callVi (pc := 20) [_] tb_51 (by rfl) (c_M_content l G u mach_51 (tc_ixN hr (by decide))) (kVM_content wm_595 ⟨by decide, by decide⟩) (by rfl) (Nat.le_of_ble_eq_true rfl) dT_register_20 ⟨by decide, by decide⟩ ?_
  exact tv_iret (pc := 23) dT_register_23 rfl (Nat.le_refl _) (Nat.le_refl _) ⟨rfl, rfl⟩
set_option maxRecDepth 100000 in
set_option maxHeartbeats 4000000 in
theorem c_T_output1 (l : Launch) (G : tc_G) (u : tc_S) (hm : ¬ u 0 5 = 0) {j c : Nat} (hc : u 51 2 = nI c) (hj : j < c) (hc2 : c ≤ 200) : tc_C tcx G l yT_output wT_output r0T_output 0 0 [.ref (tc_ad G 0), .int (nI j), .int 1] u (tc_Ki (u 53 j) u) := by
  refine tw_ofV (own := "TracedCode") [some (.ref (tc_ad G 0)), some (.int (nI j)), some (.int 1)] (by decide +kernel) rfl (Nat.le_of_ble_eq_true rfl) (by rfl) (fun p e s m args below meth c => ?_)
  refine tv_aload_n (pc := 0) dT_output_0 (by rfl) ?_
  refine tv_callVv (pc := 1) [] tb_0 (by rfl) (c_T_requireShortProgram l G u hm) (kVT_requireShortProgram wm_471 ⟨by decide, by decide⟩) (by rfl) (Nat.le_of_ble_eq_true rfl) dT_output_1 ⟨by decide, by decide⟩ ?_
  refine tv_iload_n (pc := 4) dT_output_4 (by rfl) ?_
  refine tv_aload_n (pc := 5) dT_output_5 (by rfl) ?_
  refine tv_getR (pc := 6) 4 tb_0 (by rfl) uwT_ (by decide) wm_139 (by rfl) dT_output_6 ?_
  refine tv_iload_n (pc := 9) dT_output_9 (by rfl) ?_
  refine tv_callVr (pc := 10) [_] tb_47 (by rfl) (c_R_machine1 l G u (by decide)) (kVR_machine wm_591 ⟨by decide, by decide⟩) (by rfl) (Nat.le_of_ble_eq_true rfl) dT_output_10 ⟨by decide, by decide⟩ ?_
  refine tv_callVi (pc := 13) [] tb_51 (by rfl) (c_M_outputCount l G u mach_51) (kVM_outputCount wm_603 ⟨by decide, by decide⟩) (by rfl) (Nat.le_of_ble_eq_true rfl) dT_output_13 ⟨by decide, by decide⟩ ?_
  refine tv_callSi (pc := 16) [_, _] (c_T_isBelow l G u _ _) (kST_isBelow wm_329 ⟨by decide, by decide⟩) (by rfl) (Nat.le_of_ble_eq_true rfl) dT_output_16 ⟨by decide, by decide⟩ ?_
  refine tv_callSv (pc := 19) [_] (c_T_requireIndex l G u (tp_b_1 (by rw [hc]; exact tq_of (by omega) hj))) (kST_requireIndex wm_488 ⟨by decide, by decide⟩) (by rfl) (Nat.le_of_ble_eq_true rfl) dT_output_19 ⟨by decide, by decide⟩ ?_
  refine tv_aload_n (pc := 22) dT_output_22 (by rfl) ?_
  refine tv_getR (pc := 23) 4 tb_0 (by rfl) uwT_ (by decide) wm_139 (by rfl) dT_output_23 ?_
  refine tv_iload_n (pc := 26) dT_output_26 (by rfl) ?_
  refine tv_callVr (pc := 27) [_] tb_47 (by rfl) (c_R_machine1 l G u (by decide)) (kVR_machine wm_591 ⟨by decide, by decide⟩) (by rfl) (Nat.le_of_ble_eq_true rfl) dT_output_27 ⟨by decide, by decide⟩ ?_
  refine tv_iload_n (pc := 30) dT_output_30 (by rfl) ?_
  refine tv_callVi (pc := 31) [_] tb_51 (by rfl) (c_M_outputAt l G u mach_51 (tc_ixN (by omega) (by decide))) (kVM_outputAt wm_607 ⟨by decide, by decide⟩) (by rfl) (Nat.le_of_ble_eq_true rfl) dT_output_31 ⟨by decide, by decide⟩ ?_
  exact tv_iret (pc := 34) dT_output_34 rfl (Nat.le_refl _) (Nat.le_refl _) ⟨rfl, rfl⟩
set_option maxRecDepth 100000 in
set_option maxHeartbeats 4000000 in
theorem t_T_output_I1 (l : Launch) (hl : l.stackTraces = false) (G : tc_G) (u : tc_S) (hm : ¬ u 0 5 = 0) {c : Nat} (hc : u 51 2 = nI c) (x : Int32) (h : ¬ (¬ x < 0 ∧ ¬ nI c ≤ x)) : tc_T tcx G l yT_output wT_output r1T_output 1 6 [.ref (tc_ad G 0), .int x, .int 1] u u "java/lang/IndexOutOfBoundsException" := by
  refine tw_ofT (own := "TracedCode") [some (.ref (tc_ad G 0)), some (.int x), some (.int 1)] (by decide +kernel) rfl (Nat.le_of_ble_eq_true rfl) (by rfl) (fun p e s m args below meth c => ?_)
  refine tv_aload_n (pc := 0) dT_output_0 (by rfl) ?_
  refine tv_callVv (pc := 1) [] tb_0 (by rfl) (c_T_requireShortProgram l G u hm) (kVT_requireShortProgram wm_471 ⟨by decide, by decide⟩) (by rfl) (Nat.le_of_ble_eq_true rfl) dT_output_1 ⟨by decide, by decide⟩ ?_
  refine tv_iload_n (pc := 4) dT_output_4 (by rfl) ?_
  refine tv_aload_n (pc := 5) dT_output_5 (by rfl) ?_
  refine tv_getR (pc := 6) 4 tb_0 (by rfl) uwT_ (by decide) wm_139 (by rfl) dT_output_6 ?_
  refine tv_iload_n (pc := 9) dT_output_9 (by rfl) ?_
  refine tv_callVr (pc := 10) [_] tb_47 (by rfl) (c_R_machine1 l G u (by decide)) (kVR_machine wm_591 ⟨by decide, by decide⟩) (by rfl) (Nat.le_of_ble_eq_true rfl) dT_output_10 ⟨by decide, by decide⟩ ?_
  refine tv_callVi (pc := 13) [] tb_51 (by rfl) (c_M_outputCount l G u mach_51) (kVM_outputCount wm_603 ⟨by decide, by decide⟩) (by rfl) (Nat.le_of_ble_eq_true rfl) dT_output_13 ⟨by decide, by decide⟩ ?_
  rw [hc]
  refine tv_callSi (pc := 16) [_, _] (c_T_isBelow l G u _ _) (kST_isBelow wm_329 ⟨by decide, by decide⟩) (by rfl) (Nat.le_of_ble_eq_true rfl) dT_output_16 ⟨by decide, by decide⟩ ?_
  rw [tp_b_f h]
  exact tv_thrS (pc := 19) [_] (t_T_requireIndex l hl G u) (kS1T_requireIndex wm_488 ⟨by decide, by decide⟩) (by rfl) (Nat.le_of_ble_eq_true rfl) dT_output_19 ⟨by decide, by decide⟩ (by decide) (by decide)
set_option maxRecDepth 100000 in
set_option maxHeartbeats 4000000 in
theorem c_T_register0 (l : Launch) (G : tc_G) (u : tc_S) (hm : ¬ u 0 5 = 0) {r : Nat} (hr : r < 6) : tc_C tcx G l yT_register wT_register r0T_register 0 0 [.ref (tc_ad G 0), .int (nI r), .int 0] u (tc_Ki (u 49 r) u) := by
  refine tw_ofV (own := "TracedCode") [some (.ref (tc_ad G 0)), some (.int (nI r)), some (.int 0)] (by decide +kernel) rfl (Nat.le_of_ble_eq_true rfl) (by rfl) (fun p e s m args below meth c => ?_)
  refine tv_aload_n (pc := 0) dT_register_0 (by rfl) ?_
  refine tv_callVv (pc := 1) [] tb_0 (by rfl) (c_T_requireShortProgram l G u hm) (kVT_requireShortProgram wm_471 ⟨by decide, by decide⟩) (by rfl) (Nat.le_of_ble_eq_true rfl) dT_register_1 ⟨by decide, by decide⟩ ?_
  refine tv_iload_n (pc := 4) dT_register_4 (by rfl) ?_
  refine tv_callSi (pc := 5) [_] (c_T_isRegister l G u _) (kST_isRegister wm_326 ⟨by decide, by decide⟩) (by rfl) (Nat.le_of_ble_eq_true rfl) dT_register_5 ⟨by decide, by decide⟩ ?_
  refine tv_callSv (pc := 8) [_] (c_T_requireIndex l G u (tp_b_1 (tq_of (b := 6) (by decide) hr))) (kST_requireIndex wm_488 ⟨by decide, by decide⟩) (by rfl) (Nat.le_of_ble_eq_true rfl) dT_register_8 ⟨by decide, by decide⟩ ?_
  refine tv_aload_n (pc := 11) dT_register_11 (by rfl) ?_
  refine tv_getR (pc := 12) 4 tb_0 (by rfl) uwT_ (by decide) wm_139 (by rfl) dT_register_12 ?_
  refine tv_iload_n (pc := 15) dT_register_15 (by rfl) ?_
  refine tv_callVr (pc := 16) [_] tb_47 (by rfl) (c_R_machine0 l G u) (kVR_machine wm_591 ⟨by decide, by decide⟩) (by rfl) (Nat.le_of_ble_eq_true rfl) dT_register_16 ⟨by decide, by decide⟩ ?_
  refine tv_iload_n (pc := 19) dT_register_19 (by rfl) ?_
  refine tv_callVi (pc := 20) [_] tb_48 (by rfl) (c_M_content l G u mach_48 (tc_ixN hr (by decide))) (kVM_content wm_595 ⟨by decide, by decide⟩) (by rfl) (Nat.le_of_ble_eq_true rfl) dT_register_20 ⟨by decide, by decide⟩ ?_
  exact tv_iret (pc := 23) dT_register_23 rfl (Nat.le_refl _) (Nat.le_refl _) ⟨rfl, rfl⟩
set_option maxRecDepth 100000 in
set_option maxHeartbeats 4000000 in
theorem c_T_output0 (l : Launch) (G : tc_G) (u : tc_S) (hm : ¬ u 0 5 = 0) {j c : Nat} (hc : u 48 2 = nI c) (hj : j < c) (hc2 : c ≤ 200) : tc_C tcx G l yT_output wT_output r0T_output 0 0 [.ref (tc_ad G 0), .int (nI j), .int 0] u (tc_Ki (u 50 j) u) := by
  refine tw_ofV (own := "TracedCode") [some (.ref (tc_ad G 0)), some (.int (nI j)), some (.int 0)] (by decide +kernel) rfl (Nat.le_of_ble_eq_true rfl) (by rfl) (fun p e s m args below meth c => ?_)
  refine tv_aload_n (pc := 0) dT_output_0 (by rfl) ?_
  refine tv_callVv (pc := 1) [] tb_0 (by rfl) (c_T_requireShortProgram l G u hm) (kVT_requireShortProgram wm_471 ⟨by decide, by decide⟩) (by rfl) (Nat.le_of_ble_eq_true rfl) dT_output_1 ⟨by decide, by decide⟩ ?_
  refine tv_iload_n (pc := 4) dT_output_4 (by rfl) ?_
  refine tv_aload_n (pc := 5) dT_output_5 (by rfl) ?_
  refine tv_getR (pc := 6) 4 tb_0 (by rfl) uwT_ (by decide) wm_139 (by rfl) dT_output_6 ?_
  refine tv_iload_n (pc := 9) dT_output_9 (by rfl) ?_
  refine tv_callVr (pc := 10) [_] tb_47 (by rfl) (c_R_machine0 l G u) (kVR_machine wm_591 ⟨by decide, by decide⟩) (by rfl) (Nat.le_of_ble_eq_true rfl) dT_output_10 ⟨by decide, by decide⟩ ?_
  refine tv_callVi (pc := 13) [] tb_48 (by rfl) (c_M_outputCount l G u mach_48) (kVM_outputCount wm_603 ⟨by decide, by decide⟩) (by rfl) (Nat.le_of_ble_eq_true rfl) dT_output_13 ⟨by decide, by decide⟩ ?_
  refine tv_callSi (pc := 16) [_, _] (c_T_isBelow l G u _ _) (kST_isBelow wm_329 ⟨by decide, by decide⟩) (by rfl) (Nat.le_of_ble_eq_true rfl) dT_output_16 ⟨by decide, by decide⟩ ?_
  refine tv_callSv (pc := 19) [_] (c_T_requireIndex l G u (tp_b_1 (by rw [hc]; exact tq_of (by omega) hj))) (kST_requireIndex wm_488 ⟨by decide, by decide⟩) (by rfl) (Nat.le_of_ble_eq_true rfl) dT_output_19 ⟨by decide, by decide⟩ ?_
  refine tv_aload_n (pc := 22) dT_output_22 (by rfl) ?_
  refine tv_getR (pc := 23) 4 tb_0 (by rfl) uwT_ (by decide) wm_139 (by rfl) dT_output_23 ?_
  refine tv_iload_n (pc := 26) dT_output_26 (by rfl) ?_
  refine tv_callVr (pc := 27) [_] tb_47 (by rfl) (c_R_machine0 l G u) (kVR_machine wm_591 ⟨by decide, by decide⟩) (by rfl) (Nat.le_of_ble_eq_true rfl) dT_output_27 ⟨by decide, by decide⟩ ?_
  refine tv_iload_n (pc := 30) dT_output_30 (by rfl) ?_
  refine tv_callVi (pc := 31) [_] tb_48 (by rfl) (c_M_outputAt l G u mach_48 (tc_ixN (by omega) (by decide))) (kVM_outputAt wm_607 ⟨by decide, by decide⟩) (by rfl) (Nat.le_of_ble_eq_true rfl) dT_output_31 ⟨by decide, by decide⟩ ?_
  exact tv_iret (pc := 34) dT_output_34 rfl (Nat.le_refl _) (Nat.le_refl _) ⟨rfl, rfl⟩
set_option maxRecDepth 100000 in
set_option maxHeartbeats 4000000 in
theorem t_T_output_I0 (l : Launch) (hl : l.stackTraces = false) (G : tc_G) (u : tc_S) (hm : ¬ u 0 5 = 0) {c : Nat} (hc : u 48 2 = nI c) (x : Int32) (h : ¬ (¬ x < 0 ∧ ¬ nI c ≤ x)) : tc_T tcx G l yT_output wT_output r1T_output 1 6 [.ref (tc_ad G 0), .int x, .int 0] u u "java/lang/IndexOutOfBoundsException" := by
  refine tw_ofT (own := "TracedCode") [some (.ref (tc_ad G 0)), some (.int x), some (.int 0)] (by decide +kernel) rfl (Nat.le_of_ble_eq_true rfl) (by rfl) (fun p e s m args below meth c => ?_)
  refine tv_aload_n (pc := 0) dT_output_0 (by rfl) ?_
  refine tv_callVv (pc := 1) [] tb_0 (by rfl) (c_T_requireShortProgram l G u hm) (kVT_requireShortProgram wm_471 ⟨by decide, by decide⟩) (by rfl) (Nat.le_of_ble_eq_true rfl) dT_output_1 ⟨by decide, by decide⟩ ?_
  refine tv_iload_n (pc := 4) dT_output_4 (by rfl) ?_
  refine tv_aload_n (pc := 5) dT_output_5 (by rfl) ?_
  refine tv_getR (pc := 6) 4 tb_0 (by rfl) uwT_ (by decide) wm_139 (by rfl) dT_output_6 ?_
  refine tv_iload_n (pc := 9) dT_output_9 (by rfl) ?_
  refine tv_callVr (pc := 10) [_] tb_47 (by rfl) (c_R_machine0 l G u) (kVR_machine wm_591 ⟨by decide, by decide⟩) (by rfl) (Nat.le_of_ble_eq_true rfl) dT_output_10 ⟨by decide, by decide⟩ ?_
  refine tv_callVi (pc := 13) [] tb_48 (by rfl) (c_M_outputCount l G u mach_48) (kVM_outputCount wm_603 ⟨by decide, by decide⟩) (by rfl) (Nat.le_of_ble_eq_true rfl) dT_output_13 ⟨by decide, by decide⟩ ?_
  rw [hc]
  refine tv_callSi (pc := 16) [_, _] (c_T_isBelow l G u _ _) (kST_isBelow wm_329 ⟨by decide, by decide⟩) (by rfl) (Nat.le_of_ble_eq_true rfl) dT_output_16 ⟨by decide, by decide⟩ ?_
  rw [tp_b_f h]
  exact tv_thrS (pc := 19) [_] (t_T_requireIndex l hl G u) (kS1T_requireIndex wm_488 ⟨by decide, by decide⟩) (by rfl) (Nat.le_of_ble_eq_true rfl) dT_output_19 ⟨by decide, by decide⟩ (by decide) (by decide)
set_option maxRecDepth 100000 in
set_option maxHeartbeats 4000000 in
theorem t_T_register_M (l : Launch) (hl : l.stackTraces = false) (G : tc_G) (u : tc_S) (hm : u 0 5 = 0) (x y : Int32) : tc_T tcx G l yT_register wT_register r1T_register 1 6 [.ref (tc_ad G 0), .int x, .int y] u u "java/lang/IllegalStateException" := by
  refine tw_ofT (own := "TracedCode") [some (.ref (tc_ad G 0)), some (.int x), some (.int y)] (by decide +kernel) rfl (Nat.le_of_ble_eq_true rfl) (by rfl) (fun p e s m args below meth c => ?_)
  refine tv_aload_n (pc := 0) dT_register_0 (by rfl) ?_
  exact tv_thrV (pc := 1) [] tb_0 (by rfl) (t_T_requireShortProgram l hl G u hm) (kV1T_requireShortProgram wm_471 ⟨by decide, by decide⟩) (by rfl) (Nat.le_of_ble_eq_true rfl) dT_register_1 ⟨by decide, by decide⟩ (by decide) (by decide)
set_option maxRecDepth 100000 in
set_option maxHeartbeats 4000000 in
theorem t_T_output_M (l : Launch) (hl : l.stackTraces = false) (G : tc_G) (u : tc_S) (hm : u 0 5 = 0) (x y : Int32) : tc_T tcx G l yT_output wT_output r1T_output 1 6 [.ref (tc_ad G 0), .int x, .int y] u u "java/lang/IllegalStateException" := by
  refine tw_ofT (own := "TracedCode") [some (.ref (tc_ad G 0)), some (.int x), some (.int y)] (by decide +kernel) rfl (Nat.le_of_ble_eq_true rfl) (by rfl) (fun p e s m args below meth c => ?_)
  refine tv_aload_n (pc := 0) dT_output_0 (by rfl) ?_
  exact tv_thrV (pc := 1) [] tb_0 (by rfl) (t_T_requireShortProgram l hl G u hm) (kV1T_requireShortProgram wm_471 ⟨by decide, by decide⟩) (by rfl) (Nat.le_of_ble_eq_true rfl) dT_output_1 ⟨by decide, by decide⟩ (by decide) (by decide)
set_option maxRecDepth 100000 in
set_option maxHeartbeats 4000000 in
theorem t_T_register_I (l : Launch) (hl : l.stackTraces = false) (G : tc_G) (u : tc_S) (hm : ¬ u 0 5 = 0) (x y : Int32) (h : ¬ (¬ x < 0 ∧ ¬ 6 ≤ x)) : tc_T tcx G l yT_register wT_register r1T_register 1 6 [.ref (tc_ad G 0), .int x, .int y] u u "java/lang/IndexOutOfBoundsException" := by
  refine tw_ofT (own := "TracedCode") [some (.ref (tc_ad G 0)), some (.int x), some (.int y)] (by decide +kernel) rfl (Nat.le_of_ble_eq_true rfl) (by rfl) (fun p e s m args below meth c => ?_)
  refine tv_aload_n (pc := 0) dT_register_0 (by rfl) ?_
  refine tv_callVv (pc := 1) [] tb_0 (by rfl) (c_T_requireShortProgram l G u hm) (kVT_requireShortProgram wm_471 ⟨by decide, by decide⟩) (by rfl) (Nat.le_of_ble_eq_true rfl) dT_register_1 ⟨by decide, by decide⟩ ?_
  refine tv_iload_n (pc := 4) dT_register_4 (by rfl) ?_
  refine tv_callSi (pc := 5) [_] (c_T_isRegister l G u _) (kST_isRegister wm_326 ⟨by decide, by decide⟩) (by rfl) (Nat.le_of_ble_eq_true rfl) dT_register_5 ⟨by decide, by decide⟩ ?_
  rw [tp_b_f h]
  exact tv_thrS (pc := 8) [_] (t_T_requireIndex l hl G u) (kS1T_requireIndex wm_488 ⟨by decide, by decide⟩) (by rfl) (Nat.le_of_ble_eq_true rfl) dT_register_8 ⟨by decide, by decide⟩ (by decide) (by decide)
set_option maxRecDepth 100000 in
set_option maxHeartbeats 4000000 in
theorem c_T_value (l : Launch) (G : tc_G) (u : tc_S) (hm : ¬ u 0 5 = 0) {v : Nat} (hv : v < 3) (hz : u 55 v = 1) : tc_C tcx G l yT_value wT_value r0T_value 0 0 [.ref (tc_ad G 0), .int (nI v)] u (tc_Ki (u 54 v) u) := by
  refine tw_ofV (own := "TracedCode") [some (.ref (tc_ad G 0)), some (.int (nI v))] (by decide +kernel) rfl (Nat.le_of_ble_eq_true rfl) (by rfl) (fun p e s m args below meth c => ?_)
  refine tv_aload_n (pc := 0) dT_value_0 (by rfl) ?_
  refine tv_callVv (pc := 1) [] tb_0 (by rfl) (c_T_requireShortProgram l G u hm) (kVT_requireShortProgram wm_471 ⟨by decide, by decide⟩) (by rfl) (Nat.le_of_ble_eq_true rfl) dT_value_1 ⟨by decide, by decide⟩ ?_
  refine tv_iload_n (pc := 4) dT_value_4 (by rfl) ?_
  refine tv_callSi (pc := 5) [_] (c_T_isVariable l G u _) (kST_isVariable wm_461 ⟨by decide, by decide⟩) (by rfl) (Nat.le_of_ble_eq_true rfl) dT_value_5 ⟨by decide, by decide⟩ ?_
  refine tv_callSv (pc := 8) [_] (c_T_requireIndex l G u (tp_b_1 (tq_of (b := 3) (by decide) hv))) (kST_requireIndex wm_488 ⟨by decide, by decide⟩) (by rfl) (Nat.le_of_ble_eq_true rfl) dT_value_8 ⟨by decide, by decide⟩ ?_
  refine tv_aload_n (pc := 11) dT_value_11 (by rfl) ?_
  refine tv_getR (pc := 12) 4 tb_0 (by rfl) uwT_ (by decide) wm_139 (by rfl) dT_value_12 ?_
  refine tv_iload_n (pc := 15) dT_value_15 (by rfl) ?_
  refine tv_callVi (pc := 16) [_] tb_47 (by rfl) (c_R_hasValue l G u (tc_ixN hv (by decide)) (by rw [hz]; rfl)) (kVR_hasValue wm_618 ⟨by decide, by decide⟩) (by rfl) (Nat.le_of_ble_eq_true rfl) dT_value_16 ⟨by decide, by decide⟩ ?_
  refine tv_callSv (pc := 19) [_] (c_T_requireState l G u (by rw [hz]; decide)) (kST_requireState wm_404 ⟨by decide, by decide⟩) (by rfl) (Nat.le_of_ble_eq_true rfl) dT_value_19 ⟨by decide, by decide⟩ ?_
  refine tv_aload_n (pc := 22) dT_value_22 (by rfl) ?_
  refine tv_getR (pc := 23) 4 tb_0 (by rfl) uwT_ (by decide) wm_139 (by rfl) dT_value_23 ?_
  refine tv_iload_n (pc := 26) dT_value_26 (by rfl) ?_
  refine tv_callVi (pc := 27) [_] tb_47 (by rfl) (c_R_valueOf l G u (tc_ixN hv (by decide))) (kVR_valueOf wm_622 ⟨by decide, by decide⟩) (by rfl) (Nat.le_of_ble_eq_true rfl) dT_value_27 ⟨by decide, by decide⟩ ?_
  exact tv_iret (pc := 30) dT_value_30 rfl (Nat.le_refl _) (Nat.le_refl _) ⟨rfl, rfl⟩
set_option maxRecDepth 100000 in
set_option maxHeartbeats 4000000 in
theorem t_T_value_M (l : Launch) (hl : l.stackTraces = false) (G : tc_G) (u : tc_S) (hm : u 0 5 = 0) (x : Int32) : tc_T tcx G l yT_value wT_value r1T_value 1 6 [.ref (tc_ad G 0), .int x] u u "java/lang/IllegalStateException" := by
  refine tw_ofT (own := "TracedCode") [some (.ref (tc_ad G 0)), some (.int x)] (by decide +kernel) rfl (Nat.le_of_ble_eq_true rfl) (by rfl) (fun p e s m args below meth c => ?_)
  refine tv_aload_n (pc := 0) dT_value_0 (by rfl) ?_
  exact tv_thrV (pc := 1) [] tb_0 (by rfl) (t_T_requireShortProgram l hl G u hm) (kV1T_requireShortProgram wm_471 ⟨by decide, by decide⟩) (by rfl) (Nat.le_of_ble_eq_true rfl) dT_value_1 ⟨by decide, by decide⟩ (by decide) (by decide)
set_option maxRecDepth 100000 in
set_option maxHeartbeats 4000000 in
theorem t_T_value_I (l : Launch) (hl : l.stackTraces = false) (G : tc_G) (u : tc_S) (hm : ¬ u 0 5 = 0) (x : Int32) (h : ¬ (¬ x < 0 ∧ ¬ 3 ≤ x)) : tc_T tcx G l yT_value wT_value r1T_value 1 6 [.ref (tc_ad G 0), .int x] u u "java/lang/IndexOutOfBoundsException" := by
  refine tw_ofT (own := "TracedCode") [some (.ref (tc_ad G 0)), some (.int x)] (by decide +kernel) rfl (Nat.le_of_ble_eq_true rfl) (by rfl) (fun p e s m args below meth c => ?_)
  refine tv_aload_n (pc := 0) dT_value_0 (by rfl) ?_
  refine tv_callVv (pc := 1) [] tb_0 (by rfl) (c_T_requireShortProgram l G u hm) (kVT_requireShortProgram wm_471 ⟨by decide, by decide⟩) (by rfl) (Nat.le_of_ble_eq_true rfl) dT_value_1 ⟨by decide, by decide⟩ ?_
  refine tv_iload_n (pc := 4) dT_value_4 (by rfl) ?_
  refine tv_callSi (pc := 5) [_] (c_T_isVariable l G u _) (kST_isVariable wm_461 ⟨by decide, by decide⟩) (by rfl) (Nat.le_of_ble_eq_true rfl) dT_value_5 ⟨by decide, by decide⟩ ?_
  rw [tp_b_f h]
  exact tv_thrS (pc := 8) [_] (t_T_requireIndex l hl G u) (kS1T_requireIndex wm_488 ⟨by decide, by decide⟩) (by rfl) (Nat.le_of_ble_eq_true rfl) dT_value_8 ⟨by decide, by decide⟩ (by decide) (by decide)
set_option maxRecDepth 100000 in
set_option maxHeartbeats 4000000 in
theorem t_T_value_V (l : Launch) (hl : l.stackTraces = false) (G : tc_G) (u : tc_S) (hm : ¬ u 0 5 = 0) {v : Nat} (hv : v < 3) (hz : u 55 v = 0) : tc_T tcx G l yT_value wT_value r1T_value 1 6 [.ref (tc_ad G 0), .int (nI v)] u u "java/lang/IllegalStateException" := by
  refine tw_ofT (own := "TracedCode") [some (.ref (tc_ad G 0)), some (.int (nI v))] (by decide +kernel) rfl (Nat.le_of_ble_eq_true rfl) (by rfl) (fun p e s m args below meth c => ?_)
  refine tv_aload_n (pc := 0) dT_value_0 (by rfl) ?_
  refine tv_callVv (pc := 1) [] tb_0 (by rfl) (c_T_requireShortProgram l G u hm) (kVT_requireShortProgram wm_471 ⟨by decide, by decide⟩) (by rfl) (Nat.le_of_ble_eq_true rfl) dT_value_1 ⟨by decide, by decide⟩ ?_
  refine tv_iload_n (pc := 4) dT_value_4 (by rfl) ?_
  refine tv_callSi (pc := 5) [_] (c_T_isVariable l G u _) (kST_isVariable wm_461 ⟨by decide, by decide⟩) (by rfl) (Nat.le_of_ble_eq_true rfl) dT_value_5 ⟨by decide, by decide⟩ ?_
  refine tv_callSv (pc := 8) [_] (c_T_requireIndex l G u (tp_b_1 (tq_of (b := 3) (by decide) hv))) (kST_requireIndex wm_488 ⟨by decide, by decide⟩) (by rfl) (Nat.le_of_ble_eq_true rfl) dT_value_8 ⟨by decide, by decide⟩ ?_
  refine tv_aload_n (pc := 11) dT_value_11 (by rfl) ?_
  refine tv_getR (pc := 12) 4 tb_0 (by rfl) uwT_ (by decide) wm_139 (by rfl) dT_value_12 ?_
  refine tv_iload_n (pc := 15) dT_value_15 (by rfl) ?_
  refine tv_callVi (pc := 16) [_] tb_47 (by rfl) (c_R_hasValue l G u (tc_ixN hv (by decide)) (by rw [hz]; rfl)) (kVR_hasValue wm_618 ⟨by decide, by decide⟩) (by rfl) (Nat.le_of_ble_eq_true rfl) dT_value_16 ⟨by decide, by decide⟩ ?_
  rw [hz]
  exact tv_thrS (pc := 19) [_] (t_T_requireState l hl G u) (kS1T_requireState wm_404 ⟨by decide, by decide⟩) (by rfl) (Nat.le_of_ble_eq_true rfl) dT_value_19 ⟨by decide, by decide⟩ (by decide) (by decide)
set_option maxRecDepth 100000 in
set_option maxHeartbeats 4000000 in
theorem c_T_readC (l : Launch) (G : tc_G) (u : tc_S) (hm : ¬ u 0 5 = 0) {v : Nat} (hv : v < 3) {q : Nat} (hq : tc_ix (u 47 4) 17 q) (hc : sk_pf (u (26 + (6 + v)) q) 7 0 = 6) : tc_C tcx G l yT_read wT_read r0T_read 0 0 [.ref (tc_ad G 0), .int (nI v)] u (tc_Ki (u (36 + (6 + v)) q) u) := by
  refine tw_ofV (own := "TracedCode") [some (.ref (tc_ad G 0)), some (.int (nI v)), none] (by decide +kernel) rfl (Nat.le_of_ble_eq_true rfl) (by rfl) (fun p e s m args below meth c => ?_)
  refine tv_aload_n (pc := 0) dT_read_0 (by rfl) ?_
  refine tv_callVv (pc := 1) [] tb_0 (by rfl) (c_T_requireShortProgram l G u hm) (kVT_requireShortProgram wm_471 ⟨by decide, by decide⟩) (by rfl) (Nat.le_of_ble_eq_true rfl) dT_read_1 ⟨by decide, by decide⟩ ?_
  refine tv_iload_n (pc := 4) dT_read_4 (by rfl) ?_
  refine tv_callSi (pc := 5) [_] (c_T_isVariable l G u _) (kST_isVariable wm_461 ⟨by decide, by decide⟩) (by rfl) (Nat.le_of_ble_eq_true rfl) dT_read_5 ⟨by decide, by decide⟩ ?_
  refine tv_callSv (pc := 8) [_] (c_T_requireIndex l G u (tp_b_1 (tq_of (b := 3) (by decide) hv))) (kST_requireIndex wm_488 ⟨by decide, by decide⟩) (by rfl) (Nat.le_of_ble_eq_true rfl) dT_read_8 ⟨by decide, by decide⟩ ?_
  refine tv_aload_n (pc := 11) dT_read_11 (by rfl) ?_
  refine tv_getR (pc := 12) 3 tb_0 (by rfl) uwT_ (by decide) wm_138 (by rfl) dT_read_12 ?_
  refine tv_aload_n (pc := 15) dT_read_15 (by rfl) ?_
  refine tv_getR (pc := 16) 4 tb_0 (by rfl) uwT_ (by decide) wm_139 (by rfl) dT_read_16 ?_
  refine tv_callVi (pc := 19) [] tb_47 (by rfl) (c_R_position l G u) (kVR_position wm_580 ⟨by decide, by decide⟩) (by rfl) (Nat.le_of_ble_eq_true rfl) dT_read_19 ⟨by decide, by decide⟩ ?_
  refine tv_iload_n (pc := 22) dT_read_22 (by rfl) ?_
  refine tv_callVi (pc := 23) [_, _] tb_24 (by rfl) (c_K_placeOfVariable l G u hq hv) (kVK_placeOfVariable wm_518 ⟨by decide, by decide⟩) (by rfl) (Nat.le_of_ble_eq_true rfl) dT_read_23 ⟨by decide, by decide⟩ ?_
  refine tv_istore2 (pc := 26) dT_read_26 (by rfl) ?_
  refine tv_iload_n (pc := 27) dT_read_27 (by rfl) ?_
  refine tv_iconst (v := (-1)) (pc := 28) dT_read_28 (by decide) ?_
  refine tv_icmp_eq (pc := 29) 36 dT_read_29 (by decide) (fun h => absurd h (by rw [hc]; decide)) (fun _ => ?_)
  refine tv_iconst (v := 1) (pc := 32) dT_read_32 (by decide) ?_
  refine tv_goto (pc := 33) 37 dT_read_33 (by decide) ?_
  refine tv_callSv (pc := 37) [_] (c_T_requireFound l G u (by decide)) (kST_requireFound wm_634 ⟨by decide, by decide⟩) (by rfl) (Nat.le_of_ble_eq_true rfl) dT_read_37 ⟨by decide, by decide⟩ ?_
  refine tv_iload_n (pc := 40) dT_read_40 (by rfl) ?_
  refine tv_bipush (v := 6) (pc := 41) dT_read_41 (by decide) ?_
  refine tv_icmp_ne (pc := 43) 62 dT_read_43 (by decide) (fun h => absurd h (fun z => z hc)) (fun _ => ?_)
  refine tv_aload_n (pc := 46) dT_read_46 (by rfl) ?_
  refine tv_getR (pc := 47) 3 tb_0 (by rfl) uwT_ (by decide) wm_138 (by rfl) dT_read_47 ?_
  refine tv_aload_n (pc := 50) dT_read_50 (by rfl) ?_
  refine tv_getR (pc := 51) 4 tb_0 (by rfl) uwT_ (by decide) wm_139 (by rfl) dT_read_51 ?_
  refine tv_callVi (pc := 54) [] tb_47 (by rfl) (c_R_position l G u) (kVR_position wm_580 ⟨by decide, by decide⟩) (by rfl) (Nat.le_of_ble_eq_true rfl) dT_read_54 ⟨by decide, by decide⟩ ?_
  refine tv_iload_n (pc := 57) dT_read_57 (by rfl) ?_
  refine tv_callVi (pc := 58) [_, _] tb_24 (by rfl) (c_K_constantOfVariable l G u hq hv) (kVK_constantOfVariable wm_652 ⟨by decide, by decide⟩) (by rfl) (Nat.le_of_ble_eq_true rfl) dT_read_58 ⟨by decide, by decide⟩ ?_
  exact tv_iret (pc := 61) dT_read_61 rfl (Nat.le_refl _) (Nat.le_refl _) ⟨rfl, rfl⟩
set_option maxRecDepth 100000 in
set_option maxHeartbeats 4000000 in
theorem c_T_readR (l : Launch) (G : tc_G) (u : tc_S) (hm : ¬ u 0 5 = 0) {v : Nat} (hv : v < 3) {q : Nat} (hq : tc_ix (u 47 4) 17 q) {r : Nat} (hr : r < 6) (hc : sk_pf (u (26 + (6 + v)) q) 7 0 = nI r) : tc_C tcx G l yT_read wT_read r0T_read 0 0 [.ref (tc_ad G 0), .int (nI v)] u (tc_Ki (u 52 r) u) := by
  refine tw_ofV (own := "TracedCode") [some (.ref (tc_ad G 0)), some (.int (nI v)), none] (by decide +kernel) rfl (Nat.le_of_ble_eq_true rfl) (by rfl) (fun p e s m args below meth c => ?_)
  refine tv_aload_n (pc := 0) dT_read_0 (by rfl) ?_
  refine tv_callVv (pc := 1) [] tb_0 (by rfl) (c_T_requireShortProgram l G u hm) (kVT_requireShortProgram wm_471 ⟨by decide, by decide⟩) (by rfl) (Nat.le_of_ble_eq_true rfl) dT_read_1 ⟨by decide, by decide⟩ ?_
  refine tv_iload_n (pc := 4) dT_read_4 (by rfl) ?_
  refine tv_callSi (pc := 5) [_] (c_T_isVariable l G u _) (kST_isVariable wm_461 ⟨by decide, by decide⟩) (by rfl) (Nat.le_of_ble_eq_true rfl) dT_read_5 ⟨by decide, by decide⟩ ?_
  refine tv_callSv (pc := 8) [_] (c_T_requireIndex l G u (tp_b_1 (tq_of (b := 3) (by decide) hv))) (kST_requireIndex wm_488 ⟨by decide, by decide⟩) (by rfl) (Nat.le_of_ble_eq_true rfl) dT_read_8 ⟨by decide, by decide⟩ ?_
  refine tv_aload_n (pc := 11) dT_read_11 (by rfl) ?_
  refine tv_getR (pc := 12) 3 tb_0 (by rfl) uwT_ (by decide) wm_138 (by rfl) dT_read_12 ?_
  refine tv_aload_n (pc := 15) dT_read_15 (by rfl) ?_
  refine tv_getR (pc := 16) 4 tb_0 (by rfl) uwT_ (by decide) wm_139 (by rfl) dT_read_16 ?_
  refine tv_callVi (pc := 19) [] tb_47 (by rfl) (c_R_position l G u) (kVR_position wm_580 ⟨by decide, by decide⟩) (by rfl) (Nat.le_of_ble_eq_true rfl) dT_read_19 ⟨by decide, by decide⟩ ?_
  refine tv_iload_n (pc := 22) dT_read_22 (by rfl) ?_
  refine tv_callVi (pc := 23) [_, _] tb_24 (by rfl) (c_K_placeOfVariable l G u hq hv) (kVK_placeOfVariable wm_518 ⟨by decide, by decide⟩) (by rfl) (Nat.le_of_ble_eq_true rfl) dT_read_23 ⟨by decide, by decide⟩ ?_
  refine tv_istore2 (pc := 26) dT_read_26 (by rfl) ?_
  refine tv_iload_n (pc := 27) dT_read_27 (by rfl) ?_
  refine tv_iconst (v := (-1)) (pc := 28) dT_read_28 (by decide) ?_
  refine tv_icmp_eq (pc := 29) 36 dT_read_29 (by decide) (fun h => absurd h (by rw [hc]; exact fun z => absurd (z ▸ nI_pos (n := r) (by omega)) (by decide))) (fun _ => ?_)
  refine tv_iconst (v := 1) (pc := 32) dT_read_32 (by decide) ?_
  refine tv_goto (pc := 33) 37 dT_read_33 (by decide) ?_
  refine tv_callSv (pc := 37) [_] (c_T_requireFound l G u (by decide)) (kST_requireFound wm_634 ⟨by decide, by decide⟩) (by rfl) (Nat.le_of_ble_eq_true rfl) dT_read_37 ⟨by decide, by decide⟩ ?_
  refine tv_iload_n (pc := 40) dT_read_40 (by rfl) ?_
  refine tv_bipush (v := 6) (pc := 41) dT_read_41 (by decide) ?_
  refine tv_icmp_ne (pc := 43) 62 dT_read_43 (by decide) (fun _ => ?_) (fun h => absurd h (by rw [hc]; intro z; exact absurd ((nI_eq (b := 6) (by omega) (by decide)).mp z) (by omega)))
  refine tv_aload_n (pc := 62) dT_read_62 (by rfl) ?_
  refine tv_getR (pc := 63) 4 tb_0 (by rfl) uwT_ (by decide) wm_139 (by rfl) dT_read_63 ?_
  refine tv_iconst (v := 1) (pc := 66) dT_read_66 (by decide) ?_
  refine tv_callVr (pc := 67) [_] tb_47 (by rfl) (c_R_machine1 l G u (by decide)) (kVR_machine wm_591 ⟨by decide, by decide⟩) (by rfl) (Nat.le_of_ble_eq_true rfl) dT_read_67 ⟨by decide, by decide⟩ ?_
  refine tv_iload_n (pc := 70) dT_read_70 (by rfl) ?_
  refine tv_callVi (pc := 71) [_] tb_51 (by rfl) (c_M_content l G u mach_51 (by rw [hc]; exact tc_ixN hr (by decide))) (kVM_content wm_595 ⟨by decide, by decide⟩) (by rfl) (Nat.le_of_ble_eq_true rfl) dT_read_71 ⟨by decide, by decide⟩ ?_
  exact tv_iret (pc := 74) dT_read_74 rfl (Nat.le_refl _) (Nat.le_refl _) ⟨rfl, rfl⟩
set_option maxRecDepth 100000 in
set_option maxHeartbeats 4000000 in
theorem t_T_read_M (l : Launch) (hl : l.stackTraces = false) (G : tc_G) (u : tc_S) (hm : u 0 5 = 0) (x : Int32) : tc_T tcx G l yT_read wT_read r1T_read 1 6 [.ref (tc_ad G 0), .int x] u u "java/lang/IllegalStateException" := by
  refine tw_ofT (own := "TracedCode") [some (.ref (tc_ad G 0)), some (.int x), none] (by decide +kernel) rfl (Nat.le_of_ble_eq_true rfl) (by rfl) (fun p e s m args below meth c => ?_)
  refine tv_aload_n (pc := 0) dT_read_0 (by rfl) ?_
  exact tv_thrV (pc := 1) [] tb_0 (by rfl) (t_T_requireShortProgram l hl G u hm) (kV1T_requireShortProgram wm_471 ⟨by decide, by decide⟩) (by rfl) (Nat.le_of_ble_eq_true rfl) dT_read_1 ⟨by decide, by decide⟩ (by decide) (by decide)
set_option maxRecDepth 100000 in
set_option maxHeartbeats 4000000 in
theorem t_T_read_I (l : Launch) (hl : l.stackTraces = false) (G : tc_G) (u : tc_S) (hm : ¬ u 0 5 = 0) (x : Int32) (h : ¬ (¬ x < 0 ∧ ¬ 3 ≤ x)) : tc_T tcx G l yT_read wT_read r1T_read 1 6 [.ref (tc_ad G 0), .int x] u u "java/lang/IndexOutOfBoundsException" := by
  refine tw_ofT (own := "TracedCode") [some (.ref (tc_ad G 0)), some (.int x), none] (by decide +kernel) rfl (Nat.le_of_ble_eq_true rfl) (by rfl) (fun p e s m args below meth c => ?_)
  refine tv_aload_n (pc := 0) dT_read_0 (by rfl) ?_
  refine tv_callVv (pc := 1) [] tb_0 (by rfl) (c_T_requireShortProgram l G u hm) (kVT_requireShortProgram wm_471 ⟨by decide, by decide⟩) (by rfl) (Nat.le_of_ble_eq_true rfl) dT_read_1 ⟨by decide, by decide⟩ ?_
  refine tv_iload_n (pc := 4) dT_read_4 (by rfl) ?_
  refine tv_callSi (pc := 5) [_] (c_T_isVariable l G u _) (kST_isVariable wm_461 ⟨by decide, by decide⟩) (by rfl) (Nat.le_of_ble_eq_true rfl) dT_read_5 ⟨by decide, by decide⟩ ?_
  rw [tp_b_f h]
  exact tv_thrS (pc := 8) [_] (t_T_requireIndex l hl G u) (kS1T_requireIndex wm_488 ⟨by decide, by decide⟩) (by rfl) (Nat.le_of_ble_eq_true rfl) dT_read_8 ⟨by decide, by decide⟩ (by decide) (by decide)
set_option maxRecDepth 100000 in
set_option maxHeartbeats 4000000 in
theorem t_T_read_F (l : Launch) (hl : l.stackTraces = false) (G : tc_G) (u : tc_S) (hm : ¬ u 0 5 = 0) {v : Nat} (hv : v < 3) {q : Nat} (hq : tc_ix (u 47 4) 17 q) (hc : sk_pf (u (26 + (6 + v)) q) 7 0 = -1) : tc_T tcx G l yT_read wT_read r1T_read 1 6 [.ref (tc_ad G 0), .int (nI v)] u u "java/util/NoSuchElementException" := by
  refine tw_ofT (own := "TracedCode") [some (.ref (tc_ad G 0)), some (.int (nI v)), none] (by decide +kernel) rfl (Nat.le_of_ble_eq_true rfl) (by rfl) (fun p e s m args below meth c => ?_)
  refine tv_aload_n (pc := 0) dT_read_0 (by rfl) ?_
  refine tv_callVv (pc := 1) [] tb_0 (by rfl) (c_T_requireShortProgram l G u hm) (kVT_requireShortProgram wm_471 ⟨by decide, by decide⟩) (by rfl) (Nat.le_of_ble_eq_true rfl) dT_read_1 ⟨by decide, by decide⟩ ?_
  refine tv_iload_n (pc := 4) dT_read_4 (by rfl) ?_
  refine tv_callSi (pc := 5) [_] (c_T_isVariable l G u _) (kST_isVariable wm_461 ⟨by decide, by decide⟩) (by rfl) (Nat.le_of_ble_eq_true rfl) dT_read_5 ⟨by decide, by decide⟩ ?_
  refine tv_callSv (pc := 8) [_] (c_T_requireIndex l G u (tp_b_1 (tq_of (b := 3) (by decide) hv))) (kST_requireIndex wm_488 ⟨by decide, by decide⟩) (by rfl) (Nat.le_of_ble_eq_true rfl) dT_read_8 ⟨by decide, by decide⟩ ?_
  refine tv_aload_n (pc := 11) dT_read_11 (by rfl) ?_
  refine tv_getR (pc := 12) 3 tb_0 (by rfl) uwT_ (by decide) wm_138 (by rfl) dT_read_12 ?_
  refine tv_aload_n (pc := 15) dT_read_15 (by rfl) ?_
  refine tv_getR (pc := 16) 4 tb_0 (by rfl) uwT_ (by decide) wm_139 (by rfl) dT_read_16 ?_
  refine tv_callVi (pc := 19) [] tb_47 (by rfl) (c_R_position l G u) (kVR_position wm_580 ⟨by decide, by decide⟩) (by rfl) (Nat.le_of_ble_eq_true rfl) dT_read_19 ⟨by decide, by decide⟩ ?_
  refine tv_iload_n (pc := 22) dT_read_22 (by rfl) ?_
  refine tv_callVi (pc := 23) [_, _] tb_24 (by rfl) (c_K_placeOfVariable l G u hq hv) (kVK_placeOfVariable wm_518 ⟨by decide, by decide⟩) (by rfl) (Nat.le_of_ble_eq_true rfl) dT_read_23 ⟨by decide, by decide⟩ ?_
  refine tv_istore2 (pc := 26) dT_read_26 (by rfl) ?_
  refine tv_iload_n (pc := 27) dT_read_27 (by rfl) ?_
  refine tv_iconst (v := (-1)) (pc := 28) dT_read_28 (by decide) ?_
  refine tv_icmp_eq (pc := 29) 36 dT_read_29 (by decide) (fun _ => ?_) (fun h => absurd hc h)
  refine tv_iconst (v := 0) (pc := 36) dT_read_36 (by decide) ?_
  exact tv_thrS (pc := 37) [_] (t_T_requireFound l hl G u) (kS1T_requireFound wm_634 ⟨by decide, by decide⟩) (by rfl) (Nat.le_of_ble_eq_true rfl) dT_read_37 ⟨by decide, by decide⟩ (by decide) (by decide)
