set_option maxRecDepth 100000 in
set_option maxHeartbeats 4000000 in
theorem w_kept (l : Launch) (hl : l.stackTraces = false) (G : tc_G) (u : tc_S) {n : Nat} (h : jI n u)  : tc_C tcx G l yL_kept wL_kept r1L_kept 1 6 [.ref (tc_ad G 0), .ref (tc_ad G 76)] u (tc_KI (fun k v => tc_C tcx G l yD_kept wD_kept r0D_kept 0 0 [.ref (tc_ad G 56)] v (tc_KI (jE k)))) := by
  refine tw_ofVW (own := "TracedCodeLaw") [some (.ref (tc_ad G 0)), some (.ref (tc_ad G 76)), none] (by decide +kernel) rfl (Nat.le_of_ble_eq_true rfl) (by rfl) (fun p e s m args below meth c => ?_)
  by_cases hm : u 0 5 = 0
  · skip
    refine tv_aload_n (pc := 0) dL_kept_0 (by rfl) ?_
    refine tv_iconst (v := 0) (pc := 1) dL_kept_1 (by decide) ?_
    refine tv_aload_n (pc := 2) dL_kept_2 (by rfl) ?_
    refine tv_catV (pc := 3) [] tb_0 (by rfl) (t_T_kept_M l hl G u hm) (kV1T_kept wm_467 ⟨by decide, by decide⟩) (by rfl) (Nat.le_of_ble_eq_true rfl) dL_kept_3 ⟨by decide, by decide⟩ (h := 11) (tc_hp1 "java/lang/IllegalStateException" (by decide) (by decide) (by decide) wm_321 (by decide +kernel)) (fun a => ?_)
    refine tv_astore2 (pc := 11) dL_kept_11 (by rfl) ?_
    refine tv_iconst (v := 1) (pc := 12) dL_kept_12 (by decide) ?_
    exact tv_iret (pc := 13) dL_kept_13 rfl (by decide) (by decide) ⟨_, rfl, jK (c_D_keptM l G u (h.1.md.trans hm)) (j_no h (by decide))⟩
  have hm1 : u 0 5 = 1 := h.1.m2.resolve_left hm
  have hM := h.2 hm1
  have md : u 56 6 = 1 := h.1.md.trans hm1
  have s2 := h.1.s2
  have hn := h.1.hn
  refine tv_aload_n (pc := 0) dL_kept_0 (by rfl) ?_
  refine tv_iconst (v := 0) (pc := 1) dL_kept_1 (by decide) ?_
  refine tv_aload_n (pc := 2) dL_kept_2 (by rfl) ?_
  refine tv_callVi (pc := 3) [] tb_0 (by rfl) (c_T_kept l G u hm hM.s7 hn) (kVT_kept wm_467 ⟨by decide, by decide⟩) (by rfl) (Nat.le_of_ble_eq_true rfl) dL_kept_3 ⟨by decide, by decide⟩ ?_
  refine tv_i2l (pc := 6) dL_kept_6 ?_
  refine tv_last (pc := 7) (j := 0) tb_76 ⟨by decide, by decide, by decide⟩ dL_kept_7 ?_
  refine tv_goto (pc := 8) 14 dL_kept_8 (by decide) ?_
  refine tv_iconst (v := 0) (pc := 14) dL_kept_14 (by decide) ?_
  exact tv_iret (pc := 15) dL_kept_15 rfl (by decide) (by decide) ⟨_, rfl, jK (c_D_kept l G _ (u76 (by decide) md) (u76 (by decide) s2) hn) (j_an h (by rw [pm_76, cn_c hM.gm n (Nat.le_refl n)]))⟩
set_option maxRecDepth 100000 in
set_option maxHeartbeats 4000000 in
theorem w_part (l : Launch) (hl : l.stackTraces = false) (G : tc_G) (u : tc_S) {n : Nat} (h : jI n u) (x y : Int32) : tc_C tcx G l yL_part wL_part r1L_part 1 6 [.ref (tc_ad G 0), .int x, .int y, .ref (tc_ad G 76)] u (tc_KI (fun k v => tc_C tcx G l yD_part wD_part r0D_part 0 0 [.ref (tc_ad G 56), .int x, .int y] v (tc_KI (jE k)))) := by
  refine tw_ofVW (own := "TracedCodeLaw") [some (.ref (tc_ad G 0)), some (.int x), some (.int y), some (.ref (tc_ad G 76)), none] (by decide +kernel) rfl (Nat.le_of_ble_eq_true rfl) (by rfl) (fun p e s m args below meth c => ?_)
  by_cases hm : u 0 5 = 0
  · skip
    refine tv_aload_n (pc := 0) dL_part_0 (by rfl) ?_
    refine tv_iconst (v := 0) (pc := 1) dL_part_1 (by decide) ?_
    refine tv_aload_n (pc := 2) dL_part_2 (by rfl) ?_
    refine tv_iload_n (pc := 3) dL_part_3 (by rfl) ?_
    refine tv_iload_n (pc := 4) dL_part_4 (by rfl) ?_
    refine tv_catV (pc := 5) [_, _] tb_0 (by rfl) (t_T_part_M l hl G u hm x y) (kV1T_part wm_484 ⟨by decide, by decide⟩) (by rfl) (Nat.le_of_ble_eq_true rfl) dL_part_5 ⟨by decide, by decide⟩ (h := 13) (tc_hp1 "java/lang/IllegalStateException" (by decide) (by decide) (by decide) wm_321 (by decide +kernel)) (fun a => ?_)
    refine tv_astore4 (pc := 13) dL_part_13 (by rfl) ?_
    refine tv_iconst (v := 1) (pc := 15) dL_part_15 (by decide) ?_
    exact tv_iret (pc := 16) dL_part_16 rfl (by decide) (by decide) ⟨_, rfl, jK (c_D_partM l G u (h.1.md.trans hm) x y) (j_no h (by decide))⟩
  have hm1 : u 0 5 = 1 := h.1.m2.resolve_left hm
  have hM := h.2 hm1
  have md : u 56 6 = 1 := h.1.md.trans hm1
  have s2 := h.1.s2
  have hn := h.1.hn
  by_cases ho : (¬ x < 0 ∧ ¬ nI n ≤ x) ∧ (¬ y < 0 ∧ ¬ 4 ≤ y)
  · obtain ⟨i, hi, rfl⟩ := tq_ix (b := n) (by omega) ho.1
    obtain ⟨j, hj, rfl⟩ := tq_ix (b := 4) (by decide) ho.2
    refine tv_aload_n (pc := 0) dL_part_0 (by rfl) ?_
    refine tv_iconst (v := 0) (pc := 1) dL_part_1 (by decide) ?_
    refine tv_aload_n (pc := 2) dL_part_2 (by rfl) ?_
    refine tv_iload_n (pc := 3) dL_part_3 (by rfl) ?_
    refine tv_iload_n (pc := 4) dL_part_4 (by rfl) ?_
    refine tv_callVi (pc := 5) [_, _] tb_0 (by rfl) (c_T_part l G u hm hM.s7 hn hi hj) (kVT_part wm_484 ⟨by decide, by decide⟩) (by rfl) (Nat.le_of_ble_eq_true rfl) dL_part_5 ⟨by decide, by decide⟩ ?_
    refine tv_i2l (pc := 8) dL_part_8 ?_
    refine tv_last (pc := 9) (j := 0) tb_76 ⟨by decide, by decide, by decide⟩ dL_part_9 ?_
    refine tv_goto (pc := 10) 21 dL_part_10 (by decide) ?_
    refine tv_iconst (v := 0) (pc := 21) dL_part_21 (by decide) ?_
    exact tv_iret (pc := 22) dL_part_22 rfl (by decide) (by decide) ⟨_, rfl, jK (c_D_part l G _ (u76 (by decide) md) (u76 (by decide) s2) hn hi hj) (j_an h (by rw [pm_76]; exact (hM.gm j i hj hi).symm))⟩
  · skip
    refine tv_aload_n (pc := 0) dL_part_0 (by rfl) ?_
    refine tv_iconst (v := 0) (pc := 1) dL_part_1 (by decide) ?_
    refine tv_aload_n (pc := 2) dL_part_2 (by rfl) ?_
    refine tv_iload_n (pc := 3) dL_part_3 (by rfl) ?_
    refine tv_iload_n (pc := 4) dL_part_4 (by rfl) ?_
    refine tv_catV (pc := 5) [_, _] tb_0 (by rfl) (t_T_part_I l hl G u hm hM.s7 x y ho) (kV1T_part wm_484 ⟨by decide, by decide⟩) (by rfl) (Nat.le_of_ble_eq_true rfl) dL_part_5 ⟨by decide, by decide⟩ (h := 17) (tc_hp2 "java/lang/IllegalStateException" (by decide) (by decide) (by decide) wm_321 (by decide +kernel) (tc_hp1 "java/lang/IndexOutOfBoundsException" (by decide) (by decide) (by decide) wm_483 (by decide +kernel))) (fun a => ?_)
    refine tv_astore4 (pc := 17) dL_part_17 (by rfl) ?_
    refine tv_iconst (v := 2) (pc := 19) dL_part_19 (by decide) ?_
    exact tv_iret (pc := 20) dL_part_20 rfl (by decide) (by decide) ⟨_, rfl, jK (c_D_part2 l G u md s2 x y ho) (j_no h (by decide))⟩
set_option maxRecDepth 100000 in
set_option maxHeartbeats 4000000 in
theorem w_where (l : Launch) (hl : l.stackTraces = false) (G : tc_G) (u : tc_S) {n : Nat} (h : jI n u) (x y : Int32) : tc_C tcx G l yL_where wL_where r1L_where 1 6 [.ref (tc_ad G 0), .int x, .int y, .ref (tc_ad G 76)] u (tc_KI (fun k v => tc_C tcx G l yD_where wD_where r0D_where 0 0 [.ref (tc_ad G 56), .int x, .int y] v (tc_KI (jE k)))) := by
  refine tw_ofVW (own := "TracedCodeLaw") [some (.ref (tc_ad G 0)), some (.int x), some (.int y), some (.ref (tc_ad G 76)), none] (by decide +kernel) rfl (Nat.le_of_ble_eq_true rfl) (by rfl) (fun p e s m args below meth c => ?_)
  by_cases hm : u 0 5 = 0
  · skip
    refine tv_aload_n (pc := 0) dL_where_0 (by rfl) ?_
    refine tv_iconst (v := 0) (pc := 1) dL_where_1 (by decide) ?_
    refine tv_aload_n (pc := 2) dL_where_2 (by rfl) ?_
    refine tv_iload_n (pc := 3) dL_where_3 (by rfl) ?_
    refine tv_iload_n (pc := 4) dL_where_4 (by rfl) ?_
    refine tv_catV (pc := 5) [_, _] tb_0 (by rfl) (t_T_where_M l hl G u hm x y) (kV1T_where wm_510 ⟨by decide, by decide⟩) (by rfl) (Nat.le_of_ble_eq_true rfl) dL_where_5 ⟨by decide, by decide⟩ (h := 13) (tc_hp1 "java/lang/IllegalStateException" (by decide) (by decide) (by decide) wm_321 (by decide +kernel)) (fun a => ?_)
    refine tv_astore4 (pc := 13) dL_where_13 (by rfl) ?_
    refine tv_iconst (v := 1) (pc := 15) dL_where_15 (by decide) ?_
    exact tv_iret (pc := 16) dL_where_16 rfl (by decide) (by decide) ⟨_, rfl, jK (c_D_whereM l G u (h.1.md.trans hm) x y) (j_no h (by decide))⟩
  have hm1 : u 0 5 = 1 := h.1.m2.resolve_left hm
  have hM := h.2 hm1
  have md : u 56 6 = 1 := h.1.md.trans hm1
  have s2 := h.1.s2
  have hn := h.1.hn
  by_cases ho : (¬ x < 0 ∧ ¬ nI (n + 1) ≤ x) ∧ (¬ y < 0 ∧ ¬ 3 ≤ y)
  · obtain ⟨i, hi, rfl⟩ := tq_ix (b := n + 1) (by omega) ho.1
    obtain ⟨j, hj, rfl⟩ := tq_ix (b := 3) (by decide) ho.2
    refine tv_aload_n (pc := 0) dL_where_0 (by rfl) ?_
    refine tv_iconst (v := 0) (pc := 1) dL_where_1 (by decide) ?_
    refine tv_aload_n (pc := 2) dL_where_2 (by rfl) ?_
    refine tv_iload_n (pc := 3) dL_where_3 (by rfl) ?_
    refine tv_iload_n (pc := 4) dL_where_4 (by rfl) ?_
    refine tv_callVi (pc := 5) [_, _] tb_0 (by rfl) (c_T_where l G u hm hM.s7 hn (Nat.le_of_lt_succ hi) hj) (kVT_where wm_510 ⟨by decide, by decide⟩) (by rfl) (Nat.le_of_ble_eq_true rfl) dL_where_5 ⟨by decide, by decide⟩ ?_
    refine tv_i2l (pc := 8) dL_where_8 ?_
    refine tv_last (pc := 9) (j := 0) tb_76 ⟨by decide, by decide, by decide⟩ dL_where_9 ?_
    refine tv_goto (pc := 10) 21 dL_where_10 (by decide) ?_
    refine tv_iconst (v := 0) (pc := 21) dL_where_21 (by decide) ?_
    exact tv_iret (pc := 22) dL_where_22 rfl (by decide) (by decide) ⟨_, rfl, jKI (c_D_where l G _ (u76 (by decide) md) (u76 (by decide) s2) hn (Nat.le_of_lt_succ hi) hj hM.fc76 hM.re76) (fun _ _ hw => j_wh h hM (Nat.le_of_lt_succ hi) hj hw)⟩
  · skip
    refine tv_aload_n (pc := 0) dL_where_0 (by rfl) ?_
    refine tv_iconst (v := 0) (pc := 1) dL_where_1 (by decide) ?_
    refine tv_aload_n (pc := 2) dL_where_2 (by rfl) ?_
    refine tv_iload_n (pc := 3) dL_where_3 (by rfl) ?_
    refine tv_iload_n (pc := 4) dL_where_4 (by rfl) ?_
    refine tv_catV (pc := 5) [_, _] tb_0 (by rfl) (t_T_where_I l hl G u hm hM.s7 x y ho) (kV1T_where wm_510 ⟨by decide, by decide⟩) (by rfl) (Nat.le_of_ble_eq_true rfl) dL_where_5 ⟨by decide, by decide⟩ (h := 17) (tc_hp2 "java/lang/IllegalStateException" (by decide) (by decide) (by decide) wm_321 (by decide +kernel) (tc_hp1 "java/lang/IndexOutOfBoundsException" (by decide) (by decide) (by decide) wm_483 (by decide +kernel))) (fun a => ?_)
    refine tv_astore4 (pc := 17) dL_where_17 (by rfl) ?_
    refine tv_iconst (v := 2) (pc := 19) dL_where_19 (by decide) ?_
    exact tv_iret (pc := 20) dL_where_20 rfl (by decide) (by decide) ⟨_, rfl, jK (c_D_where2 l G u md s2 hn x y ho) (j_no h (by decide))⟩
set_option maxRecDepth 100000 in
set_option maxHeartbeats 4000000 in
theorem w_carriers (l : Launch) (hl : l.stackTraces = false) (G : tc_G) (u : tc_S) {n : Nat} (h : jI n u) (x y : Int32) : tc_C tcx G l yL_carriers wL_carriers r1L_carriers 1 6 [.ref (tc_ad G 0), .int x, .int y, .ref (tc_ad G 76)] u (tc_KI (fun k v => tc_C tcx G l yD_carriers wD_carriers r0D_carriers 0 0 [.ref (tc_ad G 56), .int x, .int y] v (tc_KI (jE k)))) := by
  refine tw_ofVW (own := "TracedCodeLaw") [some (.ref (tc_ad G 0)), some (.int x), some (.int y), some (.ref (tc_ad G 76)), none] (by decide +kernel) rfl (Nat.le_of_ble_eq_true rfl) (by rfl) (fun p e s m args below meth c => ?_)
  by_cases hm : u 0 5 = 0
  · skip
    refine tv_aload_n (pc := 0) dL_carriers_0 (by rfl) ?_
    refine tv_iconst (v := 0) (pc := 1) dL_carriers_1 (by decide) ?_
    refine tv_aload_n (pc := 2) dL_carriers_2 (by rfl) ?_
    refine tv_iload_n (pc := 3) dL_carriers_3 (by rfl) ?_
    refine tv_iload_n (pc := 4) dL_carriers_4 (by rfl) ?_
    refine tv_catV (pc := 5) [_, _] tb_0 (by rfl) (t_T_carriers_M l hl G u hm x y) (kV1T_carriers wm_525 ⟨by decide, by decide⟩) (by rfl) (Nat.le_of_ble_eq_true rfl) dL_carriers_5 ⟨by decide, by decide⟩ (h := 13) (tc_hp1 "java/lang/IllegalStateException" (by decide) (by decide) (by decide) wm_321 (by decide +kernel)) (fun a => ?_)
    refine tv_astore4 (pc := 13) dL_carriers_13 (by rfl) ?_
    refine tv_iconst (v := 1) (pc := 15) dL_carriers_15 (by decide) ?_
    exact tv_iret (pc := 16) dL_carriers_16 rfl (by decide) (by decide) ⟨_, rfl, jK (c_D_carriersM l G u (h.1.md.trans hm) x y) (j_no h (by decide))⟩
  have hm1 : u 0 5 = 1 := h.1.m2.resolve_left hm
  have hM := h.2 hm1
  have md : u 56 6 = 1 := h.1.md.trans hm1
  have s2 := h.1.s2
  have hn := h.1.hn
  by_cases ho : (¬ x < 0 ∧ ¬ nI (n + 1) ≤ x) ∧ (¬ y < 0 ∧ ¬ 6 ≤ y)
  · obtain ⟨i, hi, rfl⟩ := tq_ix (b := n + 1) (by omega) ho.1
    obtain ⟨j, hj, rfl⟩ := tq_ix (b := 6) (by decide) ho.2
    refine tv_aload_n (pc := 0) dL_carriers_0 (by rfl) ?_
    refine tv_iconst (v := 0) (pc := 1) dL_carriers_1 (by decide) ?_
    refine tv_aload_n (pc := 2) dL_carriers_2 (by rfl) ?_
    refine tv_iload_n (pc := 3) dL_carriers_3 (by rfl) ?_
    refine tv_iload_n (pc := 4) dL_carriers_4 (by rfl) ?_
    refine tv_callVi (pc := 5) [_, _] tb_0 (by rfl) (c_T_carriers l G u hm hM.s7 hn (Nat.le_of_lt_succ hi) hj) (kVT_carriers wm_525 ⟨by decide, by decide⟩) (by rfl) (Nat.le_of_ble_eq_true rfl) dL_carriers_5 ⟨by decide, by decide⟩ ?_
    refine tv_i2l (pc := 8) dL_carriers_8 ?_
    refine tv_last (pc := 9) (j := 0) tb_76 ⟨by decide, by decide, by decide⟩ dL_carriers_9 ?_
    refine tv_goto (pc := 10) 21 dL_carriers_10 (by decide) ?_
    refine tv_iconst (v := 0) (pc := 21) dL_carriers_21 (by decide) ?_
    exact tv_iret (pc := 22) dL_carriers_22 rfl (by decide) (by decide) ⟨_, rfl, jK (c_D_carriers l G _ (u76 (by decide) md) (u76 (by decide) s2) hn (Nat.le_of_lt_succ hi) hj hM.re76) (j_an h (by rw [tc_up_ne (by decide)]; exact hM.kr (Nat.le_of_lt_succ hi) hj))⟩
  · skip
    refine tv_aload_n (pc := 0) dL_carriers_0 (by rfl) ?_
    refine tv_iconst (v := 0) (pc := 1) dL_carriers_1 (by decide) ?_
    refine tv_aload_n (pc := 2) dL_carriers_2 (by rfl) ?_
    refine tv_iload_n (pc := 3) dL_carriers_3 (by rfl) ?_
    refine tv_iload_n (pc := 4) dL_carriers_4 (by rfl) ?_
    refine tv_catV (pc := 5) [_, _] tb_0 (by rfl) (t_T_carriers_I l hl G u hm hM.s7 x y ho) (kV1T_carriers wm_525 ⟨by decide, by decide⟩) (by rfl) (Nat.le_of_ble_eq_true rfl) dL_carriers_5 ⟨by decide, by decide⟩ (h := 17) (tc_hp2 "java/lang/IllegalStateException" (by decide) (by decide) (by decide) wm_321 (by decide +kernel) (tc_hp1 "java/lang/IndexOutOfBoundsException" (by decide) (by decide) (by decide) wm_483 (by decide +kernel))) (fun a => ?_)
    refine tv_astore4 (pc := 17) dL_carriers_17 (by rfl) ?_
    refine tv_iconst (v := 2) (pc := 19) dL_carriers_19 (by decide) ?_
    exact tv_iret (pc := 20) dL_carriers_20 rfl (by decide) (by decide) ⟨_, rfl, jK (c_D_carriers2 l G u md s2 hn x y ho) (j_no h (by decide))⟩
set_option maxRecDepth 100000 in
set_option maxHeartbeats 4000000 in
theorem w_restart (l : Launch) (hl : l.stackTraces = false) (G : tc_G) (u : tc_S) {n : Nat} (h : jI n u)  : tc_C tcx G l yL_restart wL_restart r1L_restart 1 6 [.ref (tc_ad G 0)] u (tc_KI (fun k v => tc_C tcx G l yD_restart wD_restart r0D_restart 0 0 [.ref (tc_ad G 56)] v (tc_KV (fun w => (∃ n, jI n w) ∧ w 56 0 = k)))) := by
  refine tw_ofVW (own := "TracedCodeLaw") [some (.ref (tc_ad G 0)), none] (by decide +kernel) rfl (Nat.le_of_ble_eq_true rfl) (by rfl) (fun p e s m args below meth c => ?_)
  by_cases hm : u 0 5 = 0
  · skip
    refine tv_aload_n (pc := 0) dL_restart_0 (by rfl) ?_
    refine tv_catV (pc := 1) [] tb_0 (by rfl) (t_T_restart_M l hl G u hm) (kV1T_restart wm_536 ⟨by decide, by decide⟩) (by rfl) (Nat.le_of_ble_eq_true rfl) dL_restart_1 ⟨by decide, by decide⟩ (h := 7) (tc_hp1 "java/lang/IllegalStateException" (by decide) (by decide) (by decide) wm_321 (by decide +kernel)) (fun a => ?_)
    refine tv_astore1 (pc := 7) dL_restart_7 (by rfl) ?_
    refine tv_iconst (v := 1) (pc := 8) dL_restart_8 (by decide) ?_
    exact tv_iret (pc := 9) dL_restart_9 rfl (by decide) (by decide) ⟨_, rfl, jKv (c_D_restartM l G u (h.1.md.trans hm)) (j_no (r := 0) h (k := 1) (by decide)).1 (j_no (r := 0) h (k := 1) (by decide)).2.1⟩
  have hm1 : u 0 5 = 1 := h.1.m2.resolve_left hm
  have hM := h.2 hm1
  have md : u 56 6 = 1 := h.1.md.trans hm1
  have s2 := h.1.s2
  have hn := h.1.hn
  refine tv_aload_n (pc := 0) dL_restart_0 (by rfl) ?_
  refine tv_callVv (pc := 1) [] tb_0 (by rfl) (c_T_restart l G u hm) (kVT_restart wm_536 ⟨by decide, by decide⟩) (by rfl) (Nat.le_of_ble_eq_true rfl) dL_restart_1 ⟨by decide, by decide⟩ ?_
  refine tv_goto (pc := 4) 10 dL_restart_4 (by decide) ?_
  refine tv_iconst (v := 0) (pc := 10) dL_restart_10 (by decide) ?_
  exact tv_iret (pc := 11) dL_restart_11 rfl (by decide) (by decide) ⟨_, rfl, jKv (c_D_restart l G _ (by rw [sn_o (by omega)]; exact md)) ⟨n, (j_restart h hm1).1⟩ (j_restart h hm1).2⟩
set_option maxRecDepth 100000 in
set_option maxHeartbeats 4000000 in
theorem w_step (l : Launch) (hl : l.stackTraces = false) (G : tc_G) (u : tc_S) {n : Nat} (h : jI n u)  : tc_C tcx G l yL_step wL_step r1L_step 1 6 [.ref (tc_ad G 0), .ref (tc_ad G 76)] u (tc_KI (fun k v => tc_C tcx G l yD_step wD_step r0D_step 0 0 [.ref (tc_ad G 56)] v (tc_KI (jE k)))) := by
  refine tw_ofVW (own := "TracedCodeLaw") [some (.ref (tc_ad G 0)), some (.ref (tc_ad G 76)), none] (by decide +kernel) rfl (Nat.le_of_ble_eq_true rfl) (by rfl) (fun p e s m args below meth c => ?_)
  by_cases hm : u 0 5 = 0
  · skip
    refine tv_aload_n (pc := 0) dL_step_0 (by rfl) ?_
    refine tv_iconst (v := 0) (pc := 1) dL_step_1 (by decide) ?_
    refine tv_aload_n (pc := 2) dL_step_2 (by rfl) ?_
    refine tv_catV (pc := 3) [] tb_0 (by rfl) (t_T_step_M l hl G u hm) (kV1T_step wm_543 ⟨by decide, by decide⟩) (by rfl) (Nat.le_of_ble_eq_true rfl) dL_step_3 ⟨by decide, by decide⟩ (h := 11) (tc_hp1 "java/lang/IllegalStateException" (by decide) (by decide) (by decide) wm_321 (by decide +kernel)) (fun a => ?_)
    refine tv_astore2 (pc := 11) dL_step_11 (by rfl) ?_
    refine tv_iconst (v := 1) (pc := 12) dL_step_12 (by decide) ?_
    exact tv_iret (pc := 13) dL_step_13 rfl (by decide) (by decide) ⟨_, rfl, jK (c_D_stepM l G u (h.1.md.trans hm)) (j_no h (by decide))⟩
  have hm1 : u 0 5 = 1 := h.1.m2.resolve_left hm
  have hM := h.2 hm1
  have md : u 56 6 = 1 := h.1.md.trans hm1
  have s2 := h.1.s2
  have hn := h.1.hn
  obtain ⟨q, t, c0, hR⟩ := hM.rn
  have hq1 := hR.q1
  have ht1 := hR.t1
  have hc1 := hR.c1
  by_cases hq : q < n ∧ t < 200
  · skip
    refine tv_aload_n (pc := 0) dL_step_0 (by rfl) ?_
    refine tv_iconst (v := 0) (pc := 1) dL_step_1 (by decide) ?_
    refine tv_aload_n (pc := 2) dL_step_2 (by rfl) ?_
    refine tv_callVi (pc := 3) [] tb_0 (by rfl) (c_T_step l G u hm h.1.s1 hM.s7 hn hR.a1 hq.1 (by rw [hR.b1, show (200 : Int32) = nI 200 from rfl]; exact Int32.not_le.mp (nI_ge hq.2 (by decide))) (h.1.li q hq.1) (hM.li q hq.1) (by rw [hR.o1]; exact nI_pos (by omega)) (by rw [hR.o2]; exact nI_pos (by omega))) (kVT_step wm_543 ⟨by decide, by decide⟩) (by rfl) (Nat.le_of_ble_eq_true rfl) dL_step_3 ⟨by decide, by decide⟩ ?_
    refine tv_i2l (pc := 6) dL_step_6 ?_
    refine tv_last (pc := 7) (j := 0) tb_76 ⟨by decide, by decide, by decide⟩ dL_step_7 ?_
    refine tv_goto (pc := 8) 14 dL_step_8 (by decide) ?_
    refine tv_iconst (v := 0) (pc := 14) dL_step_14 (by decide) ?_
    exact tv_iret (pc := 15) dL_step_15 rfl (by decide) (by decide) ⟨_, rfl, j_stD l G h hm1 hR hq.1 hq.2⟩
  · have hqt : q = n ∨ t = 200 := by omega
    refine tv_aload_n (pc := 0) dL_step_0 (by rfl) ?_
    refine tv_iconst (v := 0) (pc := 1) dL_step_1 (by decide) ?_
    refine tv_aload_n (pc := 2) dL_step_2 (by rfl) ?_
    refine tv_callVi (pc := 3) [] tb_0 (by rfl) (c_T_step0 l G u hm h.1.s1 (by rw [hR.a1, hR.b1]; rcases hqt with e | e; exact Or.inl (by rw [e]; exact Int32.le_refl _); exact Or.inr (by rw [e]; decide))) (kVT_step wm_543 ⟨by decide, by decide⟩) (by rfl) (Nat.le_of_ble_eq_true rfl) dL_step_3 ⟨by decide, by decide⟩ ?_
    refine tv_i2l (pc := 6) dL_step_6 ?_
    refine tv_last (pc := 7) (j := 0) tb_76 ⟨by decide, by decide, by decide⟩ dL_step_7 ?_
    refine tv_goto (pc := 8) 14 dL_step_8 (by decide) ?_
    refine tv_iconst (v := 0) (pc := 14) dL_step_14 (by decide) ?_
    exact tv_iret (pc := 15) dL_step_15 rfl (by decide) (by decide) ⟨_, rfl, jK (c_D_step0 l G _ (u76 (by decide) md) (u76 (by decide) s2) hn (u76 (by decide) hR.a2) (u76 (by decide) hR.b2) hqt) (j_an h rfl)⟩
set_option maxRecDepth 100000 in
set_option maxHeartbeats 4000000 in
theorem w_line (l : Launch) (hl : l.stackTraces = false) (G : tc_G) (u : tc_S) {n : Nat} (h : jI n u)  : tc_C tcx G l yL_line wL_line r1L_line 1 6 [.ref (tc_ad G 0), .ref (tc_ad G 76)] u (tc_KI (fun k v => tc_C tcx G l yD_line wD_line r0D_line 0 0 [.ref (tc_ad G 56)] v (tc_KI (jE k)))) := by
  refine tw_ofVW (own := "TracedCodeLaw") [some (.ref (tc_ad G 0)), some (.ref (tc_ad G 76)), none] (by decide +kernel) rfl (Nat.le_of_ble_eq_true rfl) (by rfl) (fun p e s m args below meth c => ?_)
  by_cases hm : u 0 5 = 0
  · skip
    refine tv_aload_n (pc := 0) dL_line_0 (by rfl) ?_
    refine tv_iconst (v := 0) (pc := 1) dL_line_1 (by decide) ?_
    refine tv_aload_n (pc := 2) dL_line_2 (by rfl) ?_
    refine tv_catV (pc := 3) [] tb_0 (by rfl) (t_T_line_M l hl G u hm) (kV1T_line wm_576 ⟨by decide, by decide⟩) (by rfl) (Nat.le_of_ble_eq_true rfl) dL_line_3 ⟨by decide, by decide⟩ (h := 11) (tc_hp1 "java/lang/IllegalStateException" (by decide) (by decide) (by decide) wm_321 (by decide +kernel)) (fun a => ?_)
    refine tv_astore2 (pc := 11) dL_line_11 (by rfl) ?_
    refine tv_iconst (v := 1) (pc := 12) dL_line_12 (by decide) ?_
    exact tv_iret (pc := 13) dL_line_13 rfl (by decide) (by decide) ⟨_, rfl, jK (c_D_lineM l G u (h.1.md.trans hm)) (j_no h (by decide))⟩
  have hm1 : u 0 5 = 1 := h.1.m2.resolve_left hm
  have hM := h.2 hm1
  have md : u 56 6 = 1 := h.1.md.trans hm1
  have s2 := h.1.s2
  have hn := h.1.hn
  obtain ⟨q, t, c0, hR⟩ := hM.rn
  refine tv_aload_n (pc := 0) dL_line_0 (by rfl) ?_
  refine tv_iconst (v := 0) (pc := 1) dL_line_1 (by decide) ?_
  refine tv_aload_n (pc := 2) dL_line_2 (by rfl) ?_
  refine tv_callVi (pc := 3) [] tb_0 (by rfl) (c_T_line l G u hm) (kVT_line wm_576 ⟨by decide, by decide⟩) (by rfl) (Nat.le_of_ble_eq_true rfl) dL_line_3 ⟨by decide, by decide⟩ ?_
  refine tv_i2l (pc := 6) dL_line_6 ?_
  refine tv_last (pc := 7) (j := 0) tb_76 ⟨by decide, by decide, by decide⟩ dL_line_7 ?_
  refine tv_goto (pc := 8) 14 dL_line_8 (by decide) ?_
  refine tv_iconst (v := 0) (pc := 14) dL_line_14 (by decide) ?_
  exact tv_iret (pc := 15) dL_line_15 rfl (by decide) (by decide) ⟨_, rfl, jK (c_D_line l G _ (u76 (by decide) md)) (j_an h (by rw [tc_up_ne (by decide), hR.a1, hR.a2]))⟩
set_option maxRecDepth 100000 in
set_option maxHeartbeats 4000000 in
theorem w_register (l : Launch) (hl : l.stackTraces = false) (G : tc_G) (u : tc_S) {n : Nat} (h : jI n u) (x y : Int32) (hy : y = 0 ∨ y = 1) : tc_C tcx G l yL_register wL_register r1L_register 1 6 [.ref (tc_ad G 0), .int x, .int y, .ref (tc_ad G 76)] u (tc_KI (fun k v => tc_C tcx G l yD_register wD_register r0D_register 0 0 [.ref (tc_ad G 56), .int x, .int y] v (tc_KI (jE k)))) := by
  refine tw_ofVW (own := "TracedCodeLaw") [some (.ref (tc_ad G 0)), some (.int x), some (.int y), some (.ref (tc_ad G 76)), none] (by decide +kernel) rfl (Nat.le_of_ble_eq_true rfl) (by rfl) (fun p e s m args below meth c => ?_)
  by_cases hm : u 0 5 = 0
  · skip
    refine tv_aload_n (pc := 0) dL_register_0 (by rfl) ?_
    refine tv_iconst (v := 0) (pc := 1) dL_register_1 (by decide) ?_
    refine tv_aload_n (pc := 2) dL_register_2 (by rfl) ?_
    refine tv_iload_n (pc := 3) dL_register_3 (by rfl) ?_
    refine tv_iload_n (pc := 4) dL_register_4 (by rfl) ?_
    refine tv_catV (pc := 5) [_, _] tb_0 (by rfl) (t_T_register_M l hl G u hm x y) (kV1T_register wm_587 ⟨by decide, by decide⟩) (by rfl) (Nat.le_of_ble_eq_true rfl) dL_register_5 ⟨by decide, by decide⟩ (h := 13) (tc_hp1 "java/lang/IllegalStateException" (by decide) (by decide) (by decide) wm_321 (by decide +kernel)) (fun a => ?_)
    refine tv_astore4 (pc := 13) dL_register_13 (by rfl) ?_
    refine tv_iconst (v := 1) (pc := 15) dL_register_15 (by decide) ?_
    exact tv_iret (pc := 16) dL_register_16 rfl (by decide) (by decide) ⟨_, rfl, jK (c_D_registerM l G u (h.1.md.trans hm) x y) (j_no h (by decide))⟩
  have hm1 : u 0 5 = 1 := h.1.m2.resolve_left hm
  have hM := h.2 hm1
  have md : u 56 6 = 1 := h.1.md.trans hm1
  have s2 := h.1.s2
  have hn := h.1.hn
  obtain ⟨q, t, c0, hR⟩ := hM.rn
  by_cases ho : ¬ x < 0 ∧ ¬ 6 ≤ x
  · obtain ⟨i, hi, rfl⟩ := tq_ix (b := 6) (by decide) ho
    rcases hy with rfl | rfl
    · skip
      refine tv_aload_n (pc := 0) dL_register_0 (by rfl) ?_
      refine tv_iconst (v := 0) (pc := 1) dL_register_1 (by decide) ?_
      refine tv_aload_n (pc := 2) dL_register_2 (by rfl) ?_
      refine tv_iload_n (pc := 3) dL_register_3 (by rfl) ?_
      refine tv_iload_n (pc := 4) dL_register_4 (by rfl) ?_
      refine tv_callVi (pc := 5) [_, _] tb_0 (by rfl) (c_T_register0 l G u hm hi) (kVT_register wm_587 ⟨by decide, by decide⟩) (by rfl) (Nat.le_of_ble_eq_true rfl) dL_register_5 ⟨by decide, by decide⟩ ?_
      refine tv_i2l (pc := 8) dL_register_8 ?_
      refine tv_last (pc := 9) (j := 0) tb_76 ⟨by decide, by decide, by decide⟩ dL_register_9 ?_
      refine tv_goto (pc := 10) 21 dL_register_10 (by decide) ?_
      refine tv_iconst (v := 0) (pc := 21) dL_register_21 (by decide) ?_
      exact tv_iret (pc := 22) dL_register_22 rfl (by decide) (by decide) ⟨_, rfl, jK (c_D_register_0 l G _ (u76 (by decide) md) hi) (j_an h (by rw [tc_up_ne (by decide), hR.r1 i hi, Nat.zero_add]))⟩
    · skip
      refine tv_aload_n (pc := 0) dL_register_0 (by rfl) ?_
      refine tv_iconst (v := 0) (pc := 1) dL_register_1 (by decide) ?_
      refine tv_aload_n (pc := 2) dL_register_2 (by rfl) ?_
      refine tv_iload_n (pc := 3) dL_register_3 (by rfl) ?_
      refine tv_iload_n (pc := 4) dL_register_4 (by rfl) ?_
      refine tv_callVi (pc := 5) [_, _] tb_0 (by rfl) (c_T_register1 l G u hm hi) (kVT_register wm_587 ⟨by decide, by decide⟩) (by rfl) (Nat.le_of_ble_eq_true rfl) dL_register_5 ⟨by decide, by decide⟩ ?_
      refine tv_i2l (pc := 8) dL_register_8 ?_
      refine tv_last (pc := 9) (j := 0) tb_76 ⟨by decide, by decide, by decide⟩ dL_register_9 ?_
      refine tv_goto (pc := 10) 21 dL_register_10 (by decide) ?_
      refine tv_iconst (v := 0) (pc := 21) dL_register_21 (by decide) ?_
      exact tv_iret (pc := 22) dL_register_22 rfl (by decide) (by decide) ⟨_, rfl, jK (c_D_register_1 l G _ (u76 (by decide) md) hi) (j_an h (by rw [tc_up_ne (by decide)]; exact hR.r2 i hi))⟩
  · skip
    refine tv_aload_n (pc := 0) dL_register_0 (by rfl) ?_
    refine tv_iconst (v := 0) (pc := 1) dL_register_1 (by decide) ?_
    refine tv_aload_n (pc := 2) dL_register_2 (by rfl) ?_
    refine tv_iload_n (pc := 3) dL_register_3 (by rfl) ?_
    refine tv_iload_n (pc := 4) dL_register_4 (by rfl) ?_
    refine tv_catV (pc := 5) [_, _] tb_0 (by rfl) (t_T_register_I l hl G u hm x y ho) (kV1T_register wm_587 ⟨by decide, by decide⟩) (by rfl) (Nat.le_of_ble_eq_true rfl) dL_register_5 ⟨by decide, by decide⟩ (h := 17) (tc_hp2 "java/lang/IllegalStateException" (by decide) (by decide) (by decide) wm_321 (by decide +kernel) (tc_hp1 "java/lang/IndexOutOfBoundsException" (by decide) (by decide) (by decide) wm_483 (by decide +kernel))) (fun a => ?_)
    refine tv_astore4 (pc := 17) dL_register_17 (by rfl) ?_
    refine tv_iconst (v := 2) (pc := 19) dL_register_19 (by decide) ?_
    exact tv_iret (pc := 20) dL_register_20 rfl (by decide) (by decide) ⟨_, rfl, jK (c_D_register2 l G u md x y ho) (j_no h (by decide))⟩
set_option maxRecDepth 100000 in
set_option maxHeartbeats 4000000 in
theorem w_output (l : Launch) (hl : l.stackTraces = false) (G : tc_G) (u : tc_S) {n : Nat} (h : jI n u) (x y : Int32) (hy : y = 0 ∨ y = 1) : tc_C tcx G l yL_output wL_output r1L_output 1 6 [.ref (tc_ad G 0), .int x, .int y, .ref (tc_ad G 76)] u (tc_KI (fun k v => tc_C tcx G l yD_output wD_output r0D_output 0 0 [.ref (tc_ad G 56), .int x, .int y] v (tc_KI (jE k)))) := by
  refine tw_ofVW (own := "TracedCodeLaw") [some (.ref (tc_ad G 0)), some (.int x), some (.int y), some (.ref (tc_ad G 76)), none] (by decide +kernel) rfl (Nat.le_of_ble_eq_true rfl) (by rfl) (fun p e s m args below meth c => ?_)
  by_cases hm : u 0 5 = 0
  · skip
    refine tv_aload_n (pc := 0) dL_output_0 (by rfl) ?_
    refine tv_iconst (v := 0) (pc := 1) dL_output_1 (by decide) ?_
    refine tv_aload_n (pc := 2) dL_output_2 (by rfl) ?_
    refine tv_iload_n (pc := 3) dL_output_3 (by rfl) ?_
    refine tv_iload_n (pc := 4) dL_output_4 (by rfl) ?_
    refine tv_catV (pc := 5) [_, _] tb_0 (by rfl) (t_T_output_M l hl G u hm x y) (kV1T_output wm_599 ⟨by decide, by decide⟩) (by rfl) (Nat.le_of_ble_eq_true rfl) dL_output_5 ⟨by decide, by decide⟩ (h := 13) (tc_hp1 "java/lang/IllegalStateException" (by decide) (by decide) (by decide) wm_321 (by decide +kernel)) (fun a => ?_)
    refine tv_astore4 (pc := 13) dL_output_13 (by rfl) ?_
    refine tv_iconst (v := 1) (pc := 15) dL_output_15 (by decide) ?_
    exact tv_iret (pc := 16) dL_output_16 rfl (by decide) (by decide) ⟨_, rfl, jK (c_D_outputM l G u (h.1.md.trans hm) x y) (j_no h (by decide))⟩
  have hm1 : u 0 5 = 1 := h.1.m2.resolve_left hm
  have hM := h.2 hm1
  have md : u 56 6 = 1 := h.1.md.trans hm1
  have s2 := h.1.s2
  have hn := h.1.hn
  obtain ⟨q, t, c0, hR⟩ := hM.rn
  have ht1 := hR.t1
  have hc1 := hR.c1
  by_cases ho : ¬ x < 0 ∧ ¬ nI c0 ≤ x
  · obtain ⟨i, hi, rfl⟩ := tq_ix (b := c0) (by omega) ho
    rcases hy with rfl | rfl
    · skip
      refine tv_aload_n (pc := 0) dL_output_0 (by rfl) ?_
      refine tv_iconst (v := 0) (pc := 1) dL_output_1 (by decide) ?_
      refine tv_aload_n (pc := 2) dL_output_2 (by rfl) ?_
      refine tv_iload_n (pc := 3) dL_output_3 (by rfl) ?_
      refine tv_iload_n (pc := 4) dL_output_4 (by rfl) ?_
      refine tv_callVi (pc := 5) [_, _] tb_0 (by rfl) (c_T_output0 l G u hm hR.o1 hi (by omega)) (kVT_output wm_599 ⟨by decide, by decide⟩) (by rfl) (Nat.le_of_ble_eq_true rfl) dL_output_5 ⟨by decide, by decide⟩ ?_
      refine tv_i2l (pc := 8) dL_output_8 ?_
      refine tv_last (pc := 9) (j := 0) tb_76 ⟨by decide, by decide, by decide⟩ dL_output_9 ?_
      refine tv_goto (pc := 10) 21 dL_output_10 (by decide) ?_
      refine tv_iconst (v := 0) (pc := 21) dL_output_21 (by decide) ?_
      exact tv_iret (pc := 22) dL_output_22 rfl (by decide) (by decide) ⟨_, rfl, jK (c_D_output_0 l G _ (u76 (by decide) md) (u76 (by decide) hR.o3) hi (by omega)) (j_an h (by rw [tc_up_ne (by decide)]; exact (hR.p1 i hi).1))⟩
    · skip
      refine tv_aload_n (pc := 0) dL_output_0 (by rfl) ?_
      refine tv_iconst (v := 0) (pc := 1) dL_output_1 (by decide) ?_
      refine tv_aload_n (pc := 2) dL_output_2 (by rfl) ?_
      refine tv_iload_n (pc := 3) dL_output_3 (by rfl) ?_
      refine tv_iload_n (pc := 4) dL_output_4 (by rfl) ?_
      refine tv_callVi (pc := 5) [_, _] tb_0 (by rfl) (c_T_output1 l G u hm hR.o2 hi (by omega)) (kVT_output wm_599 ⟨by decide, by decide⟩) (by rfl) (Nat.le_of_ble_eq_true rfl) dL_output_5 ⟨by decide, by decide⟩ ?_
      refine tv_i2l (pc := 8) dL_output_8 ?_
      refine tv_last (pc := 9) (j := 0) tb_76 ⟨by decide, by decide, by decide⟩ dL_output_9 ?_
      refine tv_goto (pc := 10) 21 dL_output_10 (by decide) ?_
      refine tv_iconst (v := 0) (pc := 21) dL_output_21 (by decide) ?_
      exact tv_iret (pc := 22) dL_output_22 rfl (by decide) (by decide) ⟨_, rfl, jK (c_D_output_1 l G _ (u76 (by decide) md) (u76 (by decide) hR.o3) hi (by omega)) (j_an h (by rw [tc_up_ne (by decide)]; exact (hR.p1 i hi).2))⟩
  · rcases hy with rfl | rfl
    · skip
      refine tv_aload_n (pc := 0) dL_output_0 (by rfl) ?_
      refine tv_iconst (v := 0) (pc := 1) dL_output_1 (by decide) ?_
      refine tv_aload_n (pc := 2) dL_output_2 (by rfl) ?_
      refine tv_iload_n (pc := 3) dL_output_3 (by rfl) ?_
      refine tv_iload_n (pc := 4) dL_output_4 (by rfl) ?_
      refine tv_catV (pc := 5) [_, _] tb_0 (by rfl) (t_T_output_I0 l hl G u hm hR.o1 x ho) (kV1T_output wm_599 ⟨by decide, by decide⟩) (by rfl) (Nat.le_of_ble_eq_true rfl) dL_output_5 ⟨by decide, by decide⟩ (h := 17) (tc_hp2 "java/lang/IllegalStateException" (by decide) (by decide) (by decide) wm_321 (by decide +kernel) (tc_hp1 "java/lang/IndexOutOfBoundsException" (by decide) (by decide) (by decide) wm_483 (by decide +kernel))) (fun a => ?_)
      refine tv_astore4 (pc := 17) dL_output_17 (by rfl) ?_
      refine tv_iconst (v := 2) (pc := 19) dL_output_19 (by decide) ?_
      exact tv_iret (pc := 20) dL_output_20 rfl (by decide) (by decide) ⟨_, rfl, jK (c_D_output2 l G u md hR.o3 x 0 ho) (j_no h (by decide))⟩
    · skip
      refine tv_aload_n (pc := 0) dL_output_0 (by rfl) ?_
      refine tv_iconst (v := 0) (pc := 1) dL_output_1 (by decide) ?_
      refine tv_aload_n (pc := 2) dL_output_2 (by rfl) ?_
      refine tv_iload_n (pc := 3) dL_output_3 (by rfl) ?_
      refine tv_iload_n (pc := 4) dL_output_4 (by rfl) ?_
      refine tv_catV (pc := 5) [_, _] tb_0 (by rfl) (t_T_output_I1 l hl G u hm hR.o2 x ho) (kV1T_output wm_599 ⟨by decide, by decide⟩) (by rfl) (Nat.le_of_ble_eq_true rfl) dL_output_5 ⟨by decide, by decide⟩ (h := 17) (tc_hp2 "java/lang/IllegalStateException" (by decide) (by decide) (by decide) wm_321 (by decide +kernel) (tc_hp1 "java/lang/IndexOutOfBoundsException" (by decide) (by decide) (by decide) wm_483 (by decide +kernel))) (fun a => ?_)
      refine tv_astore4 (pc := 17) dL_output_17 (by rfl) ?_
      refine tv_iconst (v := 2) (pc := 19) dL_output_19 (by decide) ?_
      exact tv_iret (pc := 20) dL_output_20 rfl (by decide) (by decide) ⟨_, rfl, jK (c_D_output2 l G u md hR.o3 x 1 ho) (j_no h (by decide))⟩
set_option maxRecDepth 100000 in
set_option maxHeartbeats 4000000 in
theorem w_value (l : Launch) (hl : l.stackTraces = false) (G : tc_G) (u : tc_S) {n : Nat} (h : jI n u) (x : Int32) : tc_C tcx G l yL_value wL_value r1L_value 1 6 [.ref (tc_ad G 0), .int x, .ref (tc_ad G 76)] u (tc_KI (fun k v => tc_C tcx G l yD_value wD_value r0D_value 0 0 [.ref (tc_ad G 56), .int x] v (tc_KI (jE k)))) := by
  refine tw_ofVW (own := "TracedCodeLaw") [some (.ref (tc_ad G 0)), some (.int x), some (.ref (tc_ad G 76)), none] (by decide +kernel) rfl (Nat.le_of_ble_eq_true rfl) (by rfl) (fun p e s m args below meth c => ?_)
  by_cases hm : u 0 5 = 0
  · skip
    refine tv_aload_n (pc := 0) dL_value_0 (by rfl) ?_
    refine tv_iconst (v := 0) (pc := 1) dL_value_1 (by decide) ?_
    refine tv_aload_n (pc := 2) dL_value_2 (by rfl) ?_
    refine tv_iload_n (pc := 3) dL_value_3 (by rfl) ?_
    refine tv_catV (pc := 4) [_] tb_0 (by rfl) (t_T_value_M l hl G u hm x) (kV1T_value wm_614 ⟨by decide, by decide⟩) (by rfl) (Nat.le_of_ble_eq_true rfl) dL_value_4 ⟨by decide, by decide⟩ (h := 12) (tc_hp1 "java/lang/IllegalStateException" (by decide) (by decide) (by decide) wm_321 (by decide +kernel)) (fun a => ?_)
    refine tv_astore3 (pc := 12) dL_value_12 (by rfl) ?_
    refine tv_iconst (v := 1) (pc := 13) dL_value_13 (by decide) ?_
    exact tv_iret (pc := 14) dL_value_14 rfl (by decide) (by decide) ⟨_, rfl, jK (c_D_valueM l G u (h.1.md.trans hm) x) (j_no h (by decide))⟩
  have hm1 : u 0 5 = 1 := h.1.m2.resolve_left hm
  have hM := h.2 hm1
  have md : u 56 6 = 1 := h.1.md.trans hm1
  have s2 := h.1.s2
  have hn := h.1.hn
  obtain ⟨q, t, c0, hR⟩ := hM.rn
  by_cases ho : ¬ x < 0 ∧ ¬ 3 ≤ x
  · obtain ⟨i, hi, rfl⟩ := tq_ix (b := 3) (by decide) ho
    obtain ⟨v1, v2, v3⟩ := hR.v1 i hi
    rcases v2 with z | z
    · skip
      refine tv_aload_n (pc := 0) dL_value_0 (by rfl) ?_
      refine tv_iconst (v := 0) (pc := 1) dL_value_1 (by decide) ?_
      refine tv_aload_n (pc := 2) dL_value_2 (by rfl) ?_
      refine tv_iload_n (pc := 3) dL_value_3 (by rfl) ?_
      refine tv_catV (pc := 4) [_] tb_0 (by rfl) (t_T_value_V l hl G u hm hi (v1.trans z)) (kV1T_value wm_614 ⟨by decide, by decide⟩) (by rfl) (Nat.le_of_ble_eq_true rfl) dL_value_4 ⟨by decide, by decide⟩ (h := 12) (tc_hp1 "java/lang/IllegalStateException" (by decide) (by decide) (by decide) wm_321 (by decide +kernel)) (fun a => ?_)
      refine tv_astore3 (pc := 12) dL_value_12 (by rfl) ?_
      refine tv_iconst (v := 1) (pc := 13) dL_value_13 (by decide) ?_
      exact tv_iret (pc := 14) dL_value_14 rfl (by decide) (by decide) ⟨_, rfl, jK (c_D_value1 l G u md hi z) (j_no h (by decide))⟩
    · skip
      refine tv_aload_n (pc := 0) dL_value_0 (by rfl) ?_
      refine tv_iconst (v := 0) (pc := 1) dL_value_1 (by decide) ?_
      refine tv_aload_n (pc := 2) dL_value_2 (by rfl) ?_
      refine tv_iload_n (pc := 3) dL_value_3 (by rfl) ?_
      refine tv_callVi (pc := 4) [_] tb_0 (by rfl) (c_T_value l G u hm hi (v1.trans z)) (kVT_value wm_614 ⟨by decide, by decide⟩) (by rfl) (Nat.le_of_ble_eq_true rfl) dL_value_4 ⟨by decide, by decide⟩ ?_
      refine tv_i2l (pc := 7) dL_value_7 ?_
      refine tv_last (pc := 8) (j := 0) tb_76 ⟨by decide, by decide, by decide⟩ dL_value_8 ?_
      refine tv_goto (pc := 9) 18 dL_value_9 (by decide) ?_
      refine tv_iconst (v := 0) (pc := 18) dL_value_18 (by decide) ?_
      exact tv_iret (pc := 19) dL_value_19 rfl (by decide) (by decide) ⟨_, rfl, jK (c_D_value l G _ (u76 (by decide) md) hi (u76 (by decide) z)) (j_an h (by rw [tc_up_ne (by decide)]; exact v3 z))⟩
  · skip
    refine tv_aload_n (pc := 0) dL_value_0 (by rfl) ?_
    refine tv_iconst (v := 0) (pc := 1) dL_value_1 (by decide) ?_
    refine tv_aload_n (pc := 2) dL_value_2 (by rfl) ?_
    refine tv_iload_n (pc := 3) dL_value_3 (by rfl) ?_
    refine tv_catV (pc := 4) [_] tb_0 (by rfl) (t_T_value_I l hl G u hm x ho) (kV1T_value wm_614 ⟨by decide, by decide⟩) (by rfl) (Nat.le_of_ble_eq_true rfl) dL_value_4 ⟨by decide, by decide⟩ (h := 15) (tc_hp2 "java/lang/IllegalStateException" (by decide) (by decide) (by decide) wm_321 (by decide +kernel) (tc_hp1 "java/lang/IndexOutOfBoundsException" (by decide) (by decide) (by decide) wm_483 (by decide +kernel))) (fun a => ?_)
    refine tv_astore3 (pc := 15) dL_value_15 (by rfl) ?_
    refine tv_iconst (v := 2) (pc := 16) dL_value_16 (by decide) ?_
    exact tv_iret (pc := 17) dL_value_17 rfl (by decide) (by decide) ⟨_, rfl, jK (c_D_value2 l G u md x ho) (j_no h (by decide))⟩
set_option maxRecDepth 100000 in
set_option maxHeartbeats 4000000 in
theorem w_read (l : Launch) (hl : l.stackTraces = false) (G : tc_G) (u : tc_S) {n : Nat} (h : jI n u) (x : Int32) : tc_C tcx G l yL_read wL_read r1L_read 1 6 [.ref (tc_ad G 0), .int x, .ref (tc_ad G 76)] u (tc_KI (fun k v => tc_C tcx G l yD_read wD_read r0D_read 0 0 [.ref (tc_ad G 56), .int x] v (tc_KI (jE k)))) := by
  refine tw_ofVW (own := "TracedCodeLaw") [some (.ref (tc_ad G 0)), some (.int x), some (.ref (tc_ad G 76)), none] (by decide +kernel) rfl (Nat.le_of_ble_eq_true rfl) (by rfl) (fun p e s m args below meth c => ?_)
  by_cases hm : u 0 5 = 0
  · skip
    refine tv_aload_n (pc := 0) dL_read_0 (by rfl) ?_
    refine tv_iconst (v := 0) (pc := 1) dL_read_1 (by decide) ?_
    refine tv_aload_n (pc := 2) dL_read_2 (by rfl) ?_
    refine tv_iload_n (pc := 3) dL_read_3 (by rfl) ?_
    refine tv_catV (pc := 4) [_] tb_0 (by rfl) (t_T_read_M l hl G u hm x) (kV1T_read wm_630 ⟨by decide, by decide⟩) (by rfl) (Nat.le_of_ble_eq_true rfl) dL_read_4 ⟨by decide, by decide⟩ (h := 12) (tc_hp1 "java/lang/IllegalStateException" (by decide) (by decide) (by decide) wm_321 (by decide +kernel)) (fun a => ?_)
    refine tv_astore3 (pc := 12) dL_read_12 (by rfl) ?_
    refine tv_iconst (v := 1) (pc := 13) dL_read_13 (by decide) ?_
    exact tv_iret (pc := 14) dL_read_14 rfl (by decide) (by decide) ⟨_, rfl, jK (c_D_readM l G u (h.1.md.trans hm) x) (j_no h (by decide))⟩
  have hm1 : u 0 5 = 1 := h.1.m2.resolve_left hm
  have hM := h.2 hm1
  have md : u 56 6 = 1 := h.1.md.trans hm1
  have s2 := h.1.s2
  have hn := h.1.hn
  obtain ⟨q, t, c0, hR⟩ := hM.rn
  have hq1 := hR.q1
  have hix : tc_ix (u 47 4) 17 q := by rw [hR.a1]; exact tc_ixN (by omega) (by decide)
  by_cases ho : ¬ x < 0 ∧ ¬ 3 ≤ x
  · obtain ⟨i, hi, rfl⟩ := tq_ix (b := 3) (by decide) ho
    rcases j_pl hM hq1 hi with ⟨r, hr, hp⟩ | hp | hp
    · skip
      refine tv_aload_n (pc := 0) dL_read_0 (by rfl) ?_
      refine tv_iconst (v := 0) (pc := 1) dL_read_1 (by decide) ?_
      refine tv_aload_n (pc := 2) dL_read_2 (by rfl) ?_
      refine tv_iload_n (pc := 3) dL_read_3 (by rfl) ?_
      refine tv_callVi (pc := 4) [_] tb_0 (by rfl) (c_T_readR l G u hm hi hix hr hp) (kVT_read wm_630 ⟨by decide, by decide⟩) (by rfl) (Nat.le_of_ble_eq_true rfl) dL_read_4 ⟨by decide, by decide⟩ ?_
      refine tv_i2l (pc := 7) dL_read_7 ?_
      refine tv_last (pc := 8) (j := 0) tb_76 ⟨by decide, by decide, by decide⟩ dL_read_8 ?_
      refine tv_goto (pc := 9) 21 dL_read_9 (by decide) ?_
      refine tv_iconst (v := 0) (pc := 21) dL_read_21 (by decide) ?_
      exact tv_iret (pc := 22) dL_read_22 rfl (by decide) (by decide) ⟨_, rfl, jKI (c_D_read l G _ (u76 (by decide) md) (u76 (by decide) s2) hn hq1 hi hM.fc76 hM.re76 (u76 (by decide) hR.a2)) (fun _ _ hw => j_rR h hM hR hq1 hi hr hp hw)⟩
    · skip
      refine tv_aload_n (pc := 0) dL_read_0 (by rfl) ?_
      refine tv_iconst (v := 0) (pc := 1) dL_read_1 (by decide) ?_
      refine tv_aload_n (pc := 2) dL_read_2 (by rfl) ?_
      refine tv_iload_n (pc := 3) dL_read_3 (by rfl) ?_
      refine tv_callVi (pc := 4) [_] tb_0 (by rfl) (c_T_readC l G u hm hi hix hp) (kVT_read wm_630 ⟨by decide, by decide⟩) (by rfl) (Nat.le_of_ble_eq_true rfl) dL_read_4 ⟨by decide, by decide⟩ ?_
      refine tv_i2l (pc := 7) dL_read_7 ?_
      refine tv_last (pc := 8) (j := 0) tb_76 ⟨by decide, by decide, by decide⟩ dL_read_8 ?_
      refine tv_goto (pc := 9) 21 dL_read_9 (by decide) ?_
      refine tv_iconst (v := 0) (pc := 21) dL_read_21 (by decide) ?_
      exact tv_iret (pc := 22) dL_read_22 rfl (by decide) (by decide) ⟨_, rfl, jKI (c_D_read l G _ (u76 (by decide) md) (u76 (by decide) s2) hn hq1 hi hM.fc76 hM.re76 (u76 (by decide) hR.a2)) (fun _ _ hw => j_rC h hM hq1 hi hp hw)⟩
    · skip
      refine tv_aload_n (pc := 0) dL_read_0 (by rfl) ?_
      refine tv_iconst (v := 0) (pc := 1) dL_read_1 (by decide) ?_
      refine tv_aload_n (pc := 2) dL_read_2 (by rfl) ?_
      refine tv_iload_n (pc := 3) dL_read_3 (by rfl) ?_
      refine tv_catV (pc := 4) [_] tb_0 (by rfl) (t_T_read_F l hl G u hm hi hix hp) (kV1T_read wm_630 ⟨by decide, by decide⟩) (by rfl) (Nat.le_of_ble_eq_true rfl) dL_read_4 ⟨by decide, by decide⟩ (h := 18) (tc_hp2 "java/lang/IllegalStateException" (by decide) (by decide) (by decide) wm_321 (by decide +kernel) (tc_hp2 "java/lang/IndexOutOfBoundsException" (by decide) (by decide) (by decide) wm_483 (by decide +kernel) (tc_hp1 "java/util/NoSuchElementException" (by decide) (by decide) (by decide) wm_629 (by decide +kernel)))) (fun a => ?_)
      refine tv_astore3 (pc := 18) dL_read_18 (by rfl) ?_
      refine tv_iconst (v := 3) (pc := 19) dL_read_19 (by decide) ?_
      exact tv_iret (pc := 20) dL_read_20 rfl (by decide) (by decide) ⟨_, rfl, jKI (c_D_read l G u md s2 hn hq1 hi hM.fc hM.re hR.a2) (fun _ _ hw => j_rF h hM hq1 hi hp hw)⟩
  · skip
    refine tv_aload_n (pc := 0) dL_read_0 (by rfl) ?_
    refine tv_iconst (v := 0) (pc := 1) dL_read_1 (by decide) ?_
    refine tv_aload_n (pc := 2) dL_read_2 (by rfl) ?_
    refine tv_iload_n (pc := 3) dL_read_3 (by rfl) ?_
    refine tv_catV (pc := 4) [_] tb_0 (by rfl) (t_T_read_I l hl G u hm x ho) (kV1T_read wm_630 ⟨by decide, by decide⟩) (by rfl) (Nat.le_of_ble_eq_true rfl) dL_read_4 ⟨by decide, by decide⟩ (h := 15) (tc_hp2 "java/lang/IllegalStateException" (by decide) (by decide) (by decide) wm_321 (by decide +kernel) (tc_hp1 "java/lang/IndexOutOfBoundsException" (by decide) (by decide) (by decide) wm_483 (by decide +kernel))) (fun a => ?_)
    refine tv_astore3 (pc := 15) dL_read_15 (by rfl) ?_
    refine tv_iconst (v := 2) (pc := 16) dL_read_16 (by decide) ?_
    exact tv_iret (pc := 17) dL_read_17 rfl (by decide) (by decide) ⟨_, rfl, jK (c_D_read2 l G u md x ho) (j_no h (by decide))⟩
