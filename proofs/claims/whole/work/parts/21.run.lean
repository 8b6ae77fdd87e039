set_option maxRecDepth 100000 in
set_option maxHeartbeats 4000000 in
theorem c_R_position (l : Launch) (G : tc_G) (u : tc_S)  : tc_C tcx G l yR_position wR_position r0R_position 0 0 [.ref (tc_ad G 47)] u (tc_Ki (u 47 4) u) := by
  refine tw_ofV (own := "TracedCode$Run") [some (.ref (tc_ad G 47))] (by decide +kernel) rfl (Nat.le_of_ble_eq_true rfl) (by rfl) (fun p e s m args below meth c => ?_)
  refine tv_aload_n (pc := 0) dR_position_0 (by rfl) ?_
  refine tv_getI (pc := 1) 4 tb_47 (by rfl) uwR_ (by decide) wm_119 (by rfl) dR_position_1 ?_
  exact tv_iret (pc := 4) dR_position_4 rfl (Nat.le_refl _) (Nat.le_refl _) ⟨rfl, rfl⟩
set_option maxRecDepth 100000 in
set_option maxHeartbeats 4000000 in
theorem c_R_hasValue (l : Launch) (G : tc_G) (u : tc_S) {x : Int32} {v : Nat} (hv : tc_ix x 3 v) (hz : narrow .boolean (.int (u 55 v)) = .int (u 55 v)) : tc_C tcx G l yR_hasValue wR_hasValue r0R_hasValue 0 0 [.ref (tc_ad G 47), .int x] u (tc_Ki (u 55 v) u) := by
  refine tw_ofV (own := "TracedCode$Run") [some (.ref (tc_ad G 47)), some (.int x)] (by decide +kernel) rfl (Nat.le_of_ble_eq_true rfl) (by rfl) (fun p e s m args below meth c => ?_)
  refine tv_aload_n (pc := 0) dR_hasValue_0 (by rfl) ?_
  refine tv_getR (pc := 1) 3 tb_47 (by rfl) uwR_ (by decide) wm_118 (by rfl) dR_hasValue_1 ?_
  refine tv_iload_n (pc := 4) dR_hasValue_4 (by rfl) ?_
  refine tv_zald (pc := 5) tb_55 hv dR_hasValue_5 ?_
  exact tv_zret (pc := 6) dR_hasValue_6 rfl (Nat.le_refl _) (Nat.le_refl _) hz ⟨rfl, rfl⟩
set_option maxRecDepth 100000 in
set_option maxHeartbeats 4000000 in
theorem c_R_valueOf (l : Launch) (G : tc_G) (u : tc_S) {x : Int32} {v : Nat} (hv : tc_ix x 3 v) : tc_C tcx G l yR_valueOf wR_valueOf r0R_valueOf 0 0 [.ref (tc_ad G 47), .int x] u (tc_Ki (u 54 v) u) := by
  refine tw_ofV (own := "TracedCode$Run") [some (.ref (tc_ad G 47)), some (.int x)] (by decide +kernel) rfl (Nat.le_of_ble_eq_true rfl) (by rfl) (fun p e s m args below meth c => ?_)
  refine tv_aload_n (pc := 0) dR_valueOf_0 (by rfl) ?_
  refine tv_getR (pc := 1) 2 tb_47 (by rfl) uwR_ (by decide) wm_117 (by rfl) dR_valueOf_1 ?_
  refine tv_iload_n (pc := 4) dR_valueOf_4 (by rfl) ?_
  refine tv_iald (pc := 5) tb_54 hv dR_valueOf_5 ?_
  exact tv_iret (pc := 6) dR_valueOf_6 rfl (Nat.le_refl _) (Nat.le_refl _) ⟨rfl, rfl⟩
set_option maxRecDepth 100000 in
set_option maxHeartbeats 4000000 in
theorem c_R_machine1 (l : Launch) (G : tc_G) (u : tc_S) {x : Int32} (hx : ¬ x = 0) : tc_C tcx G l yR_machine wR_machine r0R_machine 0 0 [.ref (tc_ad G 47), .int x] u (tc_Kr (tc_ad G 51) u) := by
  refine tw_ofV (own := "TracedCode$Run") [some (.ref (tc_ad G 47)), some (.int x)] (by decide +kernel) rfl (Nat.le_of_ble_eq_true rfl) (by rfl) (fun p e s m args below meth c => ?_)
  refine tv_iload_n (pc := 0) dR_machine_0 (by rfl) ?_
  refine tv_if_eq (pc := 1) 11 dR_machine_1 (by decide) (fun h => absurd h hx) (fun _ => ?_)
  refine tv_aload_n (pc := 4) dR_machine_4 (by rfl) ?_
  refine tv_getR (pc := 5) 1 tb_47 (by rfl) uwR_ (by decide) wm_116 (by rfl) dR_machine_5 ?_
  refine tv_goto (pc := 8) 15 dR_machine_8 (by decide) ?_
  exact tv_aret (pc := 15) dR_machine_15 rfl (Or.inl ⟨_, rfl⟩) (Nat.le_refl _) (Nat.le_refl _) ⟨rfl, rfl⟩
set_option maxRecDepth 100000 in
set_option maxHeartbeats 4000000 in
theorem c_R_machine0 (l : Launch) (G : tc_G) (u : tc_S)  : tc_C tcx G l yR_machine wR_machine r0R_machine 0 0 [.ref (tc_ad G 47), .int 0] u (tc_Kr (tc_ad G 48) u) := by
  refine tw_ofV (own := "TracedCode$Run") [some (.ref (tc_ad G 47)), some (.int 0)] (by decide +kernel) rfl (Nat.le_of_ble_eq_true rfl) (by rfl) (fun p e s m args below meth c => ?_)
  refine tv_iload_n (pc := 0) dR_machine_0 (by rfl) ?_
  refine tv_if_eq (pc := 1) 11 dR_machine_1 (by decide) (fun _ => ?_) (fun h => absurd (by decide) h)
  refine tv_aload_n (pc := 11) dR_machine_11 (by rfl) ?_
  refine tv_getR (pc := 12) 0 tb_47 (by rfl) uwR_ (by decide) wm_115 (by rfl) dR_machine_12 ?_
  exact tv_aret (pc := 15) dR_machine_15 rfl (Or.inl ⟨_, rfl⟩) (Nat.le_refl _) (Nat.le_refl _) ⟨rfl, rfl⟩
set_option maxRecDepth 100000 in
set_option maxHeartbeats 4000000 in
theorem c_R_giveValue (l : Launch) (G : tc_G) (u : tc_S) {x : Int32} {v : Nat} (hv : tc_ix x 3 v) (y : Int32) : tc_C tcx G l yR_giveValue wR_giveValue r0R_giveValue 0 0 [.ref (tc_ad G 47), .int x, .int y] u (tc_Kv (tc_up (tc_up u 54 v y) 55 v 1)) := by
  refine tw_ofV (own := "TracedCode$Run") [some (.ref (tc_ad G 47)), some (.int x), some (.int y)] (by decide +kernel) rfl (Nat.le_of_ble_eq_true rfl) (by rfl) (fun p e s m args below meth c => ?_)
  refine tv_aload_n (pc := 0) dR_giveValue_0 (by rfl) ?_
  refine tv_getR (pc := 1) 2 tb_47 (by rfl) uwR_ (by decide) wm_117 (by rfl) dR_giveValue_1 ?_
  refine tv_iload_n (pc := 4) dR_giveValue_4 (by rfl) ?_
  refine tv_iload_n (pc := 5) dR_giveValue_5 (by rfl) ?_
  refine tv_iast (pc := 6) tb_54 hv dR_giveValue_6 ?_
  refine tv_aload_n (pc := 7) dR_giveValue_7 (by rfl) ?_
  refine tv_getR (pc := 8) 3 tb_47 (by rfl) uwR_ (by decide) wm_118 (by rfl) dR_giveValue_8 ?_
  refine tv_iload_n (pc := 11) dR_giveValue_11 (by rfl) ?_
  refine tv_iconst (v := 1) (pc := 12) dR_giveValue_12 (by decide) ?_
  refine tv_zast (pc := 13) tb_55 hv (by rfl) dR_giveValue_13 ?_
  exact tv_vret (pc := 14) dR_giveValue_14 rfl (Nat.le_refl _) (Nat.le_refl _) ⟨rfl, rfl⟩
def sn_0 (k co : Nat) (u : tc_S) : tc_S := tc_up (tc_row u co (fun _ => 0) 6) k 2 0
/-- a run begins -/
def sn_begin (u : tc_S) : tc_S := tc_up (tc_up (tc_row (sn_0 51 52 (sn_0 48 49 u)) 55 (fun _ => 0) 3) 47 4 0) 47 5 0
set_option maxRecDepth 100000 in
set_option maxHeartbeats 4000000 in
theorem c_R_begin (l : Launch) (G : tc_G) (u : tc_S)  : tc_C tcx G l yR_begin wR_begin r0R_begin 0 0 [.ref (tc_ad G 47)] u (tc_Kv (sn_begin u)) := by
  refine tw_ofV (own := "TracedCode$Run") [some (.ref (tc_ad G 47)), none] (by decide +kernel) rfl (Nat.le_of_ble_eq_true rfl) (by rfl) (fun p e s m args below meth c => ?_)
  have loop : tc_V tcx G p l e r0R_begin s m args below meth c bR_begin 2 tw "TracedCode$Run" none [] (MQ below (tc_Qc tcx G (tc_Kv (sn_begin u)) s.heap.size) args s 0 0 (tc_A tcx G s.heap.size)) 0 0 (tc_row (sn_0 51 52 (sn_0 48 49 u)) 55 (fun _ => 0) 0) 16 [some (.ref (tc_ad G 47)), some (.int (nI 0))] [] := by
    refine tv_down (P := fun i => tc_V tcx G p l e r0R_begin s m args below meth c bR_begin 2 tw "TracedCode$Run" none [] (MQ below (tc_Qc tcx G (tc_Kv (sn_begin u)) s.heap.size) args s 0 0 (tc_A tcx G s.heap.size)) 0 0 (tc_row (sn_0 51 52 (sn_0 48 49 u)) 55 (fun _ => 0) i) 16 [some (.ref (tc_ad G 47)), some (.int (nI i))] []) 3 ?_ ?_
    · skip
      refine tv_iload_n (pc := 16) dR_begin_16 (by rfl) ?_
      refine tv_iconst (v := 3) (pc := 17) dR_begin_17 (by decide) ?_
      refine tv_icmp_ge (pc := 18) 34 dR_begin_18 (by decide) (fun _ => ?_) (fun h => absurd (by decide) h)
      refine tv_aload_n (pc := 34) dR_begin_34 (by rfl) ?_
      refine tv_iconst (v := 0) (pc := 35) dR_begin_35 (by decide) ?_
      refine tv_putI (ty := .int) (pc := 36) 4 tyR_ tb_47 (by rfl) uwR_ (by decide) wm_119 okR_ nmR_ (by rfl) (by decide +kernel) (by rfl) (by rfl) (by rfl) dR_begin_36 ?_
      refine tv_aload_n (pc := 39) dR_begin_39 (by rfl) ?_
      refine tv_iconst (v := 0) (pc := 40) dR_begin_40 (by decide) ?_
      refine tv_putI (ty := .int) (pc := 41) 5 tyR_ tb_47 (by rfl) uwR_ (by decide) wm_120 okR_ nmR_ (by rfl) (by decide +kernel) (by rfl) (by rfl) (by rfl) dR_begin_41 ?_
      exact tv_vret (pc := 44) dR_begin_44 rfl (Nat.le_refl _) (Nat.le_refl _) ⟨rfl, rfl⟩
    · intro i hiN ih
      have hi3 : tc_ix (nI i) 3 i := tc_ixN hiN (by decide)
      rw [← tc_row_s (i := i) (f := fun _ => 0), ← nI_1] at ih
      refine tv_iload_n (pc := 16) dR_begin_16 (by rfl) ?_
      refine tv_iconst (v := 3) (pc := 17) dR_begin_17 (by decide) ?_
      refine tv_icmp_ge (pc := 18) 34 dR_begin_18 (by decide) (fun h => absurd h (nI_lt3 hiN)) (fun _ => ?_)
      refine tv_aload_n (pc := 21) dR_begin_21 (by rfl) ?_
      refine tv_getR (pc := 22) 3 tb_47 (by rfl) uwR_ (by decide) wm_118 (by rfl) dR_begin_22 ?_
      refine tv_iload_n (pc := 25) dR_begin_25 (by rfl) ?_
      refine tv_iconst (v := 0) (pc := 26) dR_begin_26 (by decide) ?_
      refine tv_zast (pc := 27) tb_55 hi3 (by rfl) dR_begin_27 ?_
      refine tv_iinc1 (v := 1) (pc := 28) dR_begin_28 (by decide) (by rfl) ?_
      refine tv_goto (pc := 31) 16 dR_begin_31 (by decide) ?_
      exact ih
  rw [tc_row_0] at loop
  refine tv_aload_n (pc := 0) dR_begin_0 (by rfl) ?_
  refine tv_getR (pc := 1) 0 tb_47 (by rfl) uwR_ (by decide) wm_115 (by rfl) dR_begin_1 ?_
  refine tv_callVv (pc := 4) [] tb_48 (by rfl) (c_M_begin l G _ mach_48) (kVM_begin wm_312 ⟨by decide, by decide⟩) (by rfl) (Nat.le_of_ble_eq_true rfl) dR_begin_4 ⟨by decide, by decide⟩ ?_
  refine tv_aload_n (pc := 7) dR_begin_7 (by rfl) ?_
  refine tv_getR (pc := 8) 1 tb_47 (by rfl) uwR_ (by decide) wm_116 (by rfl) dR_begin_8 ?_
  refine tv_callVv (pc := 11) [] tb_51 (by rfl) (c_M_begin l G _ mach_51) (kVM_begin wm_312 ⟨by decide, by decide⟩) (by rfl) (Nat.le_of_ble_eq_true rfl) dR_begin_11 ⟨by decide, by decide⟩ ?_
  refine tv_iconst (v := 0) (pc := 14) dR_begin_14 (by decide) ?_
  refine tv_istore1 (pc := 15) dR_begin_15 (by rfl) ?_
  exact loop
/-- NAME gives a value -/
def sn_nm (P : tp_P) (q : Nat) (u : tc_S) : tc_S := if P 0 q = 5 then tc_up (tc_up u 54 (tp_n (P 1 q)) (u 49 (tp_n (P 2 q)))) 55 (tp_n (P 1 q)) 1 else u
theorem sn_nm_o {P : tp_P} {q k : Nat} {u : tc_S} (h : k ≠ 54) (h2 : k ≠ 55) : sn_nm P q u k = u k := by
  unfold sn_nm
  split
  · rw [tc_up_ne h2, tc_up_ne h]
  · rfl
theorem sm_put_o {k ou q : Nat} {x : Int32} {u : tc_S} (h : q ≠ k) (h2 : q ≠ ou) : sm_put k ou x u q = u q := by
  unfold sm_put
  split
  · rw [tc_up_ne h, tc_up_ne h2]
  · rfl
theorem sm_do_o {P : tp_P} {i k co ou q : Nat} {u : tc_S} (h : q ≠ k) (h1 : q ≠ co) (h2 : q ≠ ou) : sm_do P i k co ou u q = u q := by
  unfold sm_do
  split
  · rw [tc_up_ne h1]
  · split
    · rw [tc_up_ne h1]
    · split
      · rw [tc_up_ne h1]
      · split
        · exact sm_put_o h h2
        · rfl
/-- a step, both machines -/
def sn_1 (P P1 : tp_P) (q : Nat) (u : tc_S) : tc_S := sm_do P1 q 51 52 53 (sn_nm P q u)
def sn_2 (P P1 : tp_P) (q : Nat) (u : tc_S) : tc_S := sm_do P q 48 49 50 (sn_1 P P1 q u)
def sn_nx (n : Nat) (P P1 : tp_P) (q : Nat) (u : tc_S) : Nat := sm_nx n P q 49 (sn_1 P P1 q u)
def sn_step (n : Nat) (P P1 : tp_P) (q : Nat) (u : tc_S) : tc_S := tc_up (tc_up (sn_2 P P1 q u) 47 4 (nI (sn_nx n P P1 q u))) 47 5 (u 47 5 + 1)
theorem sn_1_o {P P1 : tp_P} {q k : Nat} {u : tc_S} (h : k < 51) : sn_1 P P1 q u k = u k := by
  unfold sn_1
  rw [sm_do_o (by omega) (by omega) (by omega), sn_nm_o (by omega) (by omega)]
theorem sn_2_o {P P1 : tp_P} {q k : Nat} {u : tc_S} (h : k < 48) : sn_2 P P1 q u k = u k := by
  unfold sn_2
  rw [sm_do_o (by omega) (by omega) (by omega), sn_1_o (by omega)]
theorem pv_of {u v : tc_S} {b : Nat} (h : ∀ j, j < 4 → v (b + j) = u (b + j)) : ∀ j, j < 4 → pv v b j = pv u b j := fun j hj => by unfold pv; rw [h j hj]
theorem tp_line_of {P Q : tp_P} {i : Nat} (h : ∀ j, j < 4 → Q j i = P j i) (hl : tp_line P i) : tp_line Q i := by
  unfold tp_line at hl ⊢
  rw [h 0 (by omega), h 1 (by omega), h 2 (by omega), h 3 (by omega)]; exact hl
theorem sm_do_P {P Q : tp_P} {i k co ou : Nat} {u : tc_S} (h : ∀ j, j < 4 → Q j i = P j i) : sm_do Q i k co ou u = sm_do P i k co ou u := by
  unfold sm_do
  rw [h 0 (by omega), h 1 (by omega), h 2 (by omega), h 3 (by omega)]
theorem sm_nx_P {n : Nat} {P Q : tp_P} {i co : Nat} {u : tc_S} (h : ∀ j, j < 4 → Q j i = P j i) : sm_nx n Q i co u = sm_nx n P i co u := by
  unfold sm_nx tp_tg
  rw [h 0 (by omega), h 1 (by omega), h 2 (by omega)]
set_option maxRecDepth 100000 in
set_option maxHeartbeats 4000000 in
theorem c_R_advance0 (l : Launch) (G : tc_G) (u : tc_S) {n : Nat} (hs : u 1 1 = nI n) (h : nI n ≤ u 47 4 ∨ ¬ u 47 5 < 200) : tc_C tcx G l yR_advance wR_advance r0R_advance 0 0 [.ref (tc_ad G 47), .ref (tc_ad G 1), .ref (tc_ad G 7)] u (tc_Ki (-1) u) := by
  refine tw_ofV (own := "TracedCode$Run") [some (.ref (tc_ad G 47)), some (.ref (tc_ad G 1)), some (.ref (tc_ad G 7))] (by decide +kernel) rfl (Nat.le_of_ble_eq_true rfl) (by rfl) (fun p e s m args below meth c => ?_)
  refine tv_aload_n (pc := 0) dR_advance_0 (by rfl) ?_
  refine tv_getI (pc := 1) 4 tb_47 (by rfl) uwR_ (by decide) wm_119 (by rfl) dR_advance_1 ?_
  refine tv_aload_n (pc := 4) dR_advance_4 (by rfl) ?_
  refine tv_callVi (pc := 5) [] tb_1 (by rfl) (c_C_size l G u code_1) (kVC_size wm_551 ⟨by decide, by decide⟩) (by rfl) (Nat.le_of_ble_eq_true rfl) dR_advance_5 ⟨by decide, by decide⟩ ?_
  refine tv_icmp_ge (pc := 8) 21 dR_advance_8 (by decide) (fun h8 => ?_) (fun h8 => ?_)
  · skip
    refine tv_iconst (v := (-1)) (pc := 21) dR_advance_21 (by decide) ?_
    exact tv_iret (pc := 22) dR_advance_22 rfl (Nat.le_refl _) (Nat.le_refl _) ⟨rfl, rfl⟩
  · skip
    have ht : ¬ u 47 5 < 200 := h.resolve_left (fun q => h8 (by rw [hs]; exact q))
    refine tv_aload_n (pc := 11) dR_advance_11 (by rfl) ?_
    refine tv_getI (pc := 12) 5 tb_47 (by rfl) uwR_ (by decide) wm_120 (by rfl) dR_advance_12 ?_
    refine tv_sipush (v := 200) (pc := 15) dR_advance_15 (by decide) ?_
    refine tv_icmp_lt (pc := 18) 23 dR_advance_18 (by decide) (fun h => absurd h ht) (fun _ => ?_)
    refine tv_iconst (v := (-1)) (pc := 21) dR_advance_21 (by decide) ?_
    exact tv_iret (pc := 22) dR_advance_22 rfl (Nat.le_refl _) (Nat.le_refl _) ⟨rfl, rfl⟩
set_option maxRecDepth 100000 in
set_option maxHeartbeats 4000000 in
theorem c_R_advance (l : Launch) (G : tc_G) (u : tc_S) {n q : Nat} (hs : u 1 1 = nI n) (hs7 : u 7 1 = nI n) (hn : n ≤ 16) (hq : u 47 4 = nI q) (hqn : q < n) (ht : u 47 5 < 200) (hl : tp_line (pv u 3) q) (hl1 : tp_line (pv u 9) q) (hc : ¬ u 48 2 < 0) (hc1 : ¬ u 51 2 < 0) : tc_C tcx G l yR_advance wR_advance r0R_advance 0 0 [.ref (tc_ad G 47), .ref (tc_ad G 1), .ref (tc_ad G 7)] u (tc_Ki (nI (sn_nx n (pv u 3) (pv u 9) q u)) (sn_step n (pv u 3) (pv u 9) q u)) := by
  refine tw_ofV (own := "TracedCode$Run") [some (.ref (tc_ad G 47)), some (.ref (tc_ad G 1)), some (.ref (tc_ad G 7))] (by decide +kernel) rfl (Nat.le_of_ble_eq_true rfl) (by rfl) (fun p e s m args below meth c => ?_)
  have hq16 : tc_ix (nI q) 16 q := tc_ixN (by omega) (by decide)
  have p9 : ∀ j, j < 4 → pv (sn_nm (pv u 3) q u) 9 j q = pv u 9 j q := fun j hj => by unfold pv; rw [sn_nm_o (by omega) (by omega)]
  have p3 : ∀ j, j < 4 → pv (sn_1 (pv u 3) (pv u 9) q u) 3 j q = pv u 3 j q := fun j hj => by unfold pv; rw [sn_1_o (by omega)]
  have e1 : sm_do (pv (sn_nm (pv u 3) q u) 9) q 51 52 53 (sn_nm (pv u 3) q u) = sn_1 (pv u 3) (pv u 9) q u := sm_do_P p9
  have e2 : sm_do (pv (sn_1 (pv u 3) (pv u 9) q u) 3) q 48 49 50 (sn_1 (pv u 3) (pv u 9) q u) = sn_2 (pv u 3) (pv u 9) q u := sm_do_P p3
  have e3 : sm_nx n (pv (sn_1 (pv u 3) (pv u 9) q u) 3) q 49 (sn_1 (pv u 3) (pv u 9) q u) = sn_nx n (pv u 3) (pv u 9) q u := sm_nx_P p3
  have k1 := c_M_perform l G (sn_nm (pv u 3) q u) mach_51 (by decide) (by rw [sn_nm_o (by decide) (by decide)]; exact hc1) code_7 (n := n) (i := q) (by rw [sn_nm_o (by decide) (by decide)]; exact hs7) hn (by omega) (tp_line_of p9 hl1)
  have k2 := c_M_perform l G (sn_1 (pv u 3) (pv u 9) q u) mach_48 (by decide) (by rw [sn_1_o (by decide)]; exact hc) code_1 (n := n) (i := q) (by rw [sn_1_o (by decide)]; exact hs) hn (by omega) (tp_line_of p3 hl)
  rw [e1] at k1
  rw [e2, e3] at k2
  have fin : tc_V tcx G p l e r0R_advance s m args below meth c bR_advance 3 tw "TracedCode$Run" (some .int) [] (MQ below (tc_Qc tcx G (tc_Ki (nI (sn_nx n (pv u 3) (pv u 9) q u)) (sn_step n (pv u 3) (pv u 9) q u)) s.heap.size) args s 0 0 (tc_A tcx G s.heap.size)) 0 0 (sn_nm (pv u 3) q u) 64 [some (.ref (tc_ad G 47)), some (.ref (tc_ad G 1)), some (.ref (tc_ad G 7))] [] := by
    refine tv_aload_n (pc := 64) dR_advance_64 (by rfl) ?_
    refine tv_getR (pc := 65) 1 tb_47 (by rfl) uwR_ (by decide) wm_116 (by rfl) dR_advance_65 ?_
    refine tv_aload_n (pc := 68) dR_advance_68 (by rfl) ?_
    refine tv_aload_n (pc := 69) dR_advance_69 (by rfl) ?_
    refine tv_getI (pc := 70) 4 tb_47 (by rfl) uwR_ (by decide) wm_119 (by rfl) dR_advance_70 ?_
    rw [sn_nm_o (k := 47) (by decide) (by decide), hq]
    refine tv_callVi (pc := 73) [_, _] tb_51 (by rfl) k1 (kVM_perform wm_562 ⟨by decide, by decide⟩) (by rfl) (Nat.le_of_ble_eq_true rfl) dR_advance_73 ⟨by decide, by decide⟩ ?_
    refine tv_pop (pc := 76) dR_advance_76 (by rfl) ?_
    refine tv_aload_n (pc := 77) dR_advance_77 (by rfl) ?_
    refine tv_aload_n (pc := 78) dR_advance_78 (by rfl) ?_
    refine tv_getR (pc := 79) 0 tb_47 (by rfl) uwR_ (by decide) wm_115 (by rfl) dR_advance_79 ?_
    refine tv_aload_n (pc := 82) dR_advance_82 (by rfl) ?_
    refine tv_aload_n (pc := 83) dR_advance_83 (by rfl) ?_
    refine tv_getI (pc := 84) 4 tb_47 (by rfl) uwR_ (by decide) wm_119 (by rfl) dR_advance_84 ?_
    rw [sn_1_o (k := 47) (by decide), hq]
    refine tv_callVi (pc := 87) [_, _] tb_48 (by rfl) k2 (kVM_perform wm_562 ⟨by decide, by decide⟩) (by rfl) (Nat.le_of_ble_eq_true rfl) dR_advance_87 ⟨by decide, by decide⟩ ?_
    refine tv_putI (ty := .int) (pc := 90) 4 tyR_ tb_47 (by rfl) uwR_ (by decide) wm_119 okR_ nmR_ (by rfl) (by decide +kernel) (by rfl) (by rfl) (by rfl) dR_advance_90 ?_
    refine tv_aload_n (pc := 93) dR_advance_93 (by rfl) ?_
    refine tv_dup (pc := 94) dR_advance_94 (by rfl) ?_
    refine tv_getI (pc := 95) 5 tb_47 (by rfl) uwR_ (by decide) wm_120 (by rfl) dR_advance_95 ?_
    rw [tc_up_at (by decide), sn_2_o (k := 47) (by decide)]
    refine tv_iconst (v := 1) (pc := 98) dR_advance_98 (by decide) ?_
    refine tv_iadd (pc := 99) dR_advance_99 ?_
    refine tv_putI (ty := .int) (pc := 100) 5 tyR_ tb_47 (by rfl) uwR_ (by decide) wm_120 okR_ nmR_ (by rfl) (by decide +kernel) (by rfl) (by rfl) (by rfl) dR_advance_100 ?_
    refine tv_aload_n (pc := 103) dR_advance_103 (by rfl) ?_
    refine tv_getI (pc := 104) 4 tb_47 (by rfl) uwR_ (by decide) wm_119 (by rfl) dR_advance_104 ?_
    rw [tc_up_at (k := 47) (i := 5) (j := 4) (by decide), tc_up_self]
    exact tv_iret (pc := 107) dR_advance_107 rfl (Nat.le_refl _) (Nat.le_refl _) ⟨rfl, rfl⟩
  refine tv_aload_n (pc := 0) dR_advance_0 (by rfl) ?_
  refine tv_getI (pc := 1) 4 tb_47 (by rfl) uwR_ (by decide) wm_119 (by rfl) dR_advance_1 ?_
  refine tv_aload_n (pc := 4) dR_advance_4 (by rfl) ?_
  refine tv_callVi (pc := 5) [] tb_1 (by rfl) (c_C_size l G u code_1) (kVC_size wm_551 ⟨by decide, by decide⟩) (by rfl) (Nat.le_of_ble_eq_true rfl) dR_advance_5 ⟨by decide, by decide⟩ ?_
  refine tv_icmp_ge (pc := 8) 21 dR_advance_8 (by decide) (fun h => absurd h (by rw [hq, hs]; exact nI_ge hqn (by omega))) (fun _ => ?_)
  refine tv_aload_n (pc := 11) dR_advance_11 (by rfl) ?_
  refine tv_getI (pc := 12) 5 tb_47 (by rfl) uwR_ (by decide) wm_120 (by rfl) dR_advance_12 ?_
  refine tv_sipush (v := 200) (pc := 15) dR_advance_15 (by decide) ?_
  refine tv_icmp_lt (pc := 18) 23 dR_advance_18 (by decide) (fun _ => ?_) (fun h => absurd ht h)
  refine tv_aload_n (pc := 23) dR_advance_23 (by rfl) ?_
  refine tv_aload_n (pc := 24) dR_advance_24 (by rfl) ?_
  refine tv_getI (pc := 25) 4 tb_47 (by rfl) uwR_ (by decide) wm_119 (by rfl) dR_advance_25 ?_
  rw [hq]
  refine tv_callVi (pc := 28) [_] tb_1 (by rfl) (c_C_kind l G u code_1 hq16) (kVC_kind wm_552 ⟨by decide, by decide⟩) (by rfl) (Nat.le_of_ble_eq_true rfl) dR_advance_28 ⟨by decide, by decide⟩ ?_
  refine tv_iconst (v := 5) (pc := 31) dR_advance_31 (by decide) ?_
  refine tv_icmp_ne (pc := 32) 64 dR_advance_32 (by decide) (fun h32 => ?_) (fun h32 => ?_)
  · skip
    first
    | (have h5 : ¬ pv u 3 0 q = 5 := by assumption
       rw [show sn_nm (pv u 3) q u = u from by unfold sn_nm; rw [if_neg h5]] at fin
       exact fin)
    | (have h5 : pv u 3 0 q = 5 := by assumption
       rw [show sn_nm (pv u 3) q u = tc_up (tc_up u 54 a (u 49 b2)) 55 a 1 from by unfold sn_nm; rw [if_pos h5, n1, n2]] at fin
       exact fin)
  · skip
    have h5 : pv u 3 0 q = 5 := by assumption
    obtain ⟨a, ha, ea⟩ := hl.2.2.2.2.2 h5
    obtain ⟨b2, hb2, eb⟩ := hl.2.2.1 (Or.inr (Or.inr h5))
    have n1 : tp_n (pv u 3 1 q) = a := by rw [ea]; exact nI_clamp (by omega)
    have n2 : tp_n (pv u 3 2 q) = b2 := by rw [eb]; exact nI_clamp (by omega)
    have x1 : tc_ix (pv u 3 1 q) 3 a := by rw [ea]; exact tc_ixN ha (by decide)
    have x2 : tc_ix (pv u 3 2 q) 6 b2 := by rw [eb]; exact tc_ixN hb2 (by decide)
    refine tv_aload_n (pc := 35) dR_advance_35 (by rfl) ?_
    refine tv_aload_n (pc := 36) dR_advance_36 (by rfl) ?_
    refine tv_aload_n (pc := 37) dR_advance_37 (by rfl) ?_
    refine tv_getI (pc := 38) 4 tb_47 (by rfl) uwR_ (by decide) wm_119 (by rfl) dR_advance_38 ?_
    refine tv_iconst (v := 1) (pc := 41) dR_advance_41 (by decide) ?_
    rw [hq]
    refine tv_callVi (pc := 42) [_, _] tb_1 (by rfl) (c_C_number l G u code_1 hq16 (j := 1) ⟨by decide, by decide, by decide⟩) (kVC_number wm_553 ⟨by decide, by decide⟩) (by rfl) (Nat.le_of_ble_eq_true rfl) dR_advance_42 ⟨by decide, by decide⟩ ?_
    refine tv_aload_n (pc := 45) dR_advance_45 (by rfl) ?_
    refine tv_getR (pc := 46) 0 tb_47 (by rfl) uwR_ (by decide) wm_115 (by rfl) dR_advance_46 ?_
    refine tv_aload_n (pc := 49) dR_advance_49 (by rfl) ?_
    refine tv_aload_n (pc := 50) dR_advance_50 (by rfl) ?_
    refine tv_getI (pc := 51) 4 tb_47 (by rfl) uwR_ (by decide) wm_119 (by rfl) dR_advance_51 ?_
    refine tv_iconst (v := 2) (pc := 54) dR_advance_54 (by decide) ?_
    rw [hq]
    refine tv_callVi (pc := 55) [_, _] tb_1 (by rfl) (c_C_number l G u code_1 hq16 (j := 2) ⟨by decide, by decide, by decide⟩) (kVC_number wm_553 ⟨by decide, by decide⟩) (by rfl) (Nat.le_of_ble_eq_true rfl) dR_advance_55 ⟨by decide, by decide⟩ ?_
    refine tv_callVi (pc := 58) [_] tb_48 (by rfl) (c_M_content l G u mach_48 x2) (kVM_content wm_554 ⟨by decide, by decide⟩) (by rfl) (Nat.le_of_ble_eq_true rfl) dR_advance_58 ⟨by decide, by decide⟩ ?_
    refine tv_callVv (pc := 61) [_, _] tb_47 (by rfl) (c_R_giveValue l G u x1 _) (kVR_giveValue wm_558 ⟨by decide, by decide⟩) (by rfl) (Nat.le_of_ble_eq_true rfl) dR_advance_61 ⟨by decide, by decide⟩ ?_
    first
    | (have h5 : ¬ pv u 3 0 q = 5 := by assumption
       rw [show sn_nm (pv u 3) q u = u from by unfold sn_nm; rw [if_neg h5]] at fin
       exact fin)
    | (have h5 : pv u 3 0 q = 5 := by assumption
       rw [show sn_nm (pv u 3) q u = tc_up (tc_up u 54 a (u 49 b2)) 55 a 1 from by unfold sn_nm; rw [if_pos h5, n1, n2]] at fin
       exact fin)
