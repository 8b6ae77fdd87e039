set_option maxRecDepth 100000 in
set_option maxHeartbeats 4000000 in
theorem c_T_isBelow (l : Launch) (G : tc_G) (u : tc_S) (x b : Int32) : tc_C tcx G l yT_isBelow wT_isBelow r0T_isBelow 0 0 [.int x, .int b] u (tc_Ki (tp_b (¬ x < 0 ∧ ¬ b ≤ x)) u) := by
  refine tw_ofV (own := "TracedCode") [some (.int x), some (.int b)] (by decide +kernel) rfl (Nat.le_of_ble_eq_true rfl) (by rfl) (fun p e s m args below meth c => ?_)
  refine tv_iload_n (pc := 0) dT_isBelow_0 (by rfl) ?_
  refine tv_if_lt (pc := 1) 13 dT_isBelow_1 (by decide) (fun h1 => ?_) (fun h1 => ?_)
  · skip
    refine tv_iconst (v := 0) (pc := 13) dT_isBelow_13 (by decide) ?_
    exact tv_zret (pc := 14) dT_isBelow_14 rfl (Nat.le_refl _) (Nat.le_refl _) (by rfl)  (by first | exact ⟨by rw [tp_b_t ⟨by assumption, by assumption⟩], rfl⟩ | exact ⟨by rw [tp_b_f (fun q => q.1 (by assumption))], rfl⟩ | exact ⟨by rw [tp_b_f (fun q => q.2 (by assumption))], rfl⟩)
  · skip
    refine tv_iload_n (pc := 4) dT_isBelow_4 (by rfl) ?_
    refine tv_iload_n (pc := 5) dT_isBelow_5 (by rfl) ?_
    refine tv_icmp_ge (pc := 6) 13 dT_isBelow_6 (by decide) (fun h6 => ?_) (fun h6 => ?_)
    · skip
      refine tv_iconst (v := 0) (pc := 13) dT_isBelow_13 (by decide) ?_
      exact tv_zret (pc := 14) dT_isBelow_14 rfl (Nat.le_refl _) (Nat.le_refl _) (by rfl)  (by first | exact ⟨by rw [tp_b_t ⟨by assumption, by assumption⟩], rfl⟩ | exact ⟨by rw [tp_b_f (fun q => q.1 (by assumption))], rfl⟩ | exact ⟨by rw [tp_b_f (fun q => q.2 (by assumption))], rfl⟩)
    · skip
      refine tv_iconst (v := 1) (pc := 9) dT_isBelow_9 (by decide) ?_
      refine tv_goto (pc := 10) 14 dT_isBelow_10 (by decide) ?_
      exact tv_zret (pc := 14) dT_isBelow_14 rfl (Nat.le_refl _) (Nat.le_refl _) (by rfl)  (by first | exact ⟨by rw [tp_b_t ⟨by assumption, by assumption⟩], rfl⟩ | exact ⟨by rw [tp_b_f (fun q => q.1 (by assumption))], rfl⟩ | exact ⟨by rw [tp_b_f (fun q => q.2 (by assumption))], rfl⟩)
set_option maxRecDepth 100000 in
set_option maxHeartbeats 4000000 in
theorem c_T_isRegister (l : Launch) (G : tc_G) (u : tc_S) (x : Int32) : tc_C tcx G l yT_isRegister wT_isRegister r0T_isRegister 0 0 [.int x] u (tc_Ki (tp_b (¬ x < 0 ∧ ¬ 6 ≤ x)) u) := by
  refine tw_ofV (own := "TracedCode") [some (.int x)] (by decide +kernel) rfl (Nat.le_of_ble_eq_true rfl) (by rfl) (fun p e s m args below meth c => ?_)
  refine tv_iload_n (pc := 0) dT_isRegister_0 (by rfl) ?_
  refine tv_bipush (v := 6) (pc := 1) dT_isRegister_1 (by decide) ?_
  refine tv_callSi (pc := 3) [_, _] (c_T_isBelow l G u _ _) (kST_isBelow wm_329 ⟨by decide, by decide⟩) (by rfl) (Nat.le_of_ble_eq_true rfl) dT_isRegister_3 ⟨by decide, by decide⟩ ?_
  exact tv_zret (pc := 6) dT_isRegister_6 rfl (Nat.le_refl _) (Nat.le_refl _) tp_b_z ⟨rfl, rfl⟩
set_option maxRecDepth 100000 in
set_option maxHeartbeats 4000000 in
theorem c_T_isVariable (l : Launch) (G : tc_G) (u : tc_S) (x : Int32) : tc_C tcx G l yT_isVariable wT_isVariable r0T_isVariable 0 0 [.int x] u (tc_Ki (tp_b (¬ x < 0 ∧ ¬ 3 ≤ x)) u) := by
  refine tw_ofV (own := "TracedCode") [some (.int x)] (by decide +kernel) rfl (Nat.le_of_ble_eq_true rfl) (by rfl) (fun p e s m args below meth c => ?_)
  refine tv_iload_n (pc := 0) dT_isVariable_0 (by rfl) ?_
  refine tv_iconst (v := 3) (pc := 1) dT_isVariable_1 (by decide) ?_
  refine tv_callSi (pc := 2) [_, _] (c_T_isBelow l G u _ _) (kST_isBelow wm_329 ⟨by decide, by decide⟩) (by rfl) (Nat.le_of_ble_eq_true rfl) dT_isVariable_2 ⟨by decide, by decide⟩ ?_
  exact tv_zret (pc := 5) dT_isVariable_5 rfl (Nat.le_refl _) (Nat.le_refl _) tp_b_z ⟨rfl, rfl⟩
set_option maxRecDepth 100000 in
set_option maxHeartbeats 4000000 in
theorem c_T_requireState (l : Launch) (G : tc_G) (u : tc_S) {x : Int32} (hx : ¬ x = 0) : tc_C tcx G l yT_requireState wT_requireState r0T_requireState 0 0 [.int x] u (tc_Kv u) := by
  refine tw_ofV (own := "TracedCode") [some (.int x)] (by decide +kernel) rfl (Nat.le_of_ble_eq_true rfl) (by rfl) (fun p e s m args below meth c => ?_)
  refine tv_iload_n (pc := 0) dT_requireState_0 (by rfl) ?_
  refine tv_if_ne (pc := 1) 12 dT_requireState_1 (by decide) (fun _ => ?_) (fun h => absurd h hx)
  exact tv_vret (pc := 12) dT_requireState_12 rfl (Nat.le_refl _) (Nat.le_refl _) ⟨rfl, rfl⟩
set_option maxRecDepth 1000000 in
set_option maxHeartbeats 4000000 in
theorem t_T_requireState (l : Launch) (hl : l.stackTraces = false) (G : tc_G) (u : tc_S) : tc_T tcx G l yT_requireState wT_requireState r1T_requireState 1 6 [.int 0] u u "java/lang/IllegalStateException" :=
  tc_require (names := ["java/lang/RuntimeException", "java/lang/Exception"]) (tgt := 12) (by decide +kernel) rfl dT_requireState_0 dT_requireState_1 (by decide) dT_requireState_4 dT_requireState_7 dT_requireState_8 dT_requireState_11 (List.mem_cons_of_mem _ wm_407) (List.mem_cons_of_mem _ wm_14) (List.mem_cons_of_mem _ wm_408) (by decide +kernel) (by decide +kernel) (by decide +kernel) hl (by decide) (by decide) (by decide) (by decide)
set_option maxRecDepth 100000 in
set_option maxHeartbeats 4000000 in
theorem c_T_requireArgument (l : Launch) (G : tc_G) (u : tc_S) {x : Int32} (hx : ¬ x = 0) : tc_C tcx G l yT_requireArgument wT_requireArgument r0T_requireArgument 0 0 [.int x] u (tc_Kv u) := by
  refine tw_ofV (own := "TracedCode") [some (.int x)] (by decide +kernel) rfl (Nat.le_of_ble_eq_true rfl) (by rfl) (fun p e s m args below meth c => ?_)
  refine tv_iload_n (pc := 0) dT_requireArgument_0 (by rfl) ?_
  refine tv_if_ne (pc := 1) 12 dT_requireArgument_1 (by decide) (fun _ => ?_) (fun h => absurd h hx)
  exact tv_vret (pc := 12) dT_requireArgument_12 rfl (Nat.le_refl _) (Nat.le_refl _) ⟨rfl, rfl⟩
set_option maxRecDepth 1000000 in
set_option maxHeartbeats 4000000 in
theorem t_T_requireArgument (l : Launch) (hl : l.stackTraces = false) (G : tc_G) (u : tc_S) : tc_T tcx G l yT_requireArgument wT_requireArgument r1T_requireArgument 1 6 [.int 0] u u "java/lang/IllegalArgumentException" :=
  tc_require (names := ["java/lang/RuntimeException", "java/lang/Exception"]) (tgt := 12) (by decide +kernel) rfl dT_requireArgument_0 dT_requireArgument_1 (by decide) dT_requireArgument_4 dT_requireArgument_7 dT_requireArgument_8 dT_requireArgument_11 (List.mem_cons_of_mem _ wm_335) (List.mem_cons_of_mem _ wm_13) (List.mem_cons_of_mem _ wm_336) (by decide +kernel) (by decide +kernel) (by decide +kernel) hl (by decide) (by decide) (by decide) (by decide)
set_option maxRecDepth 100000 in
set_option maxHeartbeats 4000000 in
theorem c_T_requireIndex (l : Launch) (G : tc_G) (u : tc_S) {x : Int32} (hx : ¬ x = 0) : tc_C tcx G l yT_requireIndex wT_requireIndex r0T_requireIndex 0 0 [.int x] u (tc_Kv u) := by
  refine tw_ofV (own := "TracedCode") [some (.int x)] (by decide +kernel) rfl (Nat.le_of_ble_eq_true rfl) (by rfl) (fun p e s m args below meth c => ?_)
  refine tv_iload_n (pc := 0) dT_requireIndex_0 (by rfl) ?_
  refine tv_if_ne (pc := 1) 12 dT_requireIndex_1 (by decide) (fun _ => ?_) (fun h => absurd h hx)
  exact tv_vret (pc := 12) dT_requireIndex_12 rfl (Nat.le_refl _) (Nat.le_refl _) ⟨rfl, rfl⟩
set_option maxRecDepth 1000000 in
set_option maxHeartbeats 4000000 in
theorem t_T_requireIndex (l : Launch) (hl : l.stackTraces = false) (G : tc_G) (u : tc_S) : tc_T tcx G l yT_requireIndex wT_requireIndex r1T_requireIndex 1 6 [.int 0] u u "java/lang/IndexOutOfBoundsException" :=
  tc_require (names := ["java/lang/RuntimeException", "java/lang/Exception"]) (tgt := 12) (by decide +kernel) rfl dT_requireIndex_0 dT_requireIndex_1 (by decide) dT_requireIndex_4 dT_requireIndex_7 dT_requireIndex_8 dT_requireIndex_11 (List.mem_cons_of_mem _ wm_491) (List.mem_cons_of_mem _ wm_17) (List.mem_cons_of_mem _ wm_492) (by decide +kernel) (by decide +kernel) (by decide +kernel) hl (by decide) (by decide) (by decide) (by decide)
set_option maxRecDepth 100000 in
set_option maxHeartbeats 4000000 in
theorem c_T_requireFound (l : Launch) (G : tc_G) (u : tc_S) {x : Int32} (hx : ¬ x = 0) : tc_C tcx G l yT_requireFound wT_requireFound r0T_requireFound 0 0 [.int x] u (tc_Kv u) := by
  refine tw_ofV (own := "TracedCode") [some (.int x)] (by decide +kernel) rfl (Nat.le_of_ble_eq_true rfl) (by rfl) (fun p e s m args below meth c => ?_)
  refine tv_iload_n (pc := 0) dT_requireFound_0 (by rfl) ?_
  refine tv_if_ne (pc := 1) 12 dT_requireFound_1 (by decide) (fun _ => ?_) (fun h => absurd h hx)
  exact tv_vret (pc := 12) dT_requireFound_12 rfl (Nat.le_refl _) (Nat.le_refl _) ⟨rfl, rfl⟩
set_option maxRecDepth 1000000 in
set_option maxHeartbeats 4000000 in
theorem t_T_requireFound (l : Launch) (hl : l.stackTraces = false) (G : tc_G) (u : tc_S) : tc_T tcx G l yT_requireFound wT_requireFound r1T_requireFound 1 6 [.int 0] u u "java/util/NoSuchElementException" :=
  tc_require (names := ["java/lang/RuntimeException", "java/lang/Exception"]) (tgt := 12) (by decide +kernel) rfl dT_requireFound_0 dT_requireFound_1 (by decide) dT_requireFound_4 dT_requireFound_7 dT_requireFound_8 dT_requireFound_11 (List.mem_cons_of_mem _ wm_637) (List.mem_cons_of_mem _ wm_18) (List.mem_cons_of_mem _ wm_638) (by decide +kernel) (by decide +kernel) (by decide +kernel) hl (by decide) (by decide) (by decide) (by decide)
