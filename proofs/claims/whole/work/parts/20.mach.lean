/-! the machines: a Machine at the cell k, its registers in co, what it has put out in ou -/
def tcx_mach (k co ou : Nat) : Prop := tcx.1[k]? = some (4, 4, [co + 1, ou + 1, 0]) ∧ tcx.1[co]? = some (0, 6, []) ∧ tcx.1[ou]? = some (0, 200, [])
theorem mach_48 : tcx_mach 48 49 50 := ⟨tb_48, tb_49, tb_50⟩
theorem mach_51 : tcx_mach 51 52 53 := ⟨tb_51, tb_52, tb_53⟩
set_option maxRecDepth 100000 in
set_option maxHeartbeats 4000000 in
theorem c_M_begin (l : Launch) (G : tc_G) (u : tc_S) {k co ou : Nat} (hM : tcx_mach k co ou) : tc_C tcx G l yM_begin wM_begin r0M_begin 0 0 [.ref (tc_ad G k)] u (tc_Kv (tc_up (tc_row u co (fun _ => 0) 6) k 2 0)) := by
  refine tw_ofV (own := "TracedCode$Machine") [some (.ref (tc_ad G k))] (by decide +kernel) rfl (Nat.le_of_ble_eq_true rfl) (by rfl) (fun p e s m args below meth c => ?_)
  refine tv_aload_n (pc := 0) dM_begin_0 (by rfl) ?_
  refine tv_getR (pc := 1) 0 hM.1 (by rfl) uwM_ (by decide) wm_105 (by rfl) dM_begin_1 ?_
  refine tv_iconst (v := 0) (pc := 4) dM_begin_4 (by decide) ?_
  refine tv_callSv (pc := 5) [_, _] (c_A_fill l G u hM.2.1 (by decide) 0) (kSA_fill wm_316 ⟨by decide, by decide⟩) (by rfl) (Nat.le_of_ble_eq_true rfl) dM_begin_5 ⟨by decide, by decide⟩ ?_
  refine tv_aload_n (pc := 8) dM_begin_8 (by rfl) ?_
  refine tv_iconst (v := 0) (pc := 9) dM_begin_9 (by decide) ?_
  refine tv_putI (ty := .int) (pc := 10) 2 tyM_ hM.1 (by rfl) uwM_ (by decide) wm_107 okM_ nmM_ (by rfl) (by decide +kernel) (by rfl) (by rfl) (by rfl) dM_begin_10 ?_
  exact tv_vret (pc := 13) dM_begin_13 rfl (Nat.le_refl _) (Nat.le_refl _) ⟨rfl, rfl⟩
set_option maxRecDepth 100000 in
set_option maxHeartbeats 4000000 in
theorem c_M_content (l : Launch) (G : tc_G) (u : tc_S) {k co ou : Nat} (hM : tcx_mach k co ou) {x : Int32} {r : Nat} (hr : tc_ix x 6 r) : tc_C tcx G l yM_content wM_content r0M_content 0 0 [.ref (tc_ad G k), .int x] u (tc_Ki (u co r) u) := by
  refine tw_ofV (own := "TracedCode$Machine") [some (.ref (tc_ad G k)), some (.int x)] (by decide +kernel) rfl (Nat.le_of_ble_eq_true rfl) (by rfl) (fun p e s m args below meth c => ?_)
  refine tv_aload_n (pc := 0) dM_content_0 (by rfl) ?_
  refine tv_getR (pc := 1) 0 hM.1 (by rfl) uwM_ (by decide) wm_105 (by rfl) dM_content_1 ?_
  refine tv_iload_n (pc := 4) dM_content_4 (by rfl) ?_
  refine tv_iald (pc := 5) hM.2.1 hr dM_content_5 ?_
  exact tv_iret (pc := 6) dM_content_6 rfl (Nat.le_refl _) (Nat.le_refl _) ⟨rfl, rfl⟩
set_option maxRecDepth 100000 in
set_option maxHeartbeats 4000000 in
theorem c_M_outputCount (l : Launch) (G : tc_G) (u : tc_S) {k co ou : Nat} (hM : tcx_mach k co ou) : tc_C tcx G l yM_outputCount wM_outputCount r0M_outputCount 0 0 [.ref (tc_ad G k)] u (tc_Ki (u k 2) u) := by
  refine tw_ofV (own := "TracedCode$Machine") [some (.ref (tc_ad G k))] (by decide +kernel) rfl (Nat.le_of_ble_eq_true rfl) (by rfl) (fun p e s m args below meth c => ?_)
  refine tv_aload_n (pc := 0) dM_outputCount_0 (by rfl) ?_
  refine tv_getI (pc := 1) 2 hM.1 (by rfl) uwM_ (by decide) wm_107 (by rfl) dM_outputCount_1 ?_
  exact tv_iret (pc := 4) dM_outputCount_4 rfl (Nat.le_refl _) (Nat.le_refl _) ⟨rfl, rfl⟩
set_option maxRecDepth 100000 in
set_option maxHeartbeats 4000000 in
theorem c_M_outputAt (l : Launch) (G : tc_G) (u : tc_S) {k co ou : Nat} (hM : tcx_mach k co ou) {x : Int32} {j : Nat} (hj : tc_ix x 200 j) : tc_C tcx G l yM_outputAt wM_outputAt r0M_outputAt 0 0 [.ref (tc_ad G k), .int x] u (tc_Ki (u ou j) u) := by
  refine tw_ofV (own := "TracedCode$Machine") [some (.ref (tc_ad G k)), some (.int x)] (by decide +kernel) rfl (Nat.le_of_ble_eq_true rfl) (by rfl) (fun p e s m args below meth c => ?_)
  refine tv_aload_n (pc := 0) dM_outputAt_0 (by rfl) ?_
  refine tv_getR (pc := 1) 1 hM.1 (by rfl) uwM_ (by decide) wm_106 (by rfl) dM_outputAt_1 ?_
  refine tv_iload_n (pc := 4) dM_outputAt_4 (by rfl) ?_
  refine tv_iald (pc := 5) hM.2.2 hj dM_outputAt_5 ?_
  exact tv_iret (pc := 6) dM_outputAt_6 rfl (Nat.le_refl _) (Nat.le_refl _) ⟨rfl, rfl⟩
def sm_put (k ou : Nat) (x : Int32) (u : tc_S) : tc_S := if u k 2 < 200 then tc_up (tc_up u ou (tp_n (u k 2)) x) k 2 (u k 2 + 1) else u
set_option maxRecDepth 100000 in
set_option maxHeartbeats 4000000 in
theorem c_M_putOut (l : Launch) (G : tc_G) (u : tc_S) {k co ou : Nat} (hM : tcx_mach k co ou) (hne : k ≠ ou) (hc : ¬ u k 2 < 0) (x : Int32) : tc_C tcx G l yM_putOut wM_putOut r0M_putOut 0 0 [.ref (tc_ad G k), .int x] u (tc_Kv (sm_put k ou x u)) := by
  refine tw_ofV (own := "TracedCode$Machine") [some (.ref (tc_ad G k)), some (.int x)] (by decide +kernel) rfl (Nat.le_of_ble_eq_true rfl) (by rfl) (fun p e s m args below meth c => ?_)
  refine tv_aload_n (pc := 0) dM_putOut_0 (by rfl) ?_
  refine tv_getI (pc := 1) 2 hM.1 (by rfl) uwM_ (by decide) wm_107 (by rfl) dM_putOut_1 ?_
  refine tv_sipush (v := 200) (pc := 4) dM_putOut_4 (by decide) ?_
  refine tv_icmp_ge (pc := 7) 30 dM_putOut_7 (by decide) (fun h7 => ?_) (fun h7 => ?_)
  · skip
    exact tv_vret (pc := 30) dM_putOut_30 rfl (Nat.le_refl _) (Nat.le_refl _) (by first | exact ⟨rfl, by unfold sm_put; rw [if_neg (Int32.not_lt.mpr (by assumption))]⟩ | exact ⟨rfl, by unfold sm_put; rw [if_pos hlt, tc_up_ne hne]⟩)
  · skip
    have hlt : u k 2 < 200 := Int32.not_le.mp (by assumption)
    have hx : tc_ix (u k 2) 200 (tp_n (u k 2)) := by
      refine ⟨hc, rfl, ?_⟩
      obtain ⟨j, hj, ej⟩ := nI_of hc
      rw [ej] at hlt ⊢
      rw [show (200 : Int32) = nI 200 from rfl] at hlt
      have := (nI_ltI hj (by omega)).mp hlt
      unfold tp_n; rw [nI_clamp hj]; exact this
    refine tv_aload_n (pc := 10) dM_putOut_10 (by rfl) ?_
    refine tv_getR (pc := 11) 1 hM.1 (by rfl) uwM_ (by decide) wm_106 (by rfl) dM_putOut_11 ?_
    refine tv_aload_n (pc := 14) dM_putOut_14 (by rfl) ?_
    refine tv_getI (pc := 15) 2 hM.1 (by rfl) uwM_ (by decide) wm_107 (by rfl) dM_putOut_15 ?_
    refine tv_iload_n (pc := 18) dM_putOut_18 (by rfl) ?_
    refine tv_iast (pc := 19) hM.2.2 hx dM_putOut_19 ?_
    refine tv_aload_n (pc := 20) dM_putOut_20 (by rfl) ?_
    refine tv_dup (pc := 21) dM_putOut_21 (by rfl) ?_
    refine tv_getI (pc := 22) 2 hM.1 (by rfl) uwM_ (by decide) wm_107 (by rfl) dM_putOut_22 ?_
    refine tv_iconst (v := 1) (pc := 25) dM_putOut_25 (by decide) ?_
    refine tv_iadd (pc := 26) dM_putOut_26 ?_
    refine tv_putI (ty := .int) (pc := 27) 2 tyM_ hM.1 (by rfl) uwM_ (by decide) wm_107 okM_ nmM_ (by rfl) (by decide +kernel) (by rfl) (by rfl) (by rfl) dM_putOut_27 ?_
    exact tv_vret (pc := 30) dM_putOut_30 rfl (Nat.le_refl _) (Nat.le_refl _) (by first | exact ⟨rfl, by unfold sm_put; rw [if_neg (Int32.not_lt.mpr (by assumption))]⟩ | exact ⟨rfl, by unfold sm_put; rw [if_pos hlt, tc_up_ne hne]⟩)
/-- a line is done on a machine -/
def sm_do (P : tp_P) (i k co ou : Nat) (u : tc_S) : tc_S :=
  if P 0 i = 0 then tc_up u co (tp_n (P 1 i)) (P 2 i)
  else if P 0 i = 1 then tc_up u co (tp_n (P 1 i)) (u co (tp_n (P 2 i)))
  else if P 0 i = 2 then tc_up u co (tp_n (P 1 i)) (u co (tp_n (P 2 i)) + u co (tp_n (P 3 i)))
  else if P 0 i = 3 then sm_put k ou (u co (tp_n (P 1 i))) u else u
def sm_nx (n : Nat) (P : tp_P) (i co : Nat) (u : tc_S) : Nat := if P 0 i = 4 ∧ u co (tp_n (P 1 i)) = 0 then tp_tg n P i else i + 1
set_option maxRecDepth 100000 in
set_option maxHeartbeats 4000000 in
theorem c_M_perform (l : Launch) (G : tc_G) (u : tc_S) {k co ou : Nat} (hM : tcx_mach k co ou) (hne : k ≠ ou) (hc : ¬ u k 2 < 0) {ck cg cb : Nat} (hC : tcx_code ck cg cb) {n i : Nat} (hs : u ck 1 = nI n) (hn : n ≤ 16) (hi : i < 16) (hl : tp_line (pv u cb) i) : tc_C tcx G l yM_perform wM_perform r0M_perform 0 0 [.ref (tc_ad G k), .ref (tc_ad G ck), .int (nI i)] u (tc_Ki (nI (sm_nx n (pv u cb) i co u)) (sm_do (pv u cb) i k co ou u)) := by
  refine tw_ofV (own := "TracedCode$Machine") [some (.ref (tc_ad G k)), some (.ref (tc_ad G ck)), some (.int (nI i)), none, none] (by decide +kernel) rfl (Nat.le_of_ble_eq_true rfl) (by rfl) (fun p e s m args below meth c => ?_)
  have hi16 : tc_ix (nI i) 16 i := tc_ixN hi (by decide)
  have r1 : ¬ pv u cb 0 i = -1 → tc_ix (pv u cb 1 i) 6 (tp_n (pv u cb 1 i)) := fun h => by
    obtain ⟨a, ha, ea⟩ := hl.2.1 h
    rw [ea]; unfold tp_n; rw [nI_clamp (by omega)]; exact tc_ixN ha (by decide)
  have r2 : pv u cb 0 i = 1 ∨ pv u cb 0 i = 2 ∨ pv u cb 0 i = 5 → tc_ix (pv u cb 2 i) 6 (tp_n (pv u cb 2 i)) := fun h => by
    obtain ⟨a, ha, ea⟩ := hl.2.2.1 h
    rw [ea]; unfold tp_n; rw [nI_clamp (by omega)]; exact tc_ixN ha (by decide)
  have r3 : pv u cb 0 i = 2 → tc_ix (pv u cb 3 i) 6 (tp_n (pv u cb 3 i)) := fun h => by
    obtain ⟨a, ha, ea⟩ := hl.2.2.2.2.1 h
    rw [ea]; unfold tp_n; rw [nI_clamp (by omega)]; exact tc_ixN ha (by decide)
  have fin : ∀ v : tc_S, v = sm_do (pv u cb) i k co ou u → sm_nx n (pv u cb) i co u = i + 1 → tc_V tcx G p l e r0M_perform s m args below meth c bM_perform 5 tw "TracedCode$Machine" (some .int) [] (MQ below (tc_Qc tcx G (tc_Ki (nI (sm_nx n (pv u cb) i co u)) (sm_do (pv u cb) i k co ou u)) s.heap.size) args s 0 0 (tc_A tcx G s.heap.size)) 0 0 v 145 [some (.ref (tc_ad G k)), some (.ref (tc_ad G ck)), some (.int (nI i)), some (.int (pv u cb 1 i)), some (.int (pv u cb 2 i))] [] := by
    intro v hv hx
    refine tv_iload_n (pc := 145) dM_perform_145 (by rfl) ?_
    refine tv_iconst (v := 1) (pc := 146) dM_perform_146 (by decide) ?_
    refine tv_iadd (pc := 147) dM_perform_147 ?_
    exact tv_iret (pc := 148) dM_perform_148 rfl (Nat.le_refl _) (Nat.le_refl _) ⟨by rw [hx, nI_1], hv⟩
  have nx : ¬ pv u cb 0 i = 4 → sm_nx n (pv u cb) i co u = i + 1 := fun h => by unfold sm_nx; rw [if_neg (fun q => h q.1)]
  have sw : tc_V tcx G p l e r0M_perform s m args below meth c bM_perform 5 tw "TracedCode$Machine" (some .int) [] (MQ below (tc_Qc tcx G (tc_Ki (nI (sm_nx n (pv u cb) i co u)) (sm_do (pv u cb) i k co ou u)) s.heap.size) args s 0 0 (tc_A tcx G s.heap.size)) 0 0 u 20 [some (.ref (tc_ad G k)), some (.ref (tc_ad G ck)), some (.int (nI i)), some (.int (pv u cb 1 i)), some (.int (pv u cb 2 i))] [.int (pv u cb 0 i)] := by
    rcases hl.1 with h | h | h | h | h | h | h
    · skip
      have h4 : ¬ pv u cb 0 i = 4 := by rw [h]; decide
      rw [h]
      refine tv_tableOut (pc := 20) 145 dM_perform_20 (by decide) (by decide) ?_
      exact fin u (by unfold sm_do; simp [h]) (nx h4)
    · skip
      have h4 : ¬ pv u cb 0 i = 4 := by rw [h]; decide
      have x1 := r1 (by rw [h]; decide)
      rw [h]
      refine tv_tableIn (pc := 20) (off := 36) 56 dM_perform_20 (by decide) (by decide) (by decide) (by decide) ?_
      refine tv_aload_n (pc := 56) dM_perform_56 (by rfl) ?_
      refine tv_getR (pc := 57) 0 hM.1 (by rfl) uwM_ (by decide) wm_105 (by rfl) dM_perform_57 ?_
      refine tv_iload_n (pc := 60) dM_perform_60 (by rfl) ?_
      refine tv_iload (pc := 61) dM_perform_61 (by rfl) ?_
      refine tv_iast (pc := 63) hM.2.1 x1 dM_perform_63 ?_
      refine tv_goto (pc := 64) 145 dM_perform_64 (by decide) ?_
      exact fin _ (by unfold sm_do; simp [h]) (nx h4)
    · skip
      have h4 : ¬ pv u cb 0 i = 4 := by rw [h]; decide
      have x1 := r1 (by rw [h]; decide)
      have x2 := r2 (by rw [h]; decide)
      rw [h]
      refine tv_tableIn (pc := 20) (off := 47) 67 dM_perform_20 (by decide) (by decide) (by decide) (by decide) ?_
      refine tv_aload_n (pc := 67) dM_perform_67 (by rfl) ?_
      refine tv_getR (pc := 68) 0 hM.1 (by rfl) uwM_ (by decide) wm_105 (by rfl) dM_perform_68 ?_
      refine tv_iload_n (pc := 71) dM_perform_71 (by rfl) ?_
      refine tv_aload_n (pc := 72) dM_perform_72 (by rfl) ?_
      refine tv_getR (pc := 73) 0 hM.1 (by rfl) uwM_ (by decide) wm_105 (by rfl) dM_perform_73 ?_
      refine tv_iload (pc := 76) dM_perform_76 (by rfl) ?_
      refine tv_iald (pc := 78) hM.2.1 x2 dM_perform_78 ?_
      refine tv_iast (pc := 79) hM.2.1 x1 dM_perform_79 ?_
      refine tv_goto (pc := 80) 145 dM_perform_80 (by decide) ?_
      exact fin _ (by unfold sm_do; simp [h]) (nx h4)
    · skip
      have h4 : ¬ pv u cb 0 i = 4 := by rw [h]; decide
      have x1 := r1 (by rw [h]; decide)
      have x2 := r2 (by rw [h]; decide)
      have x3 := r3 h
      rw [h]
      refine tv_tableIn (pc := 20) (off := 63) 83 dM_perform_20 (by decide) (by decide) (by decide) (by decide) ?_
      refine tv_aload_n (pc := 83) dM_perform_83 (by rfl) ?_
      refine tv_getR (pc := 84) 0 hM.1 (by rfl) uwM_ (by decide) wm_105 (by rfl) dM_perform_84 ?_
      refine tv_iload_n (pc := 87) dM_perform_87 (by rfl) ?_
      refine tv_aload_n (pc := 88) dM_perform_88 (by rfl) ?_
      refine tv_getR (pc := 89) 0 hM.1 (by rfl) uwM_ (by decide) wm_105 (by rfl) dM_perform_89 ?_
      refine tv_iload (pc := 92) dM_perform_92 (by rfl) ?_
      refine tv_iald (pc := 94) hM.2.1 x2 dM_perform_94 ?_
      refine tv_aload_n (pc := 95) dM_perform_95 (by rfl) ?_
      refine tv_getR (pc := 96) 0 hM.1 (by rfl) uwM_ (by decide) wm_105 (by rfl) dM_perform_96 ?_
      refine tv_aload_n (pc := 99) dM_perform_99 (by rfl) ?_
      refine tv_iload_n (pc := 100) dM_perform_100 (by rfl) ?_
      refine tv_iconst (v := 3) (pc := 101) dM_perform_101 (by decide) ?_
      refine tv_callVi (pc := 102) [_, _] hC.1 (by rfl) (c_C_number l G u hC hi16 (j := 3) ⟨by decide, by decide, by decide⟩) (kVC_number wm_566 ⟨by decide, by decide⟩) (by rfl) (Nat.le_of_ble_eq_true rfl) dM_perform_102 ⟨by decide, by decide⟩ ?_
      refine tv_iald (pc := 105) hM.2.1 x3 dM_perform_105 ?_
      refine tv_iadd (pc := 106) dM_perform_106 ?_
      refine tv_iast (pc := 107) hM.2.1 x1 dM_perform_107 ?_
      refine tv_goto (pc := 108) 145 dM_perform_108 (by decide) ?_
      exact fin _ (by unfold sm_do; simp [h]) (nx h4)
    · skip
      have h4 : ¬ pv u cb 0 i = 4 := by rw [h]; decide
      have x1 := r1 (by rw [h]; decide)
      rw [h]
      refine tv_tableIn (pc := 20) (off := 91) 111 dM_perform_20 (by decide) (by decide) (by decide) (by decide) ?_
      refine tv_aload_n (pc := 111) dM_perform_111 (by rfl) ?_
      refine tv_aload_n (pc := 112) dM_perform_112 (by rfl) ?_
      refine tv_getR (pc := 113) 0 hM.1 (by rfl) uwM_ (by decide) wm_105 (by rfl) dM_perform_113 ?_
      refine tv_iload_n (pc := 116) dM_perform_116 (by rfl) ?_
      refine tv_iald (pc := 117) hM.2.1 x1 dM_perform_117 ?_
      refine tv_callVv (pc := 118) [_] hM.1 (by rfl) (c_M_putOut l G u hM hne hc _) (kVM_putOut wm_568 ⟨by decide, by decide⟩) (by rfl) (Nat.le_of_ble_eq_true rfl) dM_perform_118 ⟨by decide, by decide⟩ ?_
      refine tv_goto (pc := 121) 145 dM_perform_121 (by decide) ?_
      exact fin _ (by unfold sm_do; simp [h]) (nx h4)
    · skip
      have x1 := r1 (by rw [h]; decide)
      have h4 := hl.2.2.2.1
      rw [h]
      refine tv_tableIn (pc := 20) (off := 104) 124 dM_perform_20 (by decide) (by decide) (by decide) (by decide) ?_
      refine tv_aload_n (pc := 124) dM_perform_124 (by rfl) ?_
      refine tv_getR (pc := 125) 0 hM.1 (by rfl) uwM_ (by decide) wm_105 (by rfl) dM_perform_125 ?_
      refine tv_iload_n (pc := 128) dM_perform_128 (by rfl) ?_
      refine tv_iald (pc := 129) hM.2.1 x1 dM_perform_129 ?_
      refine tv_if_ne (pc := 130) 141 dM_perform_130 (by decide) (fun h130 => ?_) (fun h130 => ?_)
      · skip
        refine tv_iload_n (pc := 141) dM_perform_141 (by rfl) ?_
        refine tv_iconst (v := 1) (pc := 142) dM_perform_142 (by decide) ?_
        refine tv_iadd (pc := 143) dM_perform_143 ?_
        exact tv_iret (pc := 144) dM_perform_144 rfl (Nat.le_refl _) (Nat.le_refl _) (by first | exact ⟨by unfold sm_nx; rw [if_pos ⟨h, by assumption⟩], by unfold sm_do; simp [h]⟩ | exact ⟨by unfold sm_nx; rw [if_neg (fun q => absurd q.2 (by assumption)), nI_1], by unfold sm_do; simp [h]⟩)
      · skip
        refine tv_aload_n (pc := 133) dM_perform_133 (by rfl) ?_
        refine tv_iload_n (pc := 134) dM_perform_134 (by rfl) ?_
        refine tv_callVi (pc := 135) [_] hC.1 (by rfl) (c_C_target l G u hC hi16 hs hn h4) (kVC_target wm_572 ⟨by decide, by decide⟩) (by rfl) (Nat.le_of_ble_eq_true rfl) dM_perform_135 ⟨by decide, by decide⟩ ?_
        refine tv_goto (pc := 138) 144 dM_perform_138 (by decide) ?_
        exact tv_iret (pc := 144) dM_perform_144 rfl (Nat.le_refl _) (Nat.le_refl _) (by first | exact ⟨by unfold sm_nx; rw [if_pos ⟨h, by assumption⟩], by unfold sm_do; simp [h]⟩ | exact ⟨by unfold sm_nx; rw [if_neg (fun q => absurd q.2 (by assumption)), nI_1], by unfold sm_do; simp [h]⟩)
    · skip
      have h4 : ¬ pv u cb 0 i = 4 := by rw [h]; decide
      rw [h]
      refine tv_tableOut (pc := 20) 145 dM_perform_20 (by decide) (by decide) ?_
      exact fin u (by unfold sm_do; simp [h]) (nx h4)
  refine tv_aload_n (pc := 0) dM_perform_0 (by rfl) ?_
  refine tv_iload_n (pc := 1) dM_perform_1 (by rfl) ?_
  refine tv_iconst (v := 1) (pc := 2) dM_perform_2 (by decide) ?_
  refine tv_callVi (pc := 3) [_, _] hC.1 (by rfl) (c_C_number l G u hC hi16 (j := 1) ⟨by decide, by decide, by decide⟩) (kVC_number wm_566 ⟨by decide, by decide⟩) (by rfl) (Nat.le_of_ble_eq_true rfl) dM_perform_3 ⟨by decide, by decide⟩ ?_
  refine tv_istore3 (pc := 6) dM_perform_6 (by rfl) ?_
  refine tv_aload_n (pc := 7) dM_perform_7 (by rfl) ?_
  refine tv_iload_n (pc := 8) dM_perform_8 (by rfl) ?_
  refine tv_iconst (v := 2) (pc := 9) dM_perform_9 (by decide) ?_
  refine tv_callVi (pc := 10) [_, _] hC.1 (by rfl) (c_C_number l G u hC hi16 (j := 2) ⟨by decide, by decide, by decide⟩) (kVC_number wm_566 ⟨by decide, by decide⟩) (by rfl) (Nat.le_of_ble_eq_true rfl) dM_perform_10 ⟨by decide, by decide⟩ ?_
  refine tv_istore4 (pc := 13) dM_perform_13 (by rfl) ?_
  refine tv_aload_n (pc := 15) dM_perform_15 (by rfl) ?_
  refine tv_iload_n (pc := 16) dM_perform_16 (by rfl) ?_
  refine tv_callVi (pc := 17) [_] hC.1 (by rfl) (c_C_kind l G u hC hi16) (kVC_kind wm_567 ⟨by decide, by decide⟩) (by rfl) (Nat.le_of_ble_eq_true rfl) dM_perform_17 ⟨by decide, by decide⟩ ?_
  exact sw
