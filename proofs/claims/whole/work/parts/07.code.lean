/-! the programs: a Code at the cell k, its rows from the cell b on -/
def tcx_code (k g b : Nat) : Prop := tcx.1[k]? = some (4, 1, [g + 1, 0]) ∧ tcx.1[g]? = some (3, 4, [b]) ∧ ∀ j, j < 4 → tcx.1[b + j]? = some (0, 16, [])
theorem code_1 : tcx_code 1 2 3 := ⟨tb_1, tb_2, by decide +kernel⟩
theorem code_7 : tcx_code 7 8 9 := ⟨tb_7, tb_8, by decide +kernel⟩
set_option maxRecDepth 100000 in
set_option maxHeartbeats 4000000 in
theorem c_C_size (l : Launch) (G : tc_G) (u : tc_S) {k g b : Nat} (hC : tcx_code k g b) : tc_C tcx G l yC_size wC_size r0C_size 0 0 [.ref (tc_ad G k)] u (tc_Ki (u k 1) u) := by
  refine tw_ofV (own := "TracedCode$Code") [some (.ref (tc_ad G k))] (by decide +kernel) rfl (Nat.le_of_ble_eq_true rfl) (by rfl) (fun p e s m args below meth c => ?_)
  refine tv_aload_n (pc := 0) dC_size_0 (by rfl) ?_
  refine tv_getI (pc := 1) 1 hC.1 (by rfl) uwC_ (by decide) wm_36 (by rfl) dC_size_1 ?_
  exact tv_iret (pc := 4) dC_size_4 rfl (Nat.le_refl _) (Nat.le_refl _) ⟨rfl, rfl⟩
set_option maxRecDepth 100000 in
set_option maxHeartbeats 4000000 in
theorem c_C_number (l : Launch) (G : tc_G) (u : tc_S) {k g b : Nat} (hC : tcx_code k g b) {line : Int32} {i : Nat} (hi : tc_ix line 16 i) {place : Int32} {j : Nat} (hj : tc_ix place 4 j) : tc_C tcx G l yC_number wC_number r0C_number 0 0 [.ref (tc_ad G k), .int line, .int place] u (tc_Ki (u (b + j) i) u) := by
  refine tw_ofV (own := "TracedCode$Code") [some (.ref (tc_ad G k)), some (.int line), some (.int place)] (by decide +kernel) rfl (Nat.le_of_ble_eq_true rfl) (by rfl) (fun p e s m args below meth c => ?_)
  refine tv_aload_n (pc := 0) dC_number_0 (by rfl) ?_
  refine tv_getR (pc := 1) 0 hC.1 (by rfl) uwC_ (by decide) wm_35 (by rfl) dC_number_1 ?_
  refine tv_iload_n (pc := 4) dC_number_4 (by rfl) ?_
  refine tv_aald (pc := 5) hC.2.1 hj dC_number_5 ?_
  refine tv_iload_n (pc := 6) dC_number_6 (by rfl) ?_
  refine tv_iald (pc := 7) (hC.2.2 _ hj.2.2) hi dC_number_7 ?_
  exact tv_iret (pc := 8) dC_number_8 rfl (Nat.le_refl _) (Nat.le_refl _) ⟨rfl, rfl⟩
set_option maxRecDepth 100000 in
set_option maxHeartbeats 4000000 in
theorem c_C_kind (l : Launch) (G : tc_G) (u : tc_S) {k g b : Nat} (hC : tcx_code k g b) {line : Int32} {i : Nat} (hi : tc_ix line 16 i) : tc_C tcx G l yC_kind wC_kind r0C_kind 0 0 [.ref (tc_ad G k), .int line] u (tc_Ki (u (b + 0) i) u) := by
  refine tw_ofV (own := "TracedCode$Code") [some (.ref (tc_ad G k)), some (.int line)] (by decide +kernel) rfl (Nat.le_of_ble_eq_true rfl) (by rfl) (fun p e s m args below meth c => ?_)
  refine tv_aload_n (pc := 0) dC_kind_0 (by rfl) ?_
  refine tv_getR (pc := 1) 0 hC.1 (by rfl) uwC_ (by decide) wm_35 (by rfl) dC_kind_1 ?_
  refine tv_iconst (v := 0) (pc := 4) dC_kind_4 (by decide) ?_
  refine tv_aald (pc := 5) (j := 0) hC.2.1 ⟨by decide, by decide, by decide⟩ dC_kind_5 ?_
  refine tv_iload_n (pc := 6) dC_kind_6 (by rfl) ?_
  refine tv_iald (pc := 7) (hC.2.2 0 (by decide)) hi dC_kind_7 ?_
  exact tv_iret (pc := 8) dC_kind_8 rfl (Nat.le_refl _) (Nat.le_refl _) ⟨rfl, rfl⟩
set_option maxRecDepth 100000 in
set_option maxHeartbeats 4000000 in
theorem c_C_dropLines (l : Launch) (G : tc_G) (u : tc_S) {k g b : Nat} (hC : tcx_code k g b) : tc_C tcx G l yC_dropLines wC_dropLines r0C_dropLines 0 0 [.ref (tc_ad G k)] u (tc_Kv (tc_up u k 1 0)) := by
  refine tw_ofV (own := "TracedCode$Code") [some (.ref (tc_ad G k))] (by decide +kernel) rfl (Nat.le_of_ble_eq_true rfl) (by rfl) (fun p e s m args below meth c => ?_)
  refine tv_aload_n (pc := 0) dC_dropLines_0 (by rfl) ?_
  refine tv_iconst (v := 0) (pc := 1) dC_dropLines_1 (by decide) ?_
  refine tv_putI (ty := .int) (pc := 2) 1 tyC_ hC.1 (by rfl) uwC_ (by decide) wm_36 okC_ nmC_ (by rfl) (by decide +kernel) (by rfl) (by rfl) (by rfl) dC_dropLines_2 ?_
  exact tv_vret (pc := 5) dC_dropLines_5 rfl (Nat.le_refl _) (Nat.le_refl _) ⟨rfl, rfl⟩
set_option maxRecDepth 100000 in
set_option maxHeartbeats 4000000 in
theorem c_C_append (l : Launch) (G : tc_G) (u : tc_S) {k g b : Nat} (hC : tcx_code k g b) (kd a1 a2 a3 : Int32) {i : Nat} (hi : tc_ix (u k 1) 16 i) : tc_C tcx G l yC_append wC_append r0C_append 0 0 [.ref (tc_ad G k), .int kd, .int a1, .int a2, .int a3] u (tc_Ki (u k 1) (tc_up (tc_up (tc_up (tc_up (tc_up u (b + 0) i kd) (b + 1) i a1) (b + 2) i a2) (b + 3) i a3) k 1 (u k 1 + 1))) := by
  refine tw_ofV (own := "TracedCode$Code") [some (.ref (tc_ad G k)), some (.int kd), some (.int a1), some (.int a2), some (.int a3), none] (by decide +kernel) rfl (Nat.le_of_ble_eq_true rfl) (by rfl) (fun p e s m args below meth c => ?_)
  refine tv_aload_n (pc := 0) dC_append_0 (by rfl) ?_
  refine tv_getI (pc := 1) 1 hC.1 (by rfl) uwC_ (by decide) wm_36 (by rfl) dC_append_1 ?_
  refine tv_istore5 (pc := 4) dC_append_4 (by rfl) ?_
  refine tv_aload_n (pc := 6) dC_append_6 (by rfl) ?_
  refine tv_getR (pc := 7) 0 hC.1 (by rfl) uwC_ (by decide) wm_35 (by rfl) dC_append_7 ?_
  refine tv_iconst (v := 0) (pc := 10) dC_append_10 (by decide) ?_
  refine tv_aald (pc := 11) (j := 0) hC.2.1 ⟨by decide, by decide, by decide⟩ dC_append_11 ?_
  refine tv_iload (pc := 12) dC_append_12 (by rfl) ?_
  refine tv_iload_n (pc := 14) dC_append_14 (by rfl) ?_
  refine tv_iast (pc := 15) (hC.2.2 0 (by decide)) (by assumption) dC_append_15 ?_
  refine tv_aload_n (pc := 16) dC_append_16 (by rfl) ?_
  refine tv_getR (pc := 17) 0 hC.1 (by rfl) uwC_ (by decide) wm_35 (by rfl) dC_append_17 ?_
  refine tv_iconst (v := 1) (pc := 20) dC_append_20 (by decide) ?_
  refine tv_aald (pc := 21) (j := 1) hC.2.1 ⟨by decide, by decide, by decide⟩ dC_append_21 ?_
  refine tv_iload (pc := 22) dC_append_22 (by rfl) ?_
  refine tv_iload_n (pc := 24) dC_append_24 (by rfl) ?_
  refine tv_iast (pc := 25) (hC.2.2 1 (by decide)) (by assumption) dC_append_25 ?_
  refine tv_aload_n (pc := 26) dC_append_26 (by rfl) ?_
  refine tv_getR (pc := 27) 0 hC.1 (by rfl) uwC_ (by decide) wm_35 (by rfl) dC_append_27 ?_
  refine tv_iconst (v := 2) (pc := 30) dC_append_30 (by decide) ?_
  refine tv_aald (pc := 31) (j := 2) hC.2.1 ⟨by decide, by decide, by decide⟩ dC_append_31 ?_
  refine tv_iload (pc := 32) dC_append_32 (by rfl) ?_
  refine tv_iload_n (pc := 34) dC_append_34 (by rfl) ?_
  refine tv_iast (pc := 35) (hC.2.2 2 (by decide)) (by assumption) dC_append_35 ?_
  refine tv_aload_n (pc := 36) dC_append_36 (by rfl) ?_
  refine tv_getR (pc := 37) 0 hC.1 (by rfl) uwC_ (by decide) wm_35 (by rfl) dC_append_37 ?_
  refine tv_iconst (v := 3) (pc := 40) dC_append_40 (by decide) ?_
  refine tv_aald (pc := 41) (j := 3) hC.2.1 ⟨by decide, by decide, by decide⟩ dC_append_41 ?_
  refine tv_iload (pc := 42) dC_append_42 (by rfl) ?_
  refine tv_iload (pc := 44) dC_append_44 (by rfl) ?_
  refine tv_iast (pc := 46) (hC.2.2 3 (by decide)) (by assumption) dC_append_46 ?_
  refine tv_aload_n (pc := 47) dC_append_47 (by rfl) ?_
  refine tv_iload (pc := 48) dC_append_48 (by rfl) ?_
  refine tv_iconst (v := 1) (pc := 50) dC_append_50 (by decide) ?_
  refine tv_iadd (pc := 51) dC_append_51 ?_
  refine tv_putI (ty := .int) (pc := 52) 1 tyC_ hC.1 (by rfl) uwC_ (by decide) wm_36 okC_ nmC_ (by rfl) (by decide +kernel) (by rfl) (by rfl) (by rfl) dC_append_52 ?_
  refine tv_iload (pc := 55) dC_append_55 (by rfl) ?_
  exact tv_iret (pc := 57) dC_append_57 rfl (Nat.le_refl _) (Nat.le_refl _) ⟨rfl, rfl⟩
set_option maxRecDepth 100000 in
set_option maxHeartbeats 4000000 in
theorem c_C_makeEmpty (l : Launch) (G : tc_G) (u : tc_S) {k g b : Nat} (hC : tcx_code k g b) {line : Int32} {i : Nat} (hi : tc_ix line 16 i) : tc_C tcx G l yC_makeEmpty wC_makeEmpty r0C_makeEmpty 0 0 [.ref (tc_ad G k), .int line] u (tc_Kv (tc_up (tc_up (tc_up (tc_up u (b + 0) i (-1)) (b + 1) i 0) (b + 2) i 0) (b + 3) i 0)) := by
  refine tw_ofV (own := "TracedCode$Code") [some (.ref (tc_ad G k)), some (.int line)] (by decide +kernel) rfl (Nat.le_of_ble_eq_true rfl) (by rfl) (fun p e s m args below meth c => ?_)
  refine tv_aload_n (pc := 0) dC_makeEmpty_0 (by rfl) ?_
  refine tv_getR (pc := 1) 0 hC.1 (by rfl) uwC_ (by decide) wm_35 (by rfl) dC_makeEmpty_1 ?_
  refine tv_iconst (v := 0) (pc := 4) dC_makeEmpty_4 (by decide) ?_
  refine tv_aald (pc := 5) (j := 0) hC.2.1 ⟨by decide, by decide, by decide⟩ dC_makeEmpty_5 ?_
  refine tv_iload_n (pc := 6) dC_makeEmpty_6 (by rfl) ?_
  refine tv_iconst (v := (-1)) (pc := 7) dC_makeEmpty_7 (by decide) ?_
  refine tv_iast (pc := 8) (hC.2.2 0 (by decide)) hi dC_makeEmpty_8 ?_
  refine tv_aload_n (pc := 9) dC_makeEmpty_9 (by rfl) ?_
  refine tv_getR (pc := 10) 0 hC.1 (by rfl) uwC_ (by decide) wm_35 (by rfl) dC_makeEmpty_10 ?_
  refine tv_iconst (v := 1) (pc := 13) dC_makeEmpty_13 (by decide) ?_
  refine tv_aald (pc := 14) (j := 1) hC.2.1 ⟨by decide, by decide, by decide⟩ dC_makeEmpty_14 ?_
  refine tv_iload_n (pc := 15) dC_makeEmpty_15 (by rfl) ?_
  refine tv_iconst (v := 0) (pc := 16) dC_makeEmpty_16 (by decide) ?_
  refine tv_iast (pc := 17) (hC.2.2 1 (by decide)) hi dC_makeEmpty_17 ?_
  refine tv_aload_n (pc := 18) dC_makeEmpty_18 (by rfl) ?_
  refine tv_getR (pc := 19) 0 hC.1 (by rfl) uwC_ (by decide) wm_35 (by rfl) dC_makeEmpty_19 ?_
  refine tv_iconst (v := 2) (pc := 22) dC_makeEmpty_22 (by decide) ?_
  refine tv_aald (pc := 23) (j := 2) hC.2.1 ⟨by decide, by decide, by decide⟩ dC_makeEmpty_23 ?_
  refine tv_iload_n (pc := 24) dC_makeEmpty_24 (by rfl) ?_
  refine tv_iconst (v := 0) (pc := 25) dC_makeEmpty_25 (by decide) ?_
  refine tv_iast (pc := 26) (hC.2.2 2 (by decide)) hi dC_makeEmpty_26 ?_
  refine tv_aload_n (pc := 27) dC_makeEmpty_27 (by rfl) ?_
  refine tv_getR (pc := 28) 0 hC.1 (by rfl) uwC_ (by decide) wm_35 (by rfl) dC_makeEmpty_28 ?_
  refine tv_iconst (v := 3) (pc := 31) dC_makeEmpty_31 (by decide) ?_
  refine tv_aald (pc := 32) (j := 3) hC.2.1 ⟨by decide, by decide, by decide⟩ dC_makeEmpty_32 ?_
  refine tv_iload_n (pc := 33) dC_makeEmpty_33 (by rfl) ?_
  refine tv_iconst (v := 0) (pc := 34) dC_makeEmpty_34 (by decide) ?_
  refine tv_iast (pc := 35) (hC.2.2 3 (by decide)) hi dC_makeEmpty_35 ?_
  exact tv_vret (pc := 36) dC_makeEmpty_36 rfl (Nat.le_refl _) (Nat.le_refl _) ⟨rfl, rfl⟩
set_option maxRecDepth 100000 in
set_option maxHeartbeats 4000000 in
theorem c_C_isEmpty (l : Launch) (G : tc_G) (u : tc_S) {k g b : Nat} (hC : tcx_code k g b) {line : Int32} {i : Nat} (hi : tc_ix line 16 i) : tc_C tcx G l yC_isEmpty wC_isEmpty r0C_isEmpty 0 0 [.ref (tc_ad G k), .int line] u (tc_Ki (if u (b + 0) i = -1 then 1 else 0) u) := by
  refine tw_ofV (own := "TracedCode$Code") [some (.ref (tc_ad G k)), some (.int line)] (by decide +kernel) rfl (Nat.le_of_ble_eq_true rfl) (by rfl) (fun p e s m args below meth c => ?_)
  refine tv_aload_n (pc := 0) dC_isEmpty_0 (by rfl) ?_
  refine tv_getR (pc := 1) 0 hC.1 (by rfl) uwC_ (by decide) wm_35 (by rfl) dC_isEmpty_1 ?_
  refine tv_iconst (v := 0) (pc := 4) dC_isEmpty_4 (by decide) ?_
  refine tv_aald (pc := 5) (j := 0) hC.2.1 ⟨by decide, by decide, by decide⟩ dC_isEmpty_5 ?_
  refine tv_iload_n (pc := 6) dC_isEmpty_6 (by rfl) ?_
  refine tv_iald (pc := 7) (hC.2.2 0 (by decide)) hi dC_isEmpty_7 ?_
  refine tv_iconst (v := (-1)) (pc := 8) dC_isEmpty_8 (by decide) ?_
  refine tv_icmp_ne (pc := 9) 16 dC_isEmpty_9 (by decide) (fun h9 => ?_) (fun h9 => ?_)
  · skip
    refine tv_iconst (v := 0) (pc := 16) dC_isEmpty_16 (by decide) ?_
    exact tv_zret (pc := 17) dC_isEmpty_17 rfl (Nat.le_refl _) (Nat.le_refl _) (by rfl)  ⟨by first | rw [if_pos (by assumption)] | rw [if_neg (by assumption)], rfl⟩
  · skip
    refine tv_iconst (v := 1) (pc := 12) dC_isEmpty_12 (by decide) ?_
    refine tv_goto (pc := 13) 17 dC_isEmpty_13 (by decide) ?_
    exact tv_zret (pc := 17) dC_isEmpty_17 rfl (Nat.le_refl _) (Nat.le_refl _) (by rfl)  ⟨by first | rw [if_pos (by assumption)] | rw [if_neg (by assumption)], rfl⟩
set_option maxRecDepth 100000 in
set_option maxHeartbeats 4000000 in
theorem c_C_readInstead (l : Launch) (G : tc_G) (u : tc_S) {k g b : Nat} (hC : tcx_code k g b) {line : Int32} {i : Nat} (hi : tc_ix line 16 i) {place : Int32} {j : Nat} (hj : tc_ix place 4 j) (x : Int32) : tc_C tcx G l yC_readInstead wC_readInstead r0C_readInstead 0 0 [.ref (tc_ad G k), .int line, .int place, .int x] u (tc_Kv (tc_up u (b + j) i x)) := by
  refine tw_ofV (own := "TracedCode$Code") [some (.ref (tc_ad G k)), some (.int line), some (.int place), some (.int x)] (by decide +kernel) rfl (Nat.le_of_ble_eq_true rfl) (by rfl) (fun p e s m args below meth c => ?_)
  refine tv_aload_n (pc := 0) dC_readInstead_0 (by rfl) ?_
  refine tv_getR (pc := 1) 0 hC.1 (by rfl) uwC_ (by decide) wm_35 (by rfl) dC_readInstead_1 ?_
  refine tv_iload_n (pc := 4) dC_readInstead_4 (by rfl) ?_
  refine tv_aald (pc := 5) hC.2.1 hj dC_readInstead_5 ?_
  refine tv_iload_n (pc := 6) dC_readInstead_6 (by rfl) ?_
  refine tv_iload_n (pc := 7) dC_readInstead_7 (by rfl) ?_
  refine tv_iast (pc := 8) (hC.2.2 _ hj.2.2) hi dC_readInstead_8 ?_
  exact tv_vret (pc := 9) dC_readInstead_9 rfl (Nat.le_refl _) (Nat.le_refl _) ⟨rfl, rfl⟩
