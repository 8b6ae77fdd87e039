theorem tc_row_upc {u : tc_S} {be k i N : Nat} {f : Nat → Int32} {x : Int32} (h : k ≠ be) : tc_up (tc_row u be f N) k i x = tc_row (tc_up u k i x) be f N := by
  funext q
  by_cases e : q = k
  · subst e
    rw [tc_up_eq, tc_row_ne h, tc_row_ne h, tc_up_eq]
  · rw [tc_up_ne e]
    by_cases e2 : q = be
    · subst e2
      funext j
      by_cases hj : j < N
      · rw [tc_row_in hj, tc_row_in hj]
      · rw [tc_row_out (by omega), tc_row_out (by omega), tc_up_ne e]
    · rw [tc_row_ne e2, tc_row_ne e2, tc_up_ne e]
theorem tc_col_upc {u : tc_S} {b pt k z i : Nat} {f : Nat → Int32} {x : Int32} (h : k < b ∨ b + i ≤ k) : tc_up (tc_col u b pt f i) k z x = tc_col (tc_up u k z x) b pt f i := by
  funext q
  by_cases e : q = k
  · subst e
    rw [tc_up_eq, tc_col_out h, tc_col_out h, tc_up_eq]
  · rw [tc_up_ne e]
    unfold tc_col
    rw [tc_up_ne e]
theorem tp_b_or1 {p : Prop} : tp_b p ||| 1 = 1 := by
  by_cases h : p
  · rw [tp_b_t h]; rfl
  · rw [tp_b_f h]; rfl
theorem tp_b_or0 {p : Prop} : tp_b p ||| 0 = tp_b p := by
  by_cases h : p
  · rw [tp_b_t h]; rfl
  · rw [tp_b_f h]; rfl
/-- the carriers of a value behind a line of the short program -/
def sk_bs (P : tp_P) (i : Nat) (x : Int32) : Int32 := if tp_wI P i = -1 then x else if P 0 i = 1 ∧ ¬ (x >>> (P 2 i &&& 31)) &&& 1 = 0 then x ||| tp_sh (tp_wI P i) else x &&& (tp_sh (tp_wI P i) ^^^ (-1))
set_option maxRecDepth 100000 in
set_option maxHeartbeats 4000000 in
theorem c_K_behindShortLine (l : Launch) (G : tc_G) (u : tc_S) {x : Int32} {i : Nat} (hi : i < 16) : tc_C tcx G l yK_behindShortLine wK_behindShortLine r0K_behindShortLine 0 0 [.int x, .ref (tc_ad G 7), .int (nI i)] u (tc_Ki (sk_bs (pv u 9) i x) u) := by
  refine tw_ofV (own := "TracedCode$Carriers") [some (.int x), some (.ref (tc_ad G 7)), some (.int (nI i)), none] (by decide +kernel) rfl (Nat.le_of_ble_eq_true rfl) (by rfl) (fun p e s m args below meth c => ?_)
  have hi16 : tc_ix (nI i) 16 i := tc_ixN hi (by decide)
  refine tv_aload_n (pc := 0) dK_behindShortLine_0 (by rfl) ?_
  refine tv_iload_n (pc := 1) dK_behindShortLine_1 (by rfl) ?_
  refine tv_callVi (pc := 2) [_] tb_7 (by rfl) (c_C_written l G u code_7 hi16) (kVC_written wm_205 ⟨by decide, by decide⟩) (by rfl) (Nat.le_of_ble_eq_true rfl) dK_behindShortLine_2 ⟨by decide, by decide⟩ ?_
  refine tv_istore3 (pc := 5) dK_behindShortLine_5 (by rfl) ?_
  refine tv_iload_n (pc := 6) dK_behindShortLine_6 (by rfl) ?_
  refine tv_iconst (v := (-1)) (pc := 7) dK_behindShortLine_7 (by decide) ?_
  refine tv_icmp_ne (pc := 8) 13 dK_behindShortLine_8 (by decide) (fun h8 => ?_) (fun h8 => ?_)
  · skip
    refine tv_aload_n (pc := 13) dK_behindShortLine_13 (by rfl) ?_
    refine tv_iload_n (pc := 14) dK_behindShortLine_14 (by rfl) ?_
    refine tv_callVi (pc := 15) [_] tb_7 (by rfl) (c_C_kind l G u code_7 hi16) (kVC_kind wm_209 ⟨by decide, by decide⟩) (by rfl) (Nat.le_of_ble_eq_true rfl) dK_behindShortLine_15 ⟨by decide, by decide⟩ ?_
    refine tv_iconst (v := 1) (pc := 18) dK_behindShortLine_18 (by decide) ?_
    refine tv_icmp_ne (pc := 19) 41 dK_behindShortLine_19 (by decide) (fun h19 => ?_) (fun h19 => ?_)
    · skip
      refine tv_iload_n (pc := 41) dK_behindShortLine_41 (by rfl) ?_
      refine tv_iconst (v := 1) (pc := 42) dK_behindShortLine_42 (by decide) ?_
      refine tv_iload_n (pc := 43) dK_behindShortLine_43 (by rfl) ?_
      refine tv_ishl (pc := 44) dK_behindShortLine_44 ?_
      refine tv_iconst (v := (-1)) (pc := 45) dK_behindShortLine_45 (by decide) ?_
      refine tv_ixor (pc := 46) dK_behindShortLine_46 ?_
      refine tv_iand (pc := 47) dK_behindShortLine_47 ?_
      exact tv_iret (pc := 48) dK_behindShortLine_48 rfl (Nat.le_refl _) (Nat.le_refl _) ⟨by unfold sk_bs; rw [if_neg (by assumption), if_neg (fun q => by first | exact absurd q.1 (by assumption) | exact absurd (by assumption) q.2)]; rfl, rfl⟩
    · skip
      refine tv_iload_n (pc := 22) dK_behindShortLine_22 (by rfl) ?_
      refine tv_aload_n (pc := 23) dK_behindShortLine_23 (by rfl) ?_
      refine tv_iload_n (pc := 24) dK_behindShortLine_24 (by rfl) ?_
      refine tv_iconst (v := 2) (pc := 25) dK_behindShortLine_25 (by decide) ?_
      refine tv_callVi (pc := 26) [_, _] tb_7 (by rfl) (c_C_number l G u code_7 hi16 (j := 2) ⟨by decide, by decide, by decide⟩) (kVC_number wm_213 ⟨by decide, by decide⟩) (by rfl) (Nat.le_of_ble_eq_true rfl) dK_behindShortLine_26 ⟨by decide, by decide⟩ ?_
      refine tv_ishr (pc := 29) dK_behindShortLine_29 ?_
      refine tv_iconst (v := 1) (pc := 30) dK_behindShortLine_30 (by decide) ?_
      refine tv_iand (pc := 31) dK_behindShortLine_31 ?_
      refine tv_if_eq (pc := 32) 41 dK_behindShortLine_32 (by decide) (fun h32 => ?_) (fun h32 => ?_)
      · skip
        refine tv_iload_n (pc := 41) dK_behindShortLine_41 (by rfl) ?_
        refine tv_iconst (v := 1) (pc := 42) dK_behindShortLine_42 (by decide) ?_
        refine tv_iload_n (pc := 43) dK_behindShortLine_43 (by rfl) ?_
        refine tv_ishl (pc := 44) dK_behindShortLine_44 ?_
        refine tv_iconst (v := (-1)) (pc := 45) dK_behindShortLine_45 (by decide) ?_
        refine tv_ixor (pc := 46) dK_behindShortLine_46 ?_
        refine tv_iand (pc := 47) dK_behindShortLine_47 ?_
        exact tv_iret (pc := 48) dK_behindShortLine_48 rfl (Nat.le_refl _) (Nat.le_refl _) ⟨by unfold sk_bs; rw [if_neg (by assumption), if_neg (fun q => by first | exact absurd q.1 (by assumption) | exact absurd (by assumption) q.2)]; rfl, rfl⟩
      · skip
        refine tv_iload_n (pc := 35) dK_behindShortLine_35 (by rfl) ?_
        refine tv_iconst (v := 1) (pc := 36) dK_behindShortLine_36 (by decide) ?_
        refine tv_iload_n (pc := 37) dK_behindShortLine_37 (by rfl) ?_
        refine tv_ishl (pc := 38) dK_behindShortLine_38 ?_
        refine tv_ior (pc := 39) dK_behindShortLine_39 ?_
        exact tv_iret (pc := 40) dK_behindShortLine_40 rfl (Nat.le_refl _) (Nat.le_refl _) ⟨by unfold sk_bs; rw [if_neg (by assumption), if_pos ⟨by assumption, by assumption⟩]; rfl, rfl⟩
  · skip
    refine tv_iload_n (pc := 11) dK_behindShortLine_11 (by rfl) ?_
    exact tv_iret (pc := 12) dK_behindShortLine_12 rfl (Nat.le_refl _) (Nat.le_refl _) ⟨by unfold sk_bs; rw [if_pos (by assumption)], rfl⟩
set_option maxRecDepth 100000 in
set_option maxHeartbeats 4000000 in
theorem c_K_ofRegister (l : Launch) (G : tc_G) (u : tc_S) {pt : Int32} {q : Nat} (hq : tc_ix pt 17 q) {x : Int32} {r : Nat} (hr : tc_ix x 9 r) : tc_C tcx G l yK_ofRegister wK_ofRegister r0K_ofRegister 0 0 [.ref (tc_ad G 24), .int pt, .int x] u (tc_Ki (u (26 + r) q &&& 63) u) := by
  refine tw_ofV (own := "TracedCode$Carriers") [some (.ref (tc_ad G 24)), some (.int pt), some (.int x)] (by decide +kernel) rfl (Nat.le_of_ble_eq_true rfl) (by rfl) (fun p e s m args below meth c => ?_)
  refine tv_aload_n (pc := 0) dK_ofRegister_0 (by rfl) ?_
  refine tv_getR (pc := 1) 0 tb_24 (by rfl) uwK_ (by decide) wm_80 (by rfl) dK_ofRegister_1 ?_
  refine tv_iload_n (pc := 4) dK_ofRegister_4 (by rfl) ?_
  refine tv_aald (pc := 5) tb_25 hr dK_ofRegister_5 ?_
  refine tv_iload_n (pc := 6) dK_ofRegister_6 (by rfl) ?_
  refine tv_iald (pc := 7) (rows_26 _ hr.2.2) hq dK_ofRegister_7 ?_
  refine tv_bipush (v := 63) (pc := 8) dK_ofRegister_8 (by decide) ?_
  refine tv_iand (pc := 10) dK_ofRegister_10 ?_
  exact tv_iret (pc := 11) dK_ofRegister_11 rfl (Nat.le_refl _) (Nat.le_refl _) ⟨rfl, rfl⟩
set_option maxRecDepth 100000 in
set_option maxHeartbeats 4000000 in
theorem c_K_constantOfVariable (l : Launch) (G : tc_G) (u : tc_S) {pt : Int32} {q : Nat} (hq : tc_ix pt 17 q) {v : Nat} (hv : v < 3) : tc_C tcx G l yK_constantOfVariable wK_constantOfVariable r0K_constantOfVariable 0 0 [.ref (tc_ad G 24), .int pt, .int (nI v)] u (tc_Ki (u (36 + (6 + v)) q) u) := by
  refine tw_ofV (own := "TracedCode$Carriers") [some (.ref (tc_ad G 24)), some (.int pt), some (.int (nI v))] (by decide +kernel) rfl (Nat.le_of_ble_eq_true rfl) (by rfl) (fun p e s m args below meth c => ?_)
  have h9 : tc_ix (6 + nI v) 9 (6 + v) := by rw [show (6 : Int32) = nI 6 from rfl, nI_add]; exact tc_ixN (by omega) (by decide)
  refine tv_aload_n (pc := 0) dK_constantOfVariable_0 (by rfl) ?_
  refine tv_getR (pc := 1) 1 tb_24 (by rfl) uwK_ (by decide) wm_81 (by rfl) dK_constantOfVariable_1 ?_
  refine tv_bipush (v := 6) (pc := 4) dK_constantOfVariable_4 (by decide) ?_
  refine tv_iload_n (pc := 6) dK_constantOfVariable_6 (by rfl) ?_
  refine tv_iadd (pc := 7) dK_constantOfVariable_7 ?_
  refine tv_aald (pc := 8) tb_35 h9 dK_constantOfVariable_8 ?_
  refine tv_iload_n (pc := 9) dK_constantOfVariable_9 (by rfl) ?_
  refine tv_iald (pc := 10) (rows_36 _ h9.2.2) hq dK_constantOfVariable_10 ?_
  exact tv_iret (pc := 11) dK_constantOfVariable_11 rfl (Nat.le_refl _) (Nat.le_refl _) ⟨rfl, rfl⟩
/-- the least place that a mark names -/
def sk_pf (x : Int32) : Nat → Nat → Int32
  | 0, _ => -1
  | f + 1, k => if (x >>> (nI k &&& 31)) &&& 1 = 0 then sk_pf x f (k + 1) else nI k
set_option maxRecDepth 100000 in
set_option maxHeartbeats 4000000 in
theorem c_K_placeOfVariable (l : Launch) (G : tc_G) (u : tc_S) {pt : Int32} {q : Nat} (hq : tc_ix pt 17 q) {v : Nat} (hv : v < 3) : tc_C tcx G l yK_placeOfVariable wK_placeOfVariable r0K_placeOfVariable 0 0 [.ref (tc_ad G 24), .int pt, .int (nI v)] u (tc_Ki (sk_pf (u (26 + (6 + v)) q) 7 0) u) := by
  refine tw_ofV (own := "TracedCode$Carriers") [some (.ref (tc_ad G 24)), some (.int pt), some (.int (nI v)), none] (by decide +kernel) rfl (Nat.le_of_ble_eq_true rfl) (by rfl) (fun p e s m args below meth c => ?_)
  have h9 : tc_ix (6 + nI v) 9 (6 + v) := by rw [show (6 : Int32) = nI 6 from rfl, nI_add]; exact tc_ixN (by omega) (by decide)
  obtain ⟨w, hw⟩ : ∃ w, w = sk_pf (u (26 + (6 + v)) q) 7 0 := ⟨_, rfl⟩
  rw [← hw]
  have loop : ∀ d i : Nat, i + d = 7 → sk_pf (u (26 + (6 + v)) q) d i = w → tc_V tcx G p l e r0K_placeOfVariable s m args below meth c bK_placeOfVariable 4 tw "TracedCode$Carriers" (some .int) [] (MQ below (tc_Qc tcx G (tc_Ki w u) s.heap.size) args s 0 0 (tc_A tcx G s.heap.size)) 0 0 u 2 [some (.ref (tc_ad G 24)), some (.int pt), some (.int (nI v)), some (.int (nI i))] [] := by
    intro d
    induction d with
    | zero =>
      intro i hd he
      have e : i = 7 := by omega
      refine tv_iload_n (pc := 2) dK_placeOfVariable_2 (by rfl) ?_
      refine tv_bipush (v := 6) (pc := 3) dK_placeOfVariable_3 (by decide) ?_
      refine tv_icmp_gt (pc := 5) 34 dK_placeOfVariable_5 (by decide) (fun _ => ?_) (fun h => absurd (by rw [e]; decide) h)
      refine tv_iconst (v := (-1)) (pc := 34) dK_placeOfVariable_34 (by decide) ?_
      exact tv_iret (pc := 35) dK_placeOfVariable_35 rfl (Nat.le_refl _) (Nat.le_refl _) ⟨by rw [← he]; rfl, rfl⟩
    | succ d ih =>
      intro i hd he
      unfold sk_pf at he
      refine tv_iload_n (pc := 2) dK_placeOfVariable_2 (by rfl) ?_
      refine tv_bipush (v := 6) (pc := 3) dK_placeOfVariable_3 (by decide) ?_
      refine tv_icmp_gt (pc := 5) 34 dK_placeOfVariable_5 (by decide) (fun h => absurd h (by rw [show (6 : Int32) = nI 6 from rfl]; exact nI_nlt (by omega) (by omega))) (fun _ => ?_)
      refine tv_aload_n (pc := 8) dK_placeOfVariable_8 (by rfl) ?_
      refine tv_getR (pc := 9) 0 tb_24 (by rfl) uwK_ (by decide) wm_80 (by rfl) dK_placeOfVariable_9 ?_
      refine tv_bipush (v := 6) (pc := 12) dK_placeOfVariable_12 (by decide) ?_
      refine tv_iload_n (pc := 14) dK_placeOfVariable_14 (by rfl) ?_
      refine tv_iadd (pc := 15) dK_placeOfVariable_15 ?_
      refine tv_aald (pc := 16) tb_25 h9 dK_placeOfVariable_16 ?_
      refine tv_iload_n (pc := 17) dK_placeOfVariable_17 (by rfl) ?_
      refine tv_iald (pc := 18) (rows_26 _ h9.2.2) hq dK_placeOfVariable_18 ?_
      refine tv_iload_n (pc := 19) dK_placeOfVariable_19 (by rfl) ?_
      refine tv_ishr (pc := 20) dK_placeOfVariable_20 ?_
      refine tv_iconst (v := 1) (pc := 21) dK_placeOfVariable_21 (by decide) ?_
      refine tv_iand (pc := 22) dK_placeOfVariable_22 ?_
      refine tv_if_eq (pc := 23) 28 dK_placeOfVariable_23 (by decide) (fun h23 => ?_) (fun h23 => ?_)
      · skip
        refine tv_iinc3 (v := 1) (pc := 28) dK_placeOfVariable_28 (by decide) (by rfl) ?_
        refine tv_goto (pc := 31) 2 dK_placeOfVariable_31 (by decide) ?_
        rw [if_pos (by assumption)] at he
        have ih := ih (i + 1) (by omega) he
        rw [← nI_1] at ih
        exact ih
      · skip
        refine tv_iload_n (pc := 26) dK_placeOfVariable_26 (by rfl) ?_
        exact tv_iret (pc := 27) dK_placeOfVariable_27 rfl (Nat.le_refl _) (Nat.le_refl _) ⟨by rw [← he, if_neg (by assumption)], rfl⟩
  refine tv_iconst (v := 0) (pc := 0) dK_placeOfVariable_0 (by decide) ?_
  refine tv_istore3 (pc := 1) dK_placeOfVariable_1 (by rfl) ?_
  exact loop 7 0 (by omega) hw.symm
set_option maxRecDepth 100000 in
set_option maxHeartbeats 4000000 in
theorem c_K_put (l : Launch) (G : tc_G) (u : tc_S) {pt : Nat} (hp : tc_ix (nI pt) 17 pt) : tc_C tcx G l yK_put wK_put r0K_put 0 0 [.ref (tc_ad G 24), .int (nI pt)] u (tc_Kv (tc_col (tc_col u 26 pt (fun r => u 45 r) 9) 36 pt (fun r => u 46 r) 9)) := by
  refine tw_ofV (own := "TracedCode$Carriers") [some (.ref (tc_ad G 24)), some (.int (nI pt)), none] (by decide +kernel) rfl (Nat.le_of_ble_eq_true rfl) (by rfl) (fun p e s m args below meth c => ?_)
  have loop : tc_V tcx G p l e r0K_put s m args below meth c bK_put 3 tw "TracedCode$Carriers" none [] (MQ below (tc_Qc tcx G (tc_Kv (tc_col (tc_col u 26 pt (fun r => u 45 r) 9) 36 pt (fun r => u 46 r) 9)) s.heap.size) args s 0 0 (tc_A tcx G s.heap.size)) 0 0 (tc_col (tc_col u 26 pt (fun r => u 45 r) 0) 36 pt (fun r => u 46 r) 0) 2 [some (.ref (tc_ad G 24)), some (.int (nI pt)), some (.int (nI 0))] [] := by
    refine tv_down (P := fun i => tc_V tcx G p l e r0K_put s m args below meth c bK_put 3 tw "TracedCode$Carriers" none [] (MQ below (tc_Qc tcx G (tc_Kv (tc_col (tc_col u 26 pt (fun r => u 45 r) 9) 36 pt (fun r => u 46 r) 9)) s.heap.size) args s 0 0 (tc_A tcx G s.heap.size)) 0 0 (tc_col (tc_col u 26 pt (fun r => u 45 r) i) 36 pt (fun r => u 46 r) i) 2 [some (.ref (tc_ad G 24)), some (.int (nI pt)), some (.int (nI i))] []) 9 ?_ ?_
    · skip
      refine tv_iload_n (pc := 2) dK_put_2 (by rfl) ?_
      refine tv_bipush (v := 9) (pc := 3) dK_put_3 (by decide) ?_
      refine tv_icmp_ge (pc := 5) 42 dK_put_5 (by decide) (fun _ => ?_) (fun h => absurd (by decide) h)
      exact tv_vret (pc := 42) dK_put_42 rfl (Nat.le_refl _) (Nat.le_refl _) ⟨rfl, rfl⟩
    · intro i hiN ih
      have hi9 : tc_ix (nI i) 9 i := tc_ixN hiN (by decide)
      have e1 : tc_up (tc_col (tc_col u 26 pt (fun r => u 45 r) i) 36 pt (fun r => u 46 r) i) (26 + i) pt (u 45 i) = tc_col (tc_col u 26 pt (fun r => u 45 r) (i + 1)) 36 pt (fun r => u 46 r) i := by
        rw [tc_col_upc (by omega), tc_col_s (f := fun r => u 45 r)]
      rw [← tc_col_s (i := i) (b := 36) (f := fun r => u 46 r), ← nI_1] at ih
      refine tv_iload_n (pc := 2) dK_put_2 (by rfl) ?_
      refine tv_bipush (v := 9) (pc := 3) dK_put_3 (by decide) ?_
      refine tv_icmp_ge (pc := 5) 42 dK_put_5 (by decide) (fun h => absurd h (nI_lt9 hiN)) (fun _ => ?_)
      refine tv_aload_n (pc := 8) dK_put_8 (by rfl) ?_
      refine tv_getR (pc := 9) 0 tb_24 (by rfl) uwK_ (by decide) wm_80 (by rfl) dK_put_9 ?_
      refine tv_iload_n (pc := 12) dK_put_12 (by rfl) ?_
      refine tv_aald (pc := 13) tb_25 hi9 dK_put_13 ?_
      refine tv_iload_n (pc := 14) dK_put_14 (by rfl) ?_
      refine tv_aload_n (pc := 15) dK_put_15 (by rfl) ?_
      refine tv_getR (pc := 16) 2 tb_24 (by rfl) uwK_ (by decide) wm_82 (by rfl) dK_put_16 ?_
      refine tv_iload_n (pc := 19) dK_put_19 (by rfl) ?_
      refine tv_iald (pc := 20) tb_45 hi9 dK_put_20 ?_
      refine tv_iast (pc := 21) (rows_26 _ hi9.2.2) hp dK_put_21 ?_
      rw [tc_col_out (q := 45) (by omega), tc_col_out (q := 45) (by omega), e1]
      refine tv_aload_n (pc := 22) dK_put_22 (by rfl) ?_
      refine tv_getR (pc := 23) 1 tb_24 (by rfl) uwK_ (by decide) wm_81 (by rfl) dK_put_23 ?_
      refine tv_iload_n (pc := 26) dK_put_26 (by rfl) ?_
      refine tv_aald (pc := 27) tb_35 hi9 dK_put_27 ?_
      refine tv_iload_n (pc := 28) dK_put_28 (by rfl) ?_
      refine tv_aload_n (pc := 29) dK_put_29 (by rfl) ?_
      refine tv_getR (pc := 30) 3 tb_24 (by rfl) uwK_ (by decide) wm_83 (by rfl) dK_put_30 ?_
      refine tv_iload_n (pc := 33) dK_put_33 (by rfl) ?_
      refine tv_iald (pc := 34) tb_46 hi9 dK_put_34 ?_
      refine tv_iast (pc := 35) (rows_36 _ hi9.2.2) hp dK_put_35 ?_
      refine tv_iinc2 (v := 1) (pc := 36) dK_put_36 (by decide) (by rfl) ?_
      refine tv_goto (pc := 39) 2 dK_put_39 (by decide) ?_
      rw [tc_col_out (q := 46) (by omega), tc_col_out (q := 46) (by omega)]
      exact ih
  rw [tc_col_0, tc_col_0] at loop
  refine tv_iconst (v := 0) (pc := 0) dK_put_0 (by decide) ?_
  refine tv_istore2 (pc := 1) dK_put_1 (by rfl) ?_
  exact loop
def sk_n (u : tc_S) (pt r : Nat) : Int32 := if u (36 + r) pt = u 46 r then u (26 + r) pt &&& u 45 r else (u (26 + r) pt &&& u 45 r) &&& (-65)
def sk_q (u : tc_S) (pt r : Nat) : Prop := ¬ sk_n u pt r = u (26 + r) pt
set_option maxRecDepth 100000 in
set_option maxHeartbeats 4000000 in
theorem c_K_narrow (l : Launch) (G : tc_G) (u : tc_S) {pt : Nat} (hp : tc_ix (nI pt) 17 pt) : tc_C tcx G l yK_narrow wK_narrow r0K_narrow 0 0 [.ref (tc_ad G 24), .int (nI pt)] u (tc_Ki (tp_b (∃ r, r < 9 ∧ sk_q u pt r)) (tc_col u 26 pt (sk_n u pt) 9)) := by
  refine tw_ofV (own := "TracedCode$Carriers") [some (.ref (tc_ad G 24)), some (.int (nI pt)), none, none, none] (by decide +kernel) rfl (Nat.le_of_ble_eq_true rfl) (by rfl) (fun p e s m args below meth c => ?_)
  have loop : ∀ z : Option Value, tc_V tcx G p l e r0K_narrow s m args below meth c bK_narrow 5 tw "TracedCode$Carriers" (some .boolean) [] (MQ below (tc_Qc tcx G (tc_Ki (tp_b (∃ r, r < 9 ∧ sk_q u pt r)) (tc_col u 26 pt (sk_n u pt) 9)) s.heap.size) args s 0 0 (tc_A tcx G s.heap.size)) 0 0 (tc_col u 26 pt (sk_n u pt) 0) 4 [some (.ref (tc_ad G 24)), some (.int (nI pt)), some (.int (tp_b (∃ r, r < 0 ∧ sk_q u pt r))), some (.int (nI 0)), z] [] := by
    refine tv_down (P := fun i => ∀ z : Option Value, tc_V tcx G p l e r0K_narrow s m args below meth c bK_narrow 5 tw "TracedCode$Carriers" (some .boolean) [] (MQ below (tc_Qc tcx G (tc_Ki (tp_b (∃ r, r < 9 ∧ sk_q u pt r)) (tc_col u 26 pt (sk_n u pt) 9)) s.heap.size) args s 0 0 (tc_A tcx G s.heap.size)) 0 0 (tc_col u 26 pt (sk_n u pt) i) 4 [some (.ref (tc_ad G 24)), some (.int (nI pt)), some (.int (tp_b (∃ r, r < i ∧ sk_q u pt r))), some (.int (nI i)), z] []) 9 ?_ ?_
    · intro z
      refine tv_iload_n (pc := 4) dK_narrow_4 (by rfl) ?_
      refine tv_bipush (v := 9) (pc := 5) dK_narrow_5 (by decide) ?_
      refine tv_icmp_ge (pc := 7) 88 dK_narrow_7 (by decide) (fun _ => ?_) (fun h => absurd (by decide) h)
      refine tv_iload_n (pc := 88) dK_narrow_88 (by rfl) ?_
      exact tv_zret (pc := 89) dK_narrow_89 rfl (Nat.le_refl _) (Nat.le_refl _) tp_b_z ⟨rfl, rfl⟩
    · intro i hiN ih z
      have hi9 : tc_ix (nI i) 9 i := tc_ixN hiN (by decide)
      have g1 : ∀ q, 26 + i ≤ q → tc_col u 26 pt (sk_n u pt) i q = u q := fun q hq => tc_col_out (by omega)
      rw [← tc_col_s (i := i), ← nI_1] at ih
      refine tv_iload_n (pc := 4) dK_narrow_4 (by rfl) ?_
      refine tv_bipush (v := 9) (pc := 5) dK_narrow_5 (by decide) ?_
      refine tv_icmp_ge (pc := 7) 88 dK_narrow_7 (by decide) (fun h => absurd h (nI_lt9 hiN)) (fun _ => ?_)
      refine tv_aload_n (pc := 10) dK_narrow_10 (by rfl) ?_
      refine tv_getR (pc := 11) 0 tb_24 (by rfl) uwK_ (by decide) wm_80 (by rfl) dK_narrow_11 ?_
      refine tv_iload_n (pc := 14) dK_narrow_14 (by rfl) ?_
      refine tv_aald (pc := 15) tb_25 hi9 dK_narrow_15 ?_
      refine tv_iload_n (pc := 16) dK_narrow_16 (by rfl) ?_
      refine tv_iald (pc := 17) (rows_26 _ hi9.2.2) hp dK_narrow_17 ?_
      refine tv_aload_n (pc := 18) dK_narrow_18 (by rfl) ?_
      refine tv_getR (pc := 19) 2 tb_24 (by rfl) uwK_ (by decide) wm_82 (by rfl) dK_narrow_19 ?_
      refine tv_iload_n (pc := 22) dK_narrow_22 (by rfl) ?_
      refine tv_iald (pc := 23) tb_45 hi9 dK_narrow_23 ?_
      refine tv_iand (pc := 24) dK_narrow_24 ?_
      refine tv_istore4 (pc := 25) dK_narrow_25 (by rfl) ?_
      refine tv_aload_n (pc := 27) dK_narrow_27 (by rfl) ?_
      refine tv_getR (pc := 28) 1 tb_24 (by rfl) uwK_ (by decide) wm_81 (by rfl) dK_narrow_28 ?_
      refine tv_iload_n (pc := 31) dK_narrow_31 (by rfl) ?_
      refine tv_aald (pc := 32) tb_35 hi9 dK_narrow_32 ?_
      refine tv_iload_n (pc := 33) dK_narrow_33 (by rfl) ?_
      refine tv_iald (pc := 34) (rows_36 _ hi9.2.2) hp dK_narrow_34 ?_
      refine tv_aload_n (pc := 35) dK_narrow_35 (by rfl) ?_
      refine tv_getR (pc := 36) 3 tb_24 (by rfl) uwK_ (by decide) wm_83 (by rfl) dK_narrow_36 ?_
      refine tv_iload_n (pc := 39) dK_narrow_39 (by rfl) ?_
      refine tv_iald (pc := 40) tb_46 hi9 dK_narrow_40 ?_
      refine tv_icmp_eq (pc := 41) 51 dK_narrow_41 (by decide) (fun h41 => ?_) (fun h41 => ?_)
      · skip
        refine tv_iload_n (pc := 51) dK_narrow_51 (by rfl) ?_
        refine tv_iload (pc := 52) dK_narrow_52 (by rfl) ?_
        refine tv_aload_n (pc := 54) dK_narrow_54 (by rfl) ?_
        refine tv_getR (pc := 55) 0 tb_24 (by rfl) uwK_ (by decide) wm_80 (by rfl) dK_narrow_55 ?_
        refine tv_iload_n (pc := 58) dK_narrow_58 (by rfl) ?_
        refine tv_aald (pc := 59) tb_25 hi9 dK_narrow_59 ?_
        refine tv_iload_n (pc := 60) dK_narrow_60 (by rfl) ?_
        refine tv_iald (pc := 61) (rows_26 _ hi9.2.2) hp dK_narrow_61 ?_
        refine tv_icmp_eq (pc := 62) 69 dK_narrow_62 (by decide) (fun h62 => ?_) (fun h62 => ?_)
        · skip
          refine tv_iconst (v := 0) (pc := 69) dK_narrow_69 (by decide) ?_
          refine tv_ior (pc := 70) dK_narrow_70 ?_
          refine tv_istore2 (pc := 71) dK_narrow_71 (by rfl) ?_
          refine tv_aload_n (pc := 72) dK_narrow_72 (by rfl) ?_
          refine tv_getR (pc := 73) 0 tb_24 (by rfl) uwK_ (by decide) wm_80 (by rfl) dK_narrow_73 ?_
          refine tv_iload_n (pc := 76) dK_narrow_76 (by rfl) ?_
          refine tv_aald (pc := 77) tb_25 hi9 dK_narrow_77 ?_
          refine tv_iload_n (pc := 78) dK_narrow_78 (by rfl) ?_
          refine tv_iload (pc := 79) dK_narrow_79 (by rfl) ?_
          refine tv_iast (pc := 81) (rows_26 _ hi9.2.2) hp dK_narrow_81 ?_
          refine tv_iinc3 (v := 1) (pc := 82) dK_narrow_82 (by decide) (by rfl) ?_
          refine tv_goto (pc := 85) 4 dK_narrow_85 (by decide) ?_
          simp only [g1 (26 + i) (by omega), g1 45 (by omega), g1 (36 + i) (by omega), g1 46 (by omega)] at *
          first
          | (have e : sk_n u pt i = u (26 + i) pt &&& u 45 i := by unfold sk_n; rw [if_pos (by assumption)]
             have hc : ¬ sk_q u pt i := fun q => q (by rw [e]; assumption)
             rw [tp_b_ns hc, e] at ih
             rw [tp_b_or0]
             exact ih _)
          | (have e : sk_n u pt i = (u (26 + i) pt &&& u 45 i) &&& (-65) := by unfold sk_n; rw [if_neg (by assumption)]
             have hc : ¬ sk_q u pt i := fun q => q (by rw [e]; assumption)
             rw [tp_b_ns hc, e] at ih
             rw [tp_b_or0]
             exact ih _)
          | (have e : sk_n u pt i = u (26 + i) pt &&& u 45 i := by unfold sk_n; rw [if_pos (by assumption)]
             have hc : sk_q u pt i := fun q => by rw [e] at q; contradiction
             rw [tp_b_ex hc, e] at ih
             rw [tp_b_or1]
             exact ih _)
          | (have e : sk_n u pt i = (u (26 + i) pt &&& u 45 i) &&& (-65) := by unfold sk_n; rw [if_neg (by assumption)]
             have hc : sk_q u pt i := fun q => by rw [e] at q; contradiction
             rw [tp_b_ex hc, e] at ih
             rw [tp_b_or1]
             exact ih _)
        · skip
          refine tv_iconst (v := 1) (pc := 65) dK_narrow_65 (by decide) ?_
          refine tv_goto (pc := 66) 70 dK_narrow_66 (by decide) ?_
          refine tv_ior (pc := 70) dK_narrow_70 ?_
          refine tv_istore2 (pc := 71) dK_narrow_71 (by rfl) ?_
          refine tv_aload_n (pc := 72) dK_narrow_72 (by rfl) ?_
          refine tv_getR (pc := 73) 0 tb_24 (by rfl) uwK_ (by decide) wm_80 (by rfl) dK_narrow_73 ?_
          refine tv_iload_n (pc := 76) dK_narrow_76 (by rfl) ?_
          refine tv_aald (pc := 77) tb_25 hi9 dK_narrow_77 ?_
          refine tv_iload_n (pc := 78) dK_narrow_78 (by rfl) ?_
          refine tv_iload (pc := 79) dK_narrow_79 (by rfl) ?_
          refine tv_iast (pc := 81) (rows_26 _ hi9.2.2) hp dK_narrow_81 ?_
          refine tv_iinc3 (v := 1) (pc := 82) dK_narrow_82 (by decide) (by rfl) ?_
          refine tv_goto (pc := 85) 4 dK_narrow_85 (by decide) ?_
          simp only [g1 (26 + i) (by omega), g1 45 (by omega), g1 (36 + i) (by omega), g1 46 (by omega)] at *
          first
          | (have e : sk_n u pt i = u (26 + i) pt &&& u 45 i := by unfold sk_n; rw [if_pos (by assumption)]
             have hc : ¬ sk_q u pt i := fun q => q (by rw [e]; assumption)
             rw [tp_b_ns hc, e] at ih
             rw [tp_b_or0]
             exact ih _)
          | (have e : sk_n u pt i = (u (26 + i) pt &&& u 45 i) &&& (-65) := by unfold sk_n; rw [if_neg (by assumption)]
             have hc : ¬ sk_q u pt i := fun q => q (by rw [e]; assumption)
             rw [tp_b_ns hc, e] at ih
             rw [tp_b_or0]
             exact ih _)
          | (have e : sk_n u pt i = u (26 + i) pt &&& u 45 i := by unfold sk_n; rw [if_pos (by assumption)]
             have hc : sk_q u pt i := fun q => by rw [e] at q; contradiction
             rw [tp_b_ex hc, e] at ih
             rw [tp_b_or1]
             exact ih _)
          | (have e : sk_n u pt i = (u (26 + i) pt &&& u 45 i) &&& (-65) := by unfold sk_n; rw [if_neg (by assumption)]
             have hc : sk_q u pt i := fun q => by rw [e] at q; contradiction
             rw [tp_b_ex hc, e] at ih
             rw [tp_b_or1]
             exact ih _)
      · skip
        refine tv_iload (pc := 44) dK_narrow_44 (by rfl) ?_
        refine tv_bipush (v := (-65)) (pc := 46) dK_narrow_46 (by decide) ?_
        refine tv_iand (pc := 48) dK_narrow_48 ?_
        refine tv_istore4 (pc := 49) dK_narrow_49 (by rfl) ?_
        refine tv_iload_n (pc := 51) dK_narrow_51 (by rfl) ?_
        refine tv_iload (pc := 52) dK_narrow_52 (by rfl) ?_
        refine tv_aload_n (pc := 54) dK_narrow_54 (by rfl) ?_
        refine tv_getR (pc := 55) 0 tb_24 (by rfl) uwK_ (by decide) wm_80 (by rfl) dK_narrow_55 ?_
        refine tv_iload_n (pc := 58) dK_narrow_58 (by rfl) ?_
        refine tv_aald (pc := 59) tb_25 hi9 dK_narrow_59 ?_
        refine tv_iload_n (pc := 60) dK_narrow_60 (by rfl) ?_
        refine tv_iald (pc := 61) (rows_26 _ hi9.2.2) hp dK_narrow_61 ?_
        refine tv_icmp_eq (pc := 62) 69 dK_narrow_62 (by decide) (fun h62 => ?_) (fun h62 => ?_)
        · skip
          refine tv_iconst (v := 0) (pc := 69) dK_narrow_69 (by decide) ?_
          refine tv_ior (pc := 70) dK_narrow_70 ?_
          refine tv_istore2 (pc := 71) dK_narrow_71 (by rfl) ?_
          refine tv_aload_n (pc := 72) dK_narrow_72 (by rfl) ?_
          refine tv_getR (pc := 73) 0 tb_24 (by rfl) uwK_ (by decide) wm_80 (by rfl) dK_narrow_73 ?_
          refine tv_iload_n (pc := 76) dK_narrow_76 (by rfl) ?_
          refine tv_aald (pc := 77) tb_25 hi9 dK_narrow_77 ?_
          refine tv_iload_n (pc := 78) dK_narrow_78 (by rfl) ?_
          refine tv_iload (pc := 79) dK_narrow_79 (by rfl) ?_
          refine tv_iast (pc := 81) (rows_26 _ hi9.2.2) hp dK_narrow_81 ?_
          refine tv_iinc3 (v := 1) (pc := 82) dK_narrow_82 (by decide) (by rfl) ?_
          refine tv_goto (pc := 85) 4 dK_narrow_85 (by decide) ?_
          simp only [g1 (26 + i) (by omega), g1 45 (by omega), g1 (36 + i) (by omega), g1 46 (by omega)] at *
          first
          | (have e : sk_n u pt i = u (26 + i) pt &&& u 45 i := by unfold sk_n; rw [if_pos (by assumption)]
             have hc : ¬ sk_q u pt i := fun q => q (by rw [e]; assumption)
             rw [tp_b_ns hc, e] at ih
             rw [tp_b_or0]
             exact ih _)
          | (have e : sk_n u pt i = (u (26 + i) pt &&& u 45 i) &&& (-65) := by unfold sk_n; rw [if_neg (by assumption)]
             have hc : ¬ sk_q u pt i := fun q => q (by rw [e]; assumption)
             rw [tp_b_ns hc, e] at ih
             rw [tp_b_or0]
             exact ih _)
          | (have e : sk_n u pt i = u (26 + i) pt &&& u 45 i := by unfold sk_n; rw [if_pos (by assumption)]
             have hc : sk_q u pt i := fun q => by rw [e] at q; contradiction
             rw [tp_b_ex hc, e] at ih
             rw [tp_b_or1]
             exact ih _)
          | (have e : sk_n u pt i = (u (26 + i) pt &&& u 45 i) &&& (-65) := by unfold sk_n; rw [if_neg (by assumption)]
             have hc : sk_q u pt i := fun q => by rw [e] at q; contradiction
             rw [tp_b_ex hc, e] at ih
             rw [tp_b_or1]
             exact ih _)
        · skip
          refine tv_iconst (v := 1) (pc := 65) dK_narrow_65 (by decide) ?_
          refine tv_goto (pc := 66) 70 dK_narrow_66 (by decide) ?_
          refine tv_ior (pc := 70) dK_narrow_70 ?_
          refine tv_istore2 (pc := 71) dK_narrow_71 (by rfl) ?_
          refine tv_aload_n (pc := 72) dK_narrow_72 (by rfl) ?_
          refine tv_getR (pc := 73) 0 tb_24 (by rfl) uwK_ (by decide) wm_80 (by rfl) dK_narrow_73 ?_
          refine tv_iload_n (pc := 76) dK_narrow_76 (by rfl) ?_
          refine tv_aald (pc := 77) tb_25 hi9 dK_narrow_77 ?_
          refine tv_iload_n (pc := 78) dK_narrow_78 (by rfl) ?_
          refine tv_iload (pc := 79) dK_narrow_79 (by rfl) ?_
          refine tv_iast (pc := 81) (rows_26 _ hi9.2.2) hp dK_narrow_81 ?_
          refine tv_iinc3 (v := 1) (pc := 82) dK_narrow_82 (by decide) (by rfl) ?_
          refine tv_goto (pc := 85) 4 dK_narrow_85 (by decide) ?_
          simp only [g1 (26 + i) (by omega), g1 45 (by omega), g1 (36 + i) (by omega), g1 46 (by omega)] at *
          first
          | (have e : sk_n u pt i = u (26 + i) pt &&& u 45 i := by unfold sk_n; rw [if_pos (by assumption)]
             have hc : ¬ sk_q u pt i := fun q => q (by rw [e]; assumption)
             rw [tp_b_ns hc, e] at ih
             rw [tp_b_or0]
             exact ih _)
          | (have e : sk_n u pt i = (u (26 + i) pt &&& u 45 i) &&& (-65) := by unfold sk_n; rw [if_neg (by assumption)]
             have hc : ¬ sk_q u pt i := fun q => q (by rw [e]; assumption)
             rw [tp_b_ns hc, e] at ih
             rw [tp_b_or0]
             exact ih _)
          | (have e : sk_n u pt i = u (26 + i) pt &&& u 45 i := by unfold sk_n; rw [if_pos (by assumption)]
             have hc : sk_q u pt i := fun q => by rw [e] at q; contradiction
             rw [tp_b_ex hc, e] at ih
             rw [tp_b_or1]
             exact ih _)
          | (have e : sk_n u pt i = (u (26 + i) pt &&& u 45 i) &&& (-65) := by unfold sk_n; rw [if_neg (by assumption)]
             have hc : sk_q u pt i := fun q => by rw [e] at q; contradiction
             rw [tp_b_ex hc, e] at ih
             rw [tp_b_or1]
             exact ih _)
  rw [tc_col_0, tp_b_0] at loop
  refine tv_iconst (v := 0) (pc := 0) dK_narrow_0 (by decide) ?_
  refine tv_istore2 (pc := 1) dK_narrow_1 (by rfl) ?_
  refine tv_iconst (v := 0) (pc := 2) dK_narrow_2 (by decide) ?_
  refine tv_istore3 (pc := 3) dK_narrow_3 (by rfl) ?_
  exact loop none
