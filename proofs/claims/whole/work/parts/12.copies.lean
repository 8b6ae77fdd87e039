set_option maxRecDepth 100000 in
set_option maxHeartbeats 4000000 in
theorem c_P_origin (l : Launch) (G : tc_G) (u : tc_S) {line : Int32} {i : Nat} (hi : tc_ix line 17 i) {x : Int32} {r : Nat} (hr : tc_ix x 6 r) : tc_C tcx G l yP_origin wP_origin r0P_origin 0 0 [.ref (tc_ad G 14), .int line, .int x] u (tc_Ki (u (16 + r) i) u) := by
  refine tw_ofV (own := "TracedCode$Copies") [some (.ref (tc_ad G 14)), some (.int line), some (.int x)] (by decide +kernel) rfl (Nat.le_of_ble_eq_true rfl) (by rfl) (fun p e s m args below meth c => ?_)
  refine tv_aload_n (pc := 0) dP_origin_0 (by rfl) ?_
  refine tv_getR (pc := 1) 0 tb_14 (by rfl) uwP_ (by decide) wm_59 (by rfl) dP_origin_1 ?_
  refine tv_iload_n (pc := 4) dP_origin_4 (by rfl) ?_
  refine tv_aald (pc := 5) tb_15 hr dP_origin_5 ?_
  refine tv_iload_n (pc := 6) dP_origin_6 (by rfl) ?_
  refine tv_iald (pc := 7) (rows_16 _ hr.2.2) hi dP_origin_7 ?_
  exact tv_iret (pc := 8) dP_origin_8 rfl (Nat.le_refl _) (Nat.le_refl _) ⟨rfl, rfl⟩
set_option maxRecDepth 100000 in
set_option maxHeartbeats 4000000 in
theorem c_P_put (l : Launch) (G : tc_G) (u : tc_S) {pt : Nat} (hp : tc_ix (nI pt) 17 pt) : tc_C tcx G l yP_put wP_put r0P_put 0 0 [.ref (tc_ad G 14), .int (nI pt)] u (tc_Kv (tc_col u 16 pt (fun r => u 22 r) 6)) := by
  refine tw_ofV (own := "TracedCode$Copies") [some (.ref (tc_ad G 14)), some (.int (nI pt)), none] (by decide +kernel) rfl (Nat.le_of_ble_eq_true rfl) (by rfl) (fun p e s m args below meth c => ?_)
  have loop : tc_V tcx G p l e r0P_put s m args below meth c bP_put 3 tw "TracedCode$Copies" none [] (MQ below (tc_Qc tcx G (tc_Kv (tc_col u 16 pt (fun r => u 22 r) 6)) s.heap.size) args s 0 0 (tc_A tcx G s.heap.size)) 0 0 (tc_col u 16 pt (fun r => u 22 r) 0) 2 [some (.ref (tc_ad G 14)), some (.int (nI pt)), some (.int (nI 0))] [] := by
    refine tv_down (P := fun i => tc_V tcx G p l e r0P_put s m args below meth c bP_put 3 tw "TracedCode$Copies" none [] (MQ below (tc_Qc tcx G (tc_Kv (tc_col u 16 pt (fun r => u 22 r) 6)) s.heap.size) args s 0 0 (tc_A tcx G s.heap.size)) 0 0 (tc_col u 16 pt (fun r => u 22 r) i) 2 [some (.ref (tc_ad G 14)), some (.int (nI pt)), some (.int (nI i))] []) 6 ?_ ?_
    · skip
      refine tv_iload_n (pc := 2) dP_put_2 (by rfl) ?_
      refine tv_bipush (v := 6) (pc := 3) dP_put_3 (by decide) ?_
      refine tv_icmp_ge (pc := 5) 28 dP_put_5 (by decide) (fun _ => ?_) (fun h => absurd (by decide) h)
      exact tv_vret (pc := 28) dP_put_28 rfl (Nat.le_refl _) (Nat.le_refl _) ⟨rfl, rfl⟩
    · intro i hiN ih
      have hi6 : tc_ix (nI i) 6 i := tc_ixN hiN (by decide)
      refine tv_iload_n (pc := 2) dP_put_2 (by rfl) ?_
      refine tv_bipush (v := 6) (pc := 3) dP_put_3 (by decide) ?_
      refine tv_icmp_ge (pc := 5) 28 dP_put_5 (by decide) (fun h => absurd h (nI_lt6 hiN)) (fun _ => ?_)
      refine tv_aload_n (pc := 8) dP_put_8 (by rfl) ?_
      refine tv_getR (pc := 9) 0 tb_14 (by rfl) uwP_ (by decide) wm_59 (by rfl) dP_put_9 ?_
      refine tv_iload_n (pc := 12) dP_put_12 (by rfl) ?_
      refine tv_aald (pc := 13) tb_15 hi6 dP_put_13 ?_
      refine tv_iload_n (pc := 14) dP_put_14 (by rfl) ?_
      refine tv_aload_n (pc := 15) dP_put_15 (by rfl) ?_
      refine tv_getR (pc := 16) 1 tb_14 (by rfl) uwP_ (by decide) wm_60 (by rfl) dP_put_16 ?_
      refine tv_iload_n (pc := 19) dP_put_19 (by rfl) ?_
      refine tv_iald (pc := 20) tb_22 hi6 dP_put_20 ?_
      refine tv_iast (pc := 21) (rows_16 _ hi6.2.2) hp dP_put_21 ?_
      refine tv_iinc2 (v := 1) (pc := 22) dP_put_22 (by decide) (by rfl) ?_
      refine tv_goto (pc := 25) 2 dP_put_25 (by decide) ?_
      rw [tc_col_out (q := 22) (by omega), tc_col_s (i := i) (f := fun r => u 22 r)]
      rw [← nI_1] at ih
      exact ih
  rw [tc_col_0] at loop
  refine tv_iconst (v := 0) (pc := 0) dP_put_0 (by decide) ?_
  refine tv_istore2 (pc := 1) dP_put_1 (by rfl) ?_
  exact loop
/-- what the narrowing of a point takes away -/
def tc_pn (u : tc_S) (pt r : Nat) : Prop := ¬ u (16 + r) pt = -1 ∧ ¬ u (16 + r) pt = u 22 r
noncomputable def tc_pf (u : tc_S) (pt r : Nat) : Int32 := @ite _ (tc_pn u pt r) (Classical.propDecidable _) (-1) (u (16 + r) pt)
set_option maxRecDepth 100000 in
set_option maxHeartbeats 4000000 in
theorem c_P_narrow (l : Launch) (G : tc_G) (u : tc_S) {pt : Nat} (hp : tc_ix (nI pt) 17 pt) : tc_C tcx G l yP_narrow wP_narrow r0P_narrow 0 0 [.ref (tc_ad G 14), .int (nI pt)] u (tc_Ki (tp_b (∃ r, r < 6 ∧ tc_pn u pt r)) (tc_col u 16 pt (tc_pf u pt) 6)) := by
  refine tw_ofV (own := "TracedCode$Copies") [some (.ref (tc_ad G 14)), some (.int (nI pt)), none, none] (by decide +kernel) rfl (Nat.le_of_ble_eq_true rfl) (by rfl) (fun p e s m args below meth c => ?_)
  have loop : tc_V tcx G p l e r0P_narrow s m args below meth c bP_narrow 4 tw "TracedCode$Copies" (some .boolean) [] (MQ below (tc_Qc tcx G (tc_Ki (tp_b (∃ r, r < 6 ∧ tc_pn u pt r)) (tc_col u 16 pt (tc_pf u pt) 6)) s.heap.size) args s 0 0 (tc_A tcx G s.heap.size)) 0 0 (tc_col u 16 pt (tc_pf u pt) 0) 4 [some (.ref (tc_ad G 14)), some (.int (nI pt)), some (.int (tp_b (∃ r, r < 0 ∧ tc_pn u pt r))), some (.int (nI 0))] [] := by
    refine tv_down (P := fun i => tc_V tcx G p l e r0P_narrow s m args below meth c bP_narrow 4 tw "TracedCode$Copies" (some .boolean) [] (MQ below (tc_Qc tcx G (tc_Ki (tp_b (∃ r, r < 6 ∧ tc_pn u pt r)) (tc_col u 16 pt (tc_pf u pt) 6)) s.heap.size) args s 0 0 (tc_A tcx G s.heap.size)) 0 0 (tc_col u 16 pt (tc_pf u pt) i) 4 [some (.ref (tc_ad G 14)), some (.int (nI pt)), some (.int (tp_b (∃ r, r < i ∧ tc_pn u pt r))), some (.int (nI i))] []) 6 ?_ ?_
    · skip
      refine tv_iload_n (pc := 4) dP_narrow_4 (by rfl) ?_
      refine tv_bipush (v := 6) (pc := 5) dP_narrow_5 (by decide) ?_
      refine tv_icmp_ge (pc := 7) 56 dP_narrow_7 (by decide) (fun _ => ?_) (fun h => absurd (by decide) h)
      refine tv_iload_n (pc := 56) dP_narrow_56 (by rfl) ?_
      exact tv_zret (pc := 57) dP_narrow_57 rfl (Nat.le_refl _) (Nat.le_refl _) tp_b_z ⟨rfl, rfl⟩
    · intro i hiN ih
      have hi6 : tc_ix (nI i) 6 i := tc_ixN hiN (by decide)
      refine tv_iload_n (pc := 4) dP_narrow_4 (by rfl) ?_
      refine tv_bipush (v := 6) (pc := 5) dP_narrow_5 (by decide) ?_
      refine tv_icmp_ge (pc := 7) 56 dP_narrow_7 (by decide) (fun h => absurd h (nI_lt6 hiN)) (fun _ => ?_)
      refine tv_aload_n (pc := 10) dP_narrow_10 (by rfl) ?_
      refine tv_getR (pc := 11) 0 tb_14 (by rfl) uwP_ (by decide) wm_59 (by rfl) dP_narrow_11 ?_
      refine tv_iload_n (pc := 14) dP_narrow_14 (by rfl) ?_
      refine tv_aald (pc := 15) tb_15 hi6 dP_narrow_15 ?_
      refine tv_iload_n (pc := 16) dP_narrow_16 (by rfl) ?_
      refine tv_iald (pc := 17) (rows_16 _ hi6.2.2) hp dP_narrow_17 ?_
      refine tv_iconst (v := (-1)) (pc := 18) dP_narrow_18 (by decide) ?_
      refine tv_icmp_eq (pc := 19) 50 dP_narrow_19 (by decide) (fun h19 => ?_) (fun h19 => ?_)
      · skip
        refine tv_iinc3 (v := 1) (pc := 50) dP_narrow_50 (by decide) (by rfl) ?_
        refine tv_goto (pc := 53) 4 dP_narrow_53 (by decide) ?_
        first
        | (have hc : tc_pn u pt i := by
             refine ⟨?_, ?_⟩
             · have q : ¬ tc_col u 16 pt (tc_pf u pt) i (16 + i) pt = -1 := by assumption
               rw [tc_col_out (by omega)] at q; exact q
             · have q : ¬ tc_col u 16 pt (tc_pf u pt) i (16 + i) pt = tc_col u 16 pt (tc_pf u pt) i 22 i := by assumption
               rw [tc_col_out (by omega), tc_col_out (by omega)] at q; exact q
           rw [tp_b_ex hc, ← nI_1, ← tc_col_s (i := i), show tc_pf u pt i = -1 from by unfold tc_pf; rw [if_pos hc]] at ih
           exact ih)
        | (have hc : ¬ tc_pn u pt i := by
             rintro ⟨q1, q2⟩
             first
             | (have q : tc_col u 16 pt (tc_pf u pt) i (16 + i) pt = -1 := by assumption
                rw [tc_col_out (by omega)] at q; exact q1 q)
             | (have q : tc_col u 16 pt (tc_pf u pt) i (16 + i) pt = tc_col u 16 pt (tc_pf u pt) i 22 i := by assumption
                rw [tc_col_out (by omega), tc_col_out (by omega)] at q; exact q2 q)
           rw [tp_b_ns hc, ← nI_1, tc_col_same (i := i) (show u (16 + i) pt = tc_pf u pt i from by unfold tc_pf; rw [if_neg hc])] at ih
           exact ih)
      · skip
        refine tv_aload_n (pc := 22) dP_narrow_22 (by rfl) ?_
        refine tv_getR (pc := 23) 0 tb_14 (by rfl) uwP_ (by decide) wm_59 (by rfl) dP_narrow_23 ?_
        refine tv_iload_n (pc := 26) dP_narrow_26 (by rfl) ?_
        refine tv_aald (pc := 27) tb_15 hi6 dP_narrow_27 ?_
        refine tv_iload_n (pc := 28) dP_narrow_28 (by rfl) ?_
        refine tv_iald (pc := 29) (rows_16 _ hi6.2.2) hp dP_narrow_29 ?_
        refine tv_aload_n (pc := 30) dP_narrow_30 (by rfl) ?_
        refine tv_getR (pc := 31) 1 tb_14 (by rfl) uwP_ (by decide) wm_60 (by rfl) dP_narrow_31 ?_
        refine tv_iload_n (pc := 34) dP_narrow_34 (by rfl) ?_
        refine tv_iald (pc := 35) tb_22 hi6 dP_narrow_35 ?_
        refine tv_icmp_eq (pc := 36) 50 dP_narrow_36 (by decide) (fun h36 => ?_) (fun h36 => ?_)
        · skip
          refine tv_iinc3 (v := 1) (pc := 50) dP_narrow_50 (by decide) (by rfl) ?_
          refine tv_goto (pc := 53) 4 dP_narrow_53 (by decide) ?_
          first
          | (have hc : tc_pn u pt i := by
               refine ⟨?_, ?_⟩
               · have q : ¬ tc_col u 16 pt (tc_pf u pt) i (16 + i) pt = -1 := by assumption
                 rw [tc_col_out (by omega)] at q; exact q
               · have q : ¬ tc_col u 16 pt (tc_pf u pt) i (16 + i) pt = tc_col u 16 pt (tc_pf u pt) i 22 i := by assumption
                 rw [tc_col_out (by omega), tc_col_out (by omega)] at q; exact q
             rw [tp_b_ex hc, ← nI_1, ← tc_col_s (i := i), show tc_pf u pt i = -1 from by unfold tc_pf; rw [if_pos hc]] at ih
             exact ih)
          | (have hc : ¬ tc_pn u pt i := by
               rintro ⟨q1, q2⟩
               first
               | (have q : tc_col u 16 pt (tc_pf u pt) i (16 + i) pt = -1 := by assumption
                  rw [tc_col_out (by omega)] at q; exact q1 q)
               | (have q : tc_col u 16 pt (tc_pf u pt) i (16 + i) pt = tc_col u 16 pt (tc_pf u pt) i 22 i := by assumption
                  rw [tc_col_out (by omega), tc_col_out (by omega)] at q; exact q2 q)
             rw [tp_b_ns hc, ← nI_1, tc_col_same (i := i) (show u (16 + i) pt = tc_pf u pt i from by unfold tc_pf; rw [if_neg hc])] at ih
             exact ih)
        · skip
          refine tv_aload_n (pc := 39) dP_narrow_39 (by rfl) ?_
          refine tv_getR (pc := 40) 0 tb_14 (by rfl) uwP_ (by decide) wm_59 (by rfl) dP_narrow_40 ?_
          refine tv_iload_n (pc := 43) dP_narrow_43 (by rfl) ?_
          refine tv_aald (pc := 44) tb_15 hi6 dP_narrow_44 ?_
          refine tv_iload_n (pc := 45) dP_narrow_45 (by rfl) ?_
          refine tv_iconst (v := (-1)) (pc := 46) dP_narrow_46 (by decide) ?_
          refine tv_iast (pc := 47) (rows_16 _ hi6.2.2) hp dP_narrow_47 ?_
          refine tv_iconst (v := 1) (pc := 48) dP_narrow_48 (by decide) ?_
          refine tv_istore2 (pc := 49) dP_narrow_49 (by rfl) ?_
          refine tv_iinc3 (v := 1) (pc := 50) dP_narrow_50 (by decide) (by rfl) ?_
          refine tv_goto (pc := 53) 4 dP_narrow_53 (by decide) ?_
          first
          | (have hc : tc_pn u pt i := by
               refine ⟨?_, ?_⟩
               · have q : ¬ tc_col u 16 pt (tc_pf u pt) i (16 + i) pt = -1 := by assumption
                 rw [tc_col_out (by omega)] at q; exact q
               · have q : ¬ tc_col u 16 pt (tc_pf u pt) i (16 + i) pt = tc_col u 16 pt (tc_pf u pt) i 22 i := by assumption
                 rw [tc_col_out (by omega), tc_col_out (by omega)] at q; exact q
             rw [tp_b_ex hc, ← nI_1, ← tc_col_s (i := i), show tc_pf u pt i = -1 from by unfold tc_pf; rw [if_pos hc]] at ih
             exact ih)
          | (have hc : ¬ tc_pn u pt i := by
               rintro ⟨q1, q2⟩
               first
               | (have q : tc_col u 16 pt (tc_pf u pt) i (16 + i) pt = -1 := by assumption
                  rw [tc_col_out (by omega)] at q; exact q1 q)
               | (have q : tc_col u 16 pt (tc_pf u pt) i (16 + i) pt = tc_col u 16 pt (tc_pf u pt) i 22 i := by assumption
                  rw [tc_col_out (by omega), tc_col_out (by omega)] at q; exact q2 q)
             rw [tp_b_ns hc, ← nI_1, tc_col_same (i := i) (show u (16 + i) pt = tc_pf u pt i from by unfold tc_pf; rw [if_neg hc])] at ih
             exact ih)
  rw [tc_col_0, tp_b_0] at loop
  refine tv_iconst (v := 0) (pc := 0) dP_narrow_0 (by decide) ?_
  refine tv_istore2 (pc := 1) dP_narrow_1 (by rfl) ?_
  refine tv_iconst (v := 0) (pc := 2) dP_narrow_2 (by decide) ?_
  refine tv_istore3 (pc := 3) dP_narrow_3 (by rfl) ?_
  exact loop
/-- what holds of r behind a line, by what held before it -/
def tp_fb (P : tp_P) (i : Nat) (o : Nat → Int32) (r : Nat) : Int32 := if P 0 i = 1 ∧ ¬ P 2 i = P 1 i ∧ nI r = P 1 i then P 2 i else if nI r = tp_wI P i ∨ o r = tp_wI P i then -1 else o r
def tp_f0 (P : tp_P) (i : Nat) (o : Nat → Int32) (r : Nat) : Int32 := if nI r = tp_wI P i ∨ o r = tp_wI P i then -1 else o r
theorem tp_fb_n {P : tp_P} {i r : Nat} {o : Nat → Int32} (h : ¬ (P 0 i = 1 ∧ ¬ P 2 i = P 1 i ∧ nI r = P 1 i)) : tp_fb P i o r = tp_f0 P i o r := if_neg h
theorem tp_fb_y {P : tp_P} {i r : Nat} {o : Nat → Int32} (h : P 0 i = 1 ∧ ¬ P 2 i = P 1 i ∧ nI r = P 1 i) : tp_fb P i o r = P 2 i := if_pos h
theorem tc_row_congr {u : tc_S} {be N : Nat} {f g : Nat → Int32} (h : ∀ j, j < N → f j = g j) : tc_row u be f N = tc_row u be g N := by
  funext q
  unfold tc_row
  by_cases e : q = be
  · rw [if_pos e, if_pos e]
    funext j
    by_cases hj : j < N
    · rw [if_pos hj, if_pos hj, h j hj]
    · rw [if_neg hj, if_neg hj]
  · rw [if_neg e, if_neg e]
set_option maxRecDepth 100000 in
set_option maxHeartbeats 4000000 in
theorem c_P_follow (l : Launch) (G : tc_G) (u : tc_S) {k g b k2 : Nat} (hC : tcx_code k g b) (hb : b + 4 ≤ 13) {i : Nat} (hi : i < 16) (hl : tp_line (pv u b) i) : tc_C tcx G l yP_follow wP_follow r0P_follow 0 0 [.ref (tc_ad G 14), .ref (tc_ad G k2), .ref (tc_ad G k), .int (nI i)] u (tc_Kv (tc_row u 22 (tp_fb (pv u b) i (fun r => u (16 + r) i)) 6)) := by
  refine tw_ofV (own := "TracedCode$Copies") [some (.ref (tc_ad G 14)), some (.ref (tc_ad G k2)), some (.ref (tc_ad G k)), some (.int (nI i)), none, none, none] (by decide +kernel) rfl (Nat.le_of_ble_eq_true rfl) (by rfl) (fun p e s m args below meth c => ?_)
  have hi16 : tc_ix (nI i) 16 i := tc_ixN hi (by decide)
  have hi17 : tc_ix (nI i) 17 i := tc_ixN (by omega) (by decide)
  have fin : ∀ z : Option Value, tc_V tcx G p l e r0P_follow s m args below meth c bP_follow 7 tw "TracedCode$Copies" none [] (MQ below (tc_Qc tcx G (tc_Kv (tc_row u 22 (tp_fb (pv u b) i (fun r => u (16 + r) i)) 6)) s.heap.size) args s 0 0 (tc_A tcx G s.heap.size)) 0 0 (tc_row u 22 (tp_f0 (pv u b) i (fun r => u (16 + r) i)) 6) 10 [some (.ref (tc_ad G 14)), some (.ref (tc_ad G k2)), some (.ref (tc_ad G k)), some (.int (nI i)), some (.int (tp_wI (pv u b) i)), some (.int (nI 6)), z] [] := by
    intro z
    refine tv_iload (pc := 10) dP_follow_10 (by rfl) ?_
    refine tv_bipush (v := 6) (pc := 12) dP_follow_12 (by decide) ?_
    refine tv_icmp_ge (pc := 14) 61 dP_follow_14 (by decide) (fun _ => ?_) (fun h => absurd (by decide) h)
    refine tv_aload_n (pc := 61) dP_follow_61 (by rfl) ?_
    refine tv_iload_n (pc := 62) dP_follow_62 (by rfl) ?_
    refine tv_callVi (pc := 63) [_] hC.1 (by rfl) (c_C_kind l G _ hC hi16) (kVC_kind wm_225 ⟨by decide, by decide⟩) (by rfl) (Nat.le_of_ble_eq_true rfl) dP_follow_63 ⟨by decide, by decide⟩ ?_
    refine tv_iconst (v := 1) (pc := 66) dP_follow_66 (by decide) ?_
    refine tv_icmp_ne (pc := 67) 94 dP_follow_67 (by decide) (fun h67 => ?_) (fun h67 => ?_)
    · skip
      first
      | (rw [tc_row_ne (q := b + 2) (by omega), tc_row_up ha]
         exact tv_vret (pc := 94) dP_follow_94 rfl (Nat.le_refl _) (Nat.le_refl _) ⟨rfl, by
           refine tc_row_congr (fun r hr6 => ?_)
           by_cases e : r = a
           · rw [if_pos e, tp_fb_y ⟨h1, h2, by rw [e, ea]⟩]; rfl
           · rw [if_neg e]
             exact (tp_fb_n (fun q => e ((nI_eq (by omega) (by omega)).mp (q.2.2.trans ea)))).symm⟩)
      | exact tv_vret (pc := 94) dP_follow_94 rfl (Nat.le_refl _) (Nat.le_refl _) (by exact ⟨rfl, by
              refine tc_row_congr (fun r _ => (tp_fb_n ?_).symm)
              rintro ⟨q1, q2, q3⟩
              first
              | exact (by assumption : ¬ tc_row u 22 (tp_f0 (pv u b) i (fun r => u (16 + r) i)) 6 (b + 0) i = 1) (by rw [tc_row_ne (by omega)]; exact q1)
              | exact q2 (by have h : tc_row u 22 (tp_f0 (pv u b) i (fun r => u (16 + r) i)) 6 (b + 2) i = tp_wI (pv u b) i := by assumption
                             rw [tc_row_ne (by omega)] at h
                             rw [show tp_wI (pv u b) i = pv u b 1 i from by unfold tp_wI; rw [if_pos (Or.inr (Or.inl q1))]] at h
                             exact h)⟩)
    · skip
      refine tv_aload_n (pc := 70) dP_follow_70 (by rfl) ?_
      refine tv_iload_n (pc := 71) dP_follow_71 (by rfl) ?_
      refine tv_iconst (v := 2) (pc := 72) dP_follow_72 (by decide) ?_
      refine tv_callVi (pc := 73) [_, _] hC.1 (by rfl) (c_C_number l G _ hC hi16 (j := 2) ⟨by decide, by decide, by decide⟩) (kVC_number wm_226 ⟨by decide, by decide⟩) (by rfl) (Nat.le_of_ble_eq_true rfl) dP_follow_73 ⟨by decide, by decide⟩ ?_
      refine tv_iload (pc := 76) dP_follow_76 (by rfl) ?_
      refine tv_icmp_eq (pc := 78) 94 dP_follow_78 (by decide) (fun h78 => ?_) (fun h78 => ?_)
      · skip
        first
        | (rw [tc_row_ne (q := b + 2) (by omega), tc_row_up ha]
           exact tv_vret (pc := 94) dP_follow_94 rfl (Nat.le_refl _) (Nat.le_refl _) ⟨rfl, by
             refine tc_row_congr (fun r hr6 => ?_)
             by_cases e : r = a
             · rw [if_pos e, tp_fb_y ⟨h1, h2, by rw [e, ea]⟩]; rfl
             · rw [if_neg e]
               exact (tp_fb_n (fun q => e ((nI_eq (by omega) (by omega)).mp (q.2.2.trans ea)))).symm⟩)
        | exact tv_vret (pc := 94) dP_follow_94 rfl (Nat.le_refl _) (Nat.le_refl _) (by exact ⟨rfl, by
                refine tc_row_congr (fun r _ => (tp_fb_n ?_).symm)
                rintro ⟨q1, q2, q3⟩
                first
                | exact (by assumption : ¬ tc_row u 22 (tp_f0 (pv u b) i (fun r => u (16 + r) i)) 6 (b + 0) i = 1) (by rw [tc_row_ne (by omega)]; exact q1)
                | exact q2 (by have h : tc_row u 22 (tp_f0 (pv u b) i (fun r => u (16 + r) i)) 6 (b + 2) i = tp_wI (pv u b) i := by assumption
                               rw [tc_row_ne (by omega)] at h
                               rw [show tp_wI (pv u b) i = pv u b 1 i from by unfold tp_wI; rw [if_pos (Or.inr (Or.inl q1))]] at h
                               exact h)⟩)
      · skip
        have h1 : pv u b 0 i = 1 := by
          have h : tc_row u 22 (tp_f0 (pv u b) i (fun r => u (16 + r) i)) 6 (b + 0) i = 1 := by assumption
          rw [tc_row_ne (by omega)] at h; exact h
        obtain ⟨a, ha, ea⟩ := hl.2.1 (by rw [h1]; decide)
        have ew : tp_wI (pv u b) i = nI a := by unfold tp_wI; rw [if_pos (Or.inr (Or.inl h1)), ea]
        have h2 : ¬ pv u b 2 i = pv u b 1 i := by
          have h : ¬ tc_row u 22 (tp_f0 (pv u b) i (fun r => u (16 + r) i)) 6 (b + 2) i = tp_wI (pv u b) i := by assumption
          rw [tc_row_ne (by omega), ew, ← ea] at h; exact h
        refine tv_aload_n (pc := 81) dP_follow_81 (by rfl) ?_
        refine tv_getR (pc := 82) 1 tb_14 (by rfl) uwP_ (by decide) wm_60 (by rfl) dP_follow_82 ?_
        refine tv_iload (pc := 85) dP_follow_85 (by rfl) ?_
        refine tv_aload_n (pc := 87) dP_follow_87 (by rfl) ?_
        refine tv_iload_n (pc := 88) dP_follow_88 (by rfl) ?_
        refine tv_iconst (v := 2) (pc := 89) dP_follow_89 (by decide) ?_
        refine tv_callVi (pc := 90) [_, _] hC.1 (by rfl) (c_C_number l G _ hC hi16 (j := 2) ⟨by decide, by decide, by decide⟩) (kVC_number wm_226 ⟨by decide, by decide⟩) (by rfl) (Nat.le_of_ble_eq_true rfl) dP_follow_90 ⟨by decide, by decide⟩ ?_
        refine tv_iast (pc := 93) (j := a) tb_22 (by rw [ew]; exact tc_ixN ha (by decide)) dP_follow_93 ?_
        first
        | (rw [tc_row_ne (q := b + 2) (by omega), tc_row_up ha]
           exact tv_vret (pc := 94) dP_follow_94 rfl (Nat.le_refl _) (Nat.le_refl _) ⟨rfl, by
             refine tc_row_congr (fun r hr6 => ?_)
             by_cases e : r = a
             · rw [if_pos e, tp_fb_y ⟨h1, h2, by rw [e, ea]⟩]; rfl
             · rw [if_neg e]
               exact (tp_fb_n (fun q => e ((nI_eq (by omega) (by omega)).mp (q.2.2.trans ea)))).symm⟩)
        | exact tv_vret (pc := 94) dP_follow_94 rfl (Nat.le_refl _) (Nat.le_refl _) (by exact ⟨rfl, by
                refine tc_row_congr (fun r _ => (tp_fb_n ?_).symm)
                rintro ⟨q1, q2, q3⟩
                first
                | exact (by assumption : ¬ tc_row u 22 (tp_f0 (pv u b) i (fun r => u (16 + r) i)) 6 (b + 0) i = 1) (by rw [tc_row_ne (by omega)]; exact q1)
                | exact q2 (by have h : tc_row u 22 (tp_f0 (pv u b) i (fun r => u (16 + r) i)) 6 (b + 2) i = tp_wI (pv u b) i := by assumption
                               rw [tc_row_ne (by omega)] at h
                               rw [show tp_wI (pv u b) i = pv u b 1 i from by unfold tp_wI; rw [if_pos (Or.inr (Or.inl q1))]] at h
                               exact h)⟩)
  have loop : ∀ z : Option Value, tc_V tcx G p l e r0P_follow s m args below meth c bP_follow 7 tw "TracedCode$Copies" none [] (MQ below (tc_Qc tcx G (tc_Kv (tc_row u 22 (tp_fb (pv u b) i (fun r => u (16 + r) i)) 6)) s.heap.size) args s 0 0 (tc_A tcx G s.heap.size)) 0 0 (tc_row u 22 (tp_f0 (pv u b) i (fun r => u (16 + r) i)) 0) 10 [some (.ref (tc_ad G 14)), some (.ref (tc_ad G k2)), some (.ref (tc_ad G k)), some (.int (nI i)), some (.int (tp_wI (pv u b) i)), some (.int (nI 0)), z] [] := by
    refine tv_down (P := fun r => ∀ z : Option Value, tc_V tcx G p l e r0P_follow s m args below meth c bP_follow 7 tw "TracedCode$Copies" none [] (MQ below (tc_Qc tcx G (tc_Kv (tc_row u 22 (tp_fb (pv u b) i (fun r => u (16 + r) i)) 6)) s.heap.size) args s 0 0 (tc_A tcx G s.heap.size)) 0 0 (tc_row u 22 (tp_f0 (pv u b) i (fun r => u (16 + r) i)) r) 10 [some (.ref (tc_ad G 14)), some (.ref (tc_ad G k2)), some (.ref (tc_ad G k)), some (.int (nI i)), some (.int (tp_wI (pv u b) i)), some (.int (nI r)), z] []) 6 fin ?_
    intro r hr ih z
    have hr6 : tc_ix (nI r) 6 r := tc_ixN hr (by decide)
    refine tv_iload (pc := 10) dP_follow_10 (by rfl) ?_
    refine tv_bipush (v := 6) (pc := 12) dP_follow_12 (by decide) ?_
    refine tv_icmp_ge (pc := 14) 61 dP_follow_14 (by decide) (fun h => absurd h (nI_lt6 hr)) (fun _ => ?_)
    refine tv_aload_n (pc := 17) dP_follow_17 (by rfl) ?_
    refine tv_getR (pc := 18) 0 tb_14 (by rfl) uwP_ (by decide) wm_59 (by rfl) dP_follow_18 ?_
    refine tv_iload (pc := 21) dP_follow_21 (by rfl) ?_
    refine tv_aald (pc := 23) tb_15 hr6 dP_follow_23 ?_
    refine tv_iload_n (pc := 24) dP_follow_24 (by rfl) ?_
    refine tv_iald (pc := 25) (rows_16 _ hr6.2.2) hi17 dP_follow_25 ?_
    refine tv_istore6 (pc := 26) dP_follow_26 (by rfl) ?_
    refine tv_aload_n (pc := 28) dP_follow_28 (by rfl) ?_
    refine tv_getR (pc := 29) 1 tb_14 (by rfl) uwP_ (by decide) wm_60 (by rfl) dP_follow_29 ?_
    refine tv_iload (pc := 32) dP_follow_32 (by rfl) ?_
    refine tv_iload (pc := 34) dP_follow_34 (by rfl) ?_
    refine tv_iload (pc := 36) dP_follow_36 (by rfl) ?_
    refine tv_icmp_eq (pc := 38) 48 dP_follow_38 (by decide) (fun h38 => ?_) (fun h38 => ?_)
    · skip
      refine tv_iconst (v := (-1)) (pc := 48) dP_follow_48 (by decide) ?_
      refine tv_goto (pc := 49) 54 dP_follow_49 (by decide) ?_
      refine tv_iast (pc := 54) tb_22 hr6 dP_follow_54 ?_
      refine tv_iinc5 (v := 1) (pc := 55) dP_follow_55 (by decide) (by rfl) ?_
      refine tv_goto (pc := 58) 10 dP_follow_58 (by decide) ?_
      rw [tc_row_ne (q := 16 + r) (by omega)] at *
      rw [← tc_row_s (f := tp_f0 (pv u b) i (fun r => u (16 + r) i)), ← nI_1] at ih
      first
      | (rw [show tp_f0 (pv u b) i (fun r => u (16 + r) i) r = -1 from by unfold tp_f0; rw [if_pos (by first | exact Or.inl (by assumption) | exact Or.inr (by assumption))]] at ih; exact ih _)
      | (rw [show tp_f0 (pv u b) i (fun r => u (16 + r) i) r = u (16 + r) i from by unfold tp_f0; rw [if_neg (by rintro (q | q) <;> contradiction)]] at ih; exact ih _)
    · skip
      refine tv_iload (pc := 41) dP_follow_41 (by rfl) ?_
      refine tv_iload (pc := 43) dP_follow_43 (by rfl) ?_
      refine tv_icmp_ne (pc := 45) 52 dP_follow_45 (by decide) (fun h45 => ?_) (fun h45 => ?_)
      · skip
        refine tv_iload (pc := 52) dP_follow_52 (by rfl) ?_
        refine tv_iast (pc := 54) tb_22 hr6 dP_follow_54 ?_
        refine tv_iinc5 (v := 1) (pc := 55) dP_follow_55 (by decide) (by rfl) ?_
        refine tv_goto (pc := 58) 10 dP_follow_58 (by decide) ?_
        rw [tc_row_ne (q := 16 + r) (by omega)] at *
        rw [← tc_row_s (f := tp_f0 (pv u b) i (fun r => u (16 + r) i)), ← nI_1] at ih
        first
        | (rw [show tp_f0 (pv u b) i (fun r => u (16 + r) i) r = -1 from by unfold tp_f0; rw [if_pos (by first | exact Or.inl (by assumption) | exact Or.inr (by assumption))]] at ih; exact ih _)
        | (rw [show tp_f0 (pv u b) i (fun r => u (16 + r) i) r = u (16 + r) i from by unfold tp_f0; rw [if_neg (by rintro (q | q) <;> contradiction)]] at ih; exact ih _)
      · skip
        refine tv_iconst (v := (-1)) (pc := 48) dP_follow_48 (by decide) ?_
        refine tv_goto (pc := 49) 54 dP_follow_49 (by decide) ?_
        refine tv_iast (pc := 54) tb_22 hr6 dP_follow_54 ?_
        refine tv_iinc5 (v := 1) (pc := 55) dP_follow_55 (by decide) (by rfl) ?_
        refine tv_goto (pc := 58) 10 dP_follow_58 (by decide) ?_
        rw [tc_row_ne (q := 16 + r) (by omega)] at *
        rw [← tc_row_s (f := tp_f0 (pv u b) i (fun r => u (16 + r) i)), ← nI_1] at ih
        first
        | (rw [show tp_f0 (pv u b) i (fun r => u (16 + r) i) r = -1 from by unfold tp_f0; rw [if_pos (by first | exact Or.inl (by assumption) | exact Or.inr (by assumption))]] at ih; exact ih _)
        | (rw [show tp_f0 (pv u b) i (fun r => u (16 + r) i) r = u (16 + r) i from by unfold tp_f0; rw [if_neg (by rintro (q | q) <;> contradiction)]] at ih; exact ih _)
  rw [tc_row_0] at loop
  refine tv_aload_n (pc := 0) dP_follow_0 (by rfl) ?_
  refine tv_iload_n (pc := 1) dP_follow_1 (by rfl) ?_
  refine tv_callVi (pc := 2) [_] hC.1 (by rfl) (c_C_written l G u hC hi16) (kVC_written wm_224 ⟨by decide, by decide⟩) (by rfl) (Nat.le_of_ble_eq_true rfl) dP_follow_2 ⟨by decide, by decide⟩ ?_
  refine tv_istore4 (pc := 5) dP_follow_5 (by rfl) ?_
  refine tv_iconst (v := 0) (pc := 7) dP_follow_7 (by decide) ?_
  refine tv_istore5 (pc := 8) dP_follow_8 (by rfl) ?_
  exact loop none
