def sl_bh (n : Nat) (u : tc_S) (i : Nat) : Int32 := u 23 (i + 1) ||| u 23 (tp_tg n (pv u 9) i)
noncomputable def sl_bf (n : Nat) (u : tc_S) (i : Nat) : Int32 := (if tp_wI (pv u 9) i = -1 then sl_bh n u i else sl_bh n u i &&& (tp_sh (tp_wI (pv u 9) i) ^^^ (-1))) ||| tp_nd (pv u 9) i
noncomputable def sl_ps (n : Nat) : Nat → tc_S × Int32 → tc_S × Int32
  | 0, x => x
  | k + 1, x => (tc_up (sl_ps n k x).1 23 (n - k - 1) (sl_bf n (sl_ps n k x).1 (n - k - 1)), (sl_ps n k x).2 ||| (if sl_bf n (sl_ps n k x).1 (n - k - 1) = (sl_ps n k x).1 23 (n - k - 1) then 0 else 1))
noncomputable def sl_rp (n : Nat) : Nat → tc_S → tc_S
  | 0, u => u
  | f + 1, u => if (sl_ps n n (u, 0)).2 = 0 then (sl_ps n n (u, 0)).1 else sl_rp n f (sl_ps n n (u, 0)).1
noncomputable def sl_find (n : Nat) (u : tc_S) : tc_S := sl_rp n 1000000 (tc_row u 23 (fun _ => 0) 17)
/-- nothing but the row of live registers has changed -/
def sl_F (u v : tc_S) : Prop := ∀ q, q ≠ 23 → v q = u q
theorem sl_F.tr {u v w : tc_S} (h : sl_F u v) (k : sl_F v w) : sl_F u w := fun q hq => (k q hq).trans (h q hq)
theorem sl_Fpv {u v : tc_S} (h : sl_F u v) {j i : Nat} (hj : j < 4) : pv v 9 j i = pv u 9 j i := by unfold pv; rw [h (9 + j) (by omega)]
theorem sl_FI {n : Nat} {u v : tc_S} (h : sl_F u v) (hI : sp_I n u) : sp_I n v := by
  refine ⟨by rw [h 7 (by omega)]; exact hI.1, fun i hi => ?_, fun r hr q hq => by rw [h (16 + r) (by omega)]; exact hI.2.2.1 r hr q hq, fun r hr => by rw [h 22 (by omega)]; exact hI.2.2.2 r hr⟩
  have hl := hI.2.1 i hi
  unfold tp_line at hl ⊢
  rw [sl_Fpv h (by omega), sl_Fpv h (by omega), sl_Fpv h (by omega), sl_Fpv h (by omega)]; exact hl
theorem sl_F1 {n : Nat} (x : tc_S × Int32) : ∀ k, sl_F x.1 (sl_ps n k x).1
  | 0 => fun _ _ => rfl
  | k + 1 => (sl_F1 x k).tr (fun q hq => tc_up_ne hq)
theorem sl_F2 {n : Nat} : ∀ (f : Nat) (u : tc_S), sl_F u (sl_rp n f u)
  | 0, _ => fun _ _ => rfl
  | f + 1, u => by
    unfold sl_rp
    split
    · exact sl_F1 (u, 0) n
    · exact (sl_F1 (u, 0) n).tr (sl_F2 f _)
theorem sl_findF (n : Nat) (u : tc_S) : sl_F u (sl_find n u) := by
  have h0 : sl_F u (tc_row u 23 (fun _ => 0) 17) := fun q hq => tc_row_ne hq
  exact h0.tr (sl_F2 1000000 _)
set_option maxRecDepth 100000 in
set_option maxHeartbeats 4000000 in
theorem c_S_liveBehind (l : Launch) (G : tc_G) (u : tc_S) {n i : Nat} (hn : n ≤ 16) (hI : sp_I n u) (hi : i < n) : tc_C tcx G l yS_liveBehind wS_liveBehind r0S_liveBehind 0 0 [.ref (tc_ad G 13), .ref (tc_ad G 7), .int (nI i)] u (tc_Ki (sl_bh n u i) u) := by
  refine tw_ofV (own := "TracedCode$Shortener") [some (.ref (tc_ad G 13)), some (.ref (tc_ad G 7)), some (.int (nI i))] (by decide +kernel) rfl (Nat.le_of_ble_eq_true rfl) (by rfl) (fun p e s m args below meth c => ?_)
  have hi16 : tc_ix (nI i) 16 i := tc_ixN (by omega) (by decide)
  have h4 := (hI.2.1 i hi).2.2.2.1
  have hi1 : tc_ix (nI i + 1) 17 (i + 1) := by rw [nI_1]; exact tc_ixN (by omega) (by decide)
  have ht : tc_ix (nI (tp_tg n (pv u 9) i)) 17 (tp_tg n (pv u 9) i) := tc_ixN (by have := tp_tg_le (n := n) (P := pv u 9) hi; omega) (by decide)
  refine tv_aload_n (pc := 0) dS_liveBehind_0 (by rfl) ?_
  refine tv_getR (pc := 1) 1 tb_13 (by rfl) uwS_ (by decide) wm_67 (by rfl) dS_liveBehind_1 ?_
  refine tv_iload_n (pc := 4) dS_liveBehind_4 (by rfl) ?_
  refine tv_iconst (v := 1) (pc := 5) dS_liveBehind_5 (by decide) ?_
  refine tv_iadd (pc := 6) dS_liveBehind_6 ?_
  refine tv_iald (pc := 7) tb_23 hi1 dS_liveBehind_7 ?_
  refine tv_aload_n (pc := 8) dS_liveBehind_8 (by rfl) ?_
  refine tv_getR (pc := 9) 1 tb_13 (by rfl) uwS_ (by decide) wm_67 (by rfl) dS_liveBehind_9 ?_
  refine tv_aload_n (pc := 12) dS_liveBehind_12 (by rfl) ?_
  refine tv_iload_n (pc := 13) dS_liveBehind_13 (by rfl) ?_
  refine tv_callVi (pc := 14) [_] tb_7 (by rfl) (c_C_target l G u code_7 hi16 hI.1 hn h4) (kVC_target wm_295 ⟨by decide, by decide⟩) (by rfl) (Nat.le_of_ble_eq_true rfl) dS_liveBehind_14 ⟨by decide, by decide⟩ ?_
  refine tv_iald (pc := 17) tb_23 ht dS_liveBehind_17 ?_
  refine tv_ior (pc := 18) dS_liveBehind_18 ?_
  exact tv_iret (pc := 19) dS_liveBehind_19 rfl (Nat.le_refl _) (Nat.le_refl _) ⟨rfl, rfl⟩
set_option maxRecDepth 100000 in
set_option maxHeartbeats 4000000 in
theorem c_S_liveBefore (l : Launch) (G : tc_G) (u : tc_S) {n i : Nat} (hn : n ≤ 16) (hI : sp_I n u) (hi : i < n) : tc_C tcx G l yS_liveBefore wS_liveBefore r0S_liveBefore 0 0 [.ref (tc_ad G 13), .ref (tc_ad G 7), .int (nI i)] u (tc_Ki (sl_bf n u i) u) := by
  refine tw_ofV (own := "TracedCode$Shortener") [some (.ref (tc_ad G 13)), some (.ref (tc_ad G 7)), some (.int (nI i)), none, none] (by decide +kernel) rfl (Nat.le_of_ble_eq_true rfl) (by rfl) (fun p e s m args below meth c => ?_)
  have hi16 : tc_ix (nI i) 16 i := tc_ixN (by omega) (by decide)
  refine tv_aload_n (pc := 0) dS_liveBefore_0 (by rfl) ?_
  refine tv_iload_n (pc := 1) dS_liveBefore_1 (by rfl) ?_
  refine tv_callVi (pc := 2) [_] tb_7 (by rfl) (c_C_written l G u code_7 hi16) (kVC_written wm_290 ⟨by decide, by decide⟩) (by rfl) (Nat.le_of_ble_eq_true rfl) dS_liveBefore_2 ⟨by decide, by decide⟩ ?_
  refine tv_istore3 (pc := 5) dS_liveBefore_5 (by rfl) ?_
  refine tv_aload_n (pc := 6) dS_liveBefore_6 (by rfl) ?_
  refine tv_aload_n (pc := 7) dS_liveBefore_7 (by rfl) ?_
  refine tv_iload_n (pc := 8) dS_liveBefore_8 (by rfl) ?_
  refine tv_callVi (pc := 9) [_, _] tb_13 (by rfl) (c_S_liveBehind l G u hn hI hi) (kVS_liveBehind wm_291 ⟨by decide, by decide⟩) (by rfl) (Nat.le_of_ble_eq_true rfl) dS_liveBefore_9 ⟨by decide, by decide⟩ ?_
  refine tv_istore4 (pc := 12) dS_liveBefore_12 (by rfl) ?_
  refine tv_iload_n (pc := 14) dS_liveBefore_14 (by rfl) ?_
  refine tv_iconst (v := (-1)) (pc := 15) dS_liveBefore_15 (by decide) ?_
  refine tv_icmp_eq (pc := 16) 29 dS_liveBefore_16 (by decide) (fun h16 => ?_) (fun h16 => ?_)
  · skip
    refine tv_iload (pc := 29) dS_liveBefore_29 (by rfl) ?_
    refine tv_aload_n (pc := 31) dS_liveBefore_31 (by rfl) ?_
    refine tv_iload_n (pc := 32) dS_liveBefore_32 (by rfl) ?_
    refine tv_callVi (pc := 33) [_] tb_7 (by rfl) (c_C_needed l G u code_7 hi16 (hI.2.1 i hi)) (kVC_needed wm_296 ⟨by decide, by decide⟩) (by rfl) (Nat.le_of_ble_eq_true rfl) dS_liveBefore_33 ⟨by decide, by decide⟩ ?_
    refine tv_ior (pc := 36) dS_liveBefore_36 ?_
    exact tv_iret (pc := 37) dS_liveBefore_37 rfl (Nat.le_refl _) (Nat.le_refl _) ⟨by unfold sl_bf; first | rw [if_pos (by assumption)] | (rw [if_neg (by assumption)]; rfl), rfl⟩
  · skip
    refine tv_iload (pc := 19) dS_liveBefore_19 (by rfl) ?_
    refine tv_iconst (v := 1) (pc := 21) dS_liveBefore_21 (by decide) ?_
    refine tv_iload_n (pc := 22) dS_liveBefore_22 (by rfl) ?_
    refine tv_ishl (pc := 23) dS_liveBefore_23 ?_
    refine tv_iconst (v := (-1)) (pc := 24) dS_liveBefore_24 (by decide) ?_
    refine tv_ixor (pc := 25) dS_liveBefore_25 ?_
    refine tv_iand (pc := 26) dS_liveBefore_26 ?_
    refine tv_istore4 (pc := 27) dS_liveBefore_27 (by rfl) ?_
    refine tv_iload (pc := 29) dS_liveBefore_29 (by rfl) ?_
    refine tv_aload_n (pc := 31) dS_liveBefore_31 (by rfl) ?_
    refine tv_iload_n (pc := 32) dS_liveBefore_32 (by rfl) ?_
    refine tv_callVi (pc := 33) [_] tb_7 (by rfl) (c_C_needed l G u code_7 hi16 (hI.2.1 i hi)) (kVC_needed wm_296 ⟨by decide, by decide⟩) (by rfl) (Nat.le_of_ble_eq_true rfl) dS_liveBefore_33 ⟨by decide, by decide⟩ ?_
    refine tv_ior (pc := 36) dS_liveBefore_36 ?_
    exact tv_iret (pc := 37) dS_liveBefore_37 rfl (Nat.le_refl _) (Nat.le_refl _) ⟨by unfold sl_bf; first | rw [if_pos (by assumption)] | (rw [if_neg (by assumption)]; rfl), rfl⟩
set_option maxRecDepth 100000 in
set_option maxHeartbeats 4000000 in
theorem c_S_findLive (l : Launch) (G : tc_G) (u : tc_S) {n : Nat} (hn : n ≤ 16) (hI : sp_I n u) : tc_C tcx G l yS_findLive wS_findLive r0S_findLive 0 0 [.ref (tc_ad G 13), .ref (tc_ad G 7)] u (tc_Kv (sl_find n u)) := by
  refine tw_ofV (own := "TracedCode$Shortener") [some (.ref (tc_ad G 13)), some (.ref (tc_ad G 7)), none, none, none, none] (by decide +kernel) rfl (Nat.le_of_ble_eq_true rfl) (by rfl) (fun p e s m args below meth c => ?_)
  obtain ⟨w, hw⟩ : ∃ w, w = sl_find n u := ⟨_, rfl⟩
  rw [← hw]
  have pass : ∀ (t : Nat) (v : tc_S), sp_I n v → (∀ z : Option Value, tc_V tcx G p l e r0S_findLive s m args below meth c bS_findLive 6 tw "TracedCode$Shortener" none [] (MQ below (tc_Qc tcx G (tc_Kv w) s.heap.size) args s 0 0 (tc_A tcx G s.heap.size)) 0 0 (sl_ps n n (v, 0)).1 81 [some (.ref (tc_ad G 13)), some (.ref (tc_ad G 7)), some (.int (sl_ps n n (v, 0)).2), some (.int (nI t)), some (.int (nI (n - n) - 1)), z] []) → ∀ z : Option Value, tc_V tcx G p l e r0S_findLive s m args below meth c bS_findLive 6 tw "TracedCode$Shortener" none [] (MQ below (tc_Qc tcx G (tc_Kv w) s.heap.size) args s 0 0 (tc_A tcx G s.heap.size)) 0 0 (sl_ps n 0 (v, 0)).1 32 [some (.ref (tc_ad G 13)), some (.ref (tc_ad G 7)), some (.int (sl_ps n 0 (v, 0)).2), some (.int (nI t)), some (.int (nI (n - 0) - 1)), z] [] := by
    intro t v hv hend
    refine tv_down (P := fun k => ∀ z : Option Value, tc_V tcx G p l e r0S_findLive s m args below meth c bS_findLive 6 tw "TracedCode$Shortener" none [] (MQ below (tc_Qc tcx G (tc_Kv w) s.heap.size) args s 0 0 (tc_A tcx G s.heap.size)) 0 0 (sl_ps n k (v, 0)).1 32 [some (.ref (tc_ad G 13)), some (.ref (tc_ad G 7)), some (.int (sl_ps n k (v, 0)).2), some (.int (nI t)), some (.int (nI (n - k) - 1)), z] []) n ?_ ?_
    · intro z
      refine tv_iload (pc := 32) dS_findLive_32 (by rfl) ?_
      refine tv_if_lt (pc := 34) 81 dS_findLive_34 (by decide) (fun _ => ?_) (fun h => absurd (by rw [Nat.sub_self]; decide) h)
      exact hend z
    · intro k hk ih z
      have hIk := sl_FI (sl_F1 (n := n) (v, 0) k) hv
      obtain ⟨v0, hv0⟩ : ∃ v0, v0 = (sl_ps n k (v, 0)) := ⟨_, rfl⟩
      obtain ⟨i, hi⟩ : ∃ i, i = n - k - 1 := ⟨_, rfl⟩
      have hin : i < n := by omega
      have ei : nI (n - k) - 1 = nI i := by rw [show n - k = i + 1 by omega, nI_pred]
      have e2 : nI (n - (k + 1)) - 1 = nI i + (-1) := by rw [show n - (k + 1) = i by omega, Int32.sub_eq_add_neg]
      rw [show sl_ps n (k + 1) (v, 0) = (tc_up v0.1 23 i (sl_bf n v0.1 i), v0.2 ||| (if sl_bf n v0.1 i = v0.1 23 i then 0 else 1)) from by rw [hv0, hi]; rfl, e2] at ih
      rw [← hv0] at hIk ⊢
      rw [ei]
      have hi17 : tc_ix (nI i) 17 i := tc_ixN (by omega) (by decide)
      refine tv_iload (pc := 32) dS_findLive_32 (by rfl) ?_
      refine tv_if_lt (pc := 34) 81 dS_findLive_34 (by decide) (fun h => absurd h (nI_pos (by omega))) (fun _ => ?_)
      refine tv_aload_n (pc := 37) dS_findLive_37 (by rfl) ?_
      refine tv_aload_n (pc := 38) dS_findLive_38 (by rfl) ?_
      refine tv_iload (pc := 39) dS_findLive_39 (by rfl) ?_
      refine tv_callVi (pc := 41) [_, _] tb_13 (by rfl) (c_S_liveBefore l G v0.1 hn hIk hin) (kVS_liveBefore wm_286 ⟨by decide, by decide⟩) (by rfl) (Nat.le_of_ble_eq_true rfl) dS_findLive_41 ⟨by decide, by decide⟩ ?_
      refine tv_istore5 (pc := 44) dS_findLive_44 (by rfl) ?_
      refine tv_iload_n (pc := 46) dS_findLive_46 (by rfl) ?_
      refine tv_iload (pc := 47) dS_findLive_47 (by rfl) ?_
      refine tv_aload_n (pc := 49) dS_findLive_49 (by rfl) ?_
      refine tv_getR (pc := 50) 1 tb_13 (by rfl) uwS_ (by decide) wm_67 (by rfl) dS_findLive_50 ?_
      refine tv_iload (pc := 53) dS_findLive_53 (by rfl) ?_
      refine tv_iald (pc := 55) tb_23 hi17 dS_findLive_55 ?_
      refine tv_icmp_eq (pc := 56) 63 dS_findLive_56 (by decide) (fun h56 => ?_) (fun h56 => ?_)
      · skip
        refine tv_iconst (v := 0) (pc := 63) dS_findLive_63 (by decide) ?_
        refine tv_ior (pc := 64) dS_findLive_64 ?_
        refine tv_istore2 (pc := 65) dS_findLive_65 (by rfl) ?_
        refine tv_aload_n (pc := 66) dS_findLive_66 (by rfl) ?_
        refine tv_getR (pc := 67) 1 tb_13 (by rfl) uwS_ (by decide) wm_67 (by rfl) dS_findLive_67 ?_
        refine tv_iload (pc := 70) dS_findLive_70 (by rfl) ?_
        refine tv_iload (pc := 72) dS_findLive_72 (by rfl) ?_
        refine tv_iast (pc := 74) tb_23 hi17 dS_findLive_74 ?_
        refine tv_iinc4 (v := (-1)) (pc := 75) dS_findLive_75 (by decide) (by rfl) ?_
        refine tv_goto (pc := 78) 32 dS_findLive_78 (by decide) ?_
        first
        | (rw [if_pos (by assumption)] at ih; exact ih _)
        | (rw [if_neg (by assumption)] at ih; exact ih _)
      · skip
        refine tv_iconst (v := 1) (pc := 59) dS_findLive_59 (by decide) ?_
        refine tv_goto (pc := 60) 64 dS_findLive_60 (by decide) ?_
        refine tv_ior (pc := 64) dS_findLive_64 ?_
        refine tv_istore2 (pc := 65) dS_findLive_65 (by rfl) ?_
        refine tv_aload_n (pc := 66) dS_findLive_66 (by rfl) ?_
        refine tv_getR (pc := 67) 1 tb_13 (by rfl) uwS_ (by decide) wm_67 (by rfl) dS_findLive_67 ?_
        refine tv_iload (pc := 70) dS_findLive_70 (by rfl) ?_
        refine tv_iload (pc := 72) dS_findLive_72 (by rfl) ?_
        refine tv_iast (pc := 74) tb_23 hi17 dS_findLive_74 ?_
        refine tv_iinc4 (v := (-1)) (pc := 75) dS_findLive_75 (by decide) (by rfl) ?_
        refine tv_goto (pc := 78) 32 dS_findLive_78 (by decide) ?_
        first
        | (rw [if_pos (by assumption)] at ih; exact ih _)
        | (rw [if_neg (by assumption)] at ih; exact ih _)
  have reps : ∀ d t : Nat, t + d = 1000000 → ∀ (v : tc_S) (c0 : Int32) (z y : Option Value), sp_I n v → (if c0 = 0 then v else sl_rp n d v) = w → tc_V tcx G p l e r0S_findLive s m args below meth c bS_findLive 6 tw "TracedCode$Shortener" none [] (MQ below (tc_Qc tcx G (tc_Kv w) s.heap.size) args s 0 0 (tc_A tcx G s.heap.size)) 0 0 v 12 [some (.ref (tc_ad G 13)), some (.ref (tc_ad G 7)), some (.int c0), some (.int (nI t)), z, y] [] := by
    intro d
    induction d with
    | zero =>
      intro t ht v c0 z y hv he
      have e : t = 1000000 := by omega
      refine tv_iload_n (pc := 12) dS_findLive_12 (by rfl) ?_
      refine tv_if_eq (pc := 13) 87 dS_findLive_13 (by decide) (fun h13 => ?_) (fun h13 => ?_)
      · skip
        exact tv_vret (pc := 87) dS_findLive_87 rfl (Nat.le_refl _) (Nat.le_refl _) ⟨rfl, by first | (rw [if_pos (by assumption)] at he; exact he) | (rw [if_neg (by assumption)] at he; exact he)⟩
      · skip
        refine tv_iload_n (pc := 16) dS_findLive_16 (by rfl) ?_
        refine tv_ldc (pc := 17)  wm_177 dS_findLive_17 ?_
        refine tv_icmp_ge (pc := 19) 87 dS_findLive_19 (by decide) (fun _ => ?_) (fun h => absurd (by rw [e]; decide) h)
        exact tv_vret (pc := 87) dS_findLive_87 rfl (Nat.le_refl _) (Nat.le_refl _) ⟨rfl, by first | (rw [if_pos (by assumption)] at he; exact he) | (rw [if_neg (by assumption)] at he; exact he)⟩
    | succ d ihd =>
      intro t ht v c0 z y hv he
      refine tv_iload_n (pc := 12) dS_findLive_12 (by rfl) ?_
      refine tv_if_eq (pc := 13) 87 dS_findLive_13 (by decide) (fun h13 => ?_) (fun h13 => ?_)
      · skip
        exact tv_vret (pc := 87) dS_findLive_87 rfl (Nat.le_refl _) (Nat.le_refl _) ⟨rfl, by rw [if_pos (by assumption)] at he; exact he⟩
      · skip
        refine tv_iload_n (pc := 16) dS_findLive_16 (by rfl) ?_
        refine tv_ldc (pc := 17)  wm_177 dS_findLive_17 ?_
        refine tv_icmp_ge (pc := 19) 87 dS_findLive_19 (by decide) (fun h => absurd h (nI_mil (by omega))) (fun _ => ?_)
        refine tv_iconst (v := 0) (pc := 22) dS_findLive_22 (by decide) ?_
        refine tv_istore2 (pc := 23) dS_findLive_23 (by rfl) ?_
        refine tv_aload_n (pc := 24) dS_findLive_24 (by rfl) ?_
        refine tv_callVi (pc := 25) [] tb_7 (by rfl) (c_C_size l G v code_7) (kVC_size wm_250 ⟨by decide, by decide⟩) (by rfl) (Nat.le_of_ble_eq_true rfl) dS_findLive_25 ⟨by decide, by decide⟩ ?_
        refine tv_iconst (v := 1) (pc := 28) dS_findLive_28 (by decide) ?_
        refine tv_isub (pc := 29) dS_findLive_29 ?_
        refine tv_istore4 (pc := 30) dS_findLive_30 (by rfl) ?_
        rw [hv.1]
        refine pass t v hv (fun y => ?_) _
        have ih := ihd (t + 1) (by omega) (sl_ps n n (v, 0)).1 (sl_ps n n (v, 0)).2 (some (.int (nI (n - n) - 1))) y (sl_FI (sl_F1 (v, 0) n) hv) (by rw [if_neg (by assumption)] at he; exact he)
        rw [← nI_1] at ih
        refine tv_iinc3 (v := 1) (pc := 81) dS_findLive_81 (by decide) (by rfl) ?_
        refine tv_goto (pc := 84) 12 dS_findLive_84 (by decide) ?_
        exact ih
  have h0 : sl_F u (tc_row u 23 (fun _ => 0) 17) := fun q hq => tc_row_ne hq
  refine tv_aload_n (pc := 0) dS_findLive_0 (by rfl) ?_
  refine tv_getR (pc := 1) 1 tb_13 (by rfl) uwS_ (by decide) wm_67 (by rfl) dS_findLive_1 ?_
  refine tv_iconst (v := 0) (pc := 4) dS_findLive_4 (by decide) ?_
  refine tv_callSv (pc := 5) [_, _] (c_A_fill l G u tb_23 (by decide) 0) (kSA_fill wm_283 ⟨by decide, by decide⟩) (by rfl) (Nat.le_of_ble_eq_true rfl) dS_findLive_5 ⟨by decide, by decide⟩ ?_
  refine tv_iconst (v := 1) (pc := 8) dS_findLive_8 (by decide) ?_
  refine tv_istore2 (pc := 9) dS_findLive_9 (by rfl) ?_
  refine tv_iconst (v := 0) (pc := 10) dS_findLive_10 (by decide) ?_
  refine tv_istore3 (pc := 11) dS_findLive_11 (by rfl) ?_
  exact reps 1000000 0 (by omega) _ 1 none none (sl_FI h0 hI) (by rw [if_neg (by decide)]; exact hw.symm)
def so_q (n : Nat) (u : tc_S) (i : Nat) : Prop := ¬ tp_wI (pv u 9) i = -1 ∧ (sl_bh n u i >>> (tp_wI (pv u 9) i &&& 31)) &&& 1 = 0
noncomputable def so_l1 (n i : Nat) (x : tc_S × Int32) : tc_S × Int32 := @ite _ (so_q n x.1 i) (Classical.propDecidable _) (sp_me i x.1, 1) x
noncomputable def so_ls (n : Nat) : Nat → tc_S × Int32 → tc_S × Int32
  | 0, x => x
  | i + 1, x => so_l1 n i (so_ls n i x)
noncomputable def so_leave (n : Nat) (u : tc_S) : tc_S × Int32 := so_ls n n (sl_find n u, 0)
theorem so_I {n : Nat} {x : tc_S × Int32} (h : sp_I n x.1) : ∀ i, sp_I n (so_ls n i x).1
  | 0 => h
  | i + 1 => by
    show sp_I n (so_l1 n i (so_ls n i x)).1
    unfold so_l1
    split
    · exact sp_I_me (so_I h i)
    · exact so_I h i
theorem so_z {n : Nat} {x : tc_S × Int32} (h : sp_z x.2) : ∀ i, sp_z (so_ls n i x).2
  | 0 => h
  | i + 1 => by
    show sp_z (so_l1 n i (so_ls n i x)).2
    unfold so_l1
    split
    · exact Or.inr rfl
    · exact so_z h i
theorem so_I_leave {n : Nat} {u : tc_S} (h : sp_I n u) : sp_I n (so_leave n u).1 := so_I (x := (sl_find n u, 0)) (sl_FI (sl_findF n u) h) n
set_option maxRecDepth 100000 in
set_option maxHeartbeats 4000000 in
theorem c_S_leaveOutDead (l : Launch) (G : tc_G) (u : tc_S) {n : Nat} (hn : n ≤ 16) (hI : sp_I n u) : tc_C tcx G l yS_leaveOutDead wS_leaveOutDead r0S_leaveOutDead 0 0 [.ref (tc_ad G 13), .ref (tc_ad G 7)] u (tc_Ki (so_leave n u).2 (so_leave n u).1) := by
  refine tw_ofV (own := "TracedCode$Shortener") [some (.ref (tc_ad G 13)), some (.ref (tc_ad G 7)), none, none, none] (by decide +kernel) rfl (Nat.le_of_ble_eq_true rfl) (by rfl) (fun p e s m args below meth c => ?_)
  have hI0 : ∀ i, sp_I n (so_ls n i (sl_find n u, 0)).1 := fun i => so_I (x := (sl_find n u, 0)) (sl_FI (sl_findF n u) hI) i
  have loop : ∀ z : Option Value, tc_V tcx G p l e r0S_leaveOutDead s m args below meth c bS_leaveOutDead 5 tw "TracedCode$Shortener" (some .boolean) [] (MQ below (tc_Qc tcx G (tc_Ki (so_leave n u).2 (so_leave n u).1) s.heap.size) args s 0 0 (tc_A tcx G s.heap.size)) 0 0 (so_ls n 0 (sl_find n u, 0)).1 9 [some (.ref (tc_ad G 13)), some (.ref (tc_ad G 7)), some (.int (so_ls n 0 (sl_find n u, 0)).2), some (.int (nI 0)), z] [] := by
    refine tv_down (P := fun i => ∀ z : Option Value, tc_V tcx G p l e r0S_leaveOutDead s m args below meth c bS_leaveOutDead 5 tw "TracedCode$Shortener" (some .boolean) [] (MQ below (tc_Qc tcx G (tc_Ki (so_leave n u).2 (so_leave n u).1) s.heap.size) args s 0 0 (tc_A tcx G s.heap.size)) 0 0 (so_ls n i (sl_find n u, 0)).1 9 [some (.ref (tc_ad G 13)), some (.ref (tc_ad G 7)), some (.int (so_ls n i (sl_find n u, 0)).2), some (.int (nI i)), z] []) n ?_ ?_
    · intro z
      have hsz := (hI0 n).1
      refine tv_iload_n (pc := 9) dS_leaveOutDead_9 (by rfl) ?_
      refine tv_aload_n (pc := 10) dS_leaveOutDead_10 (by rfl) ?_
      refine tv_callVi (pc := 11) [] tb_7 (by rfl) (c_C_size l G _ code_7) (kVC_size wm_250 ⟨by decide, by decide⟩) (by rfl) (Nat.le_of_ble_eq_true rfl) dS_leaveOutDead_11 ⟨by decide, by decide⟩ ?_
      refine tv_icmp_ge (pc := 14) 57 dS_leaveOutDead_14 (by decide) (fun _ => ?_) (fun h => absurd (by rw [hsz]; exact Int32.le_refl _) h)
      refine tv_iload_n (pc := 57) dS_leaveOutDead_57 (by rfl) ?_
      exact tv_zret (pc := 58) dS_leaveOutDead_58 rfl (Nat.le_refl _) (Nat.le_refl _) (sp_zn (so_z (Or.inl rfl) n)) ⟨rfl, rfl⟩
    · intro i hiN ih z
      have hIv := hI0 i
      have hi16 : tc_ix (nI i) 16 i := tc_ixN (by omega) (by decide)
      obtain ⟨v, hv⟩ : ∃ v, v = (so_ls n i (sl_find n u, 0)) := ⟨_, rfl⟩
      rw [show so_ls n (i + 1) (sl_find n u, 0) = so_l1 n i v from by rw [hv]; rfl, ← nI_1] at ih
      rw [← hv] at hIv ⊢
      have hsz := hIv.1
      refine tv_iload_n (pc := 9) dS_leaveOutDead_9 (by rfl) ?_
      refine tv_aload_n (pc := 10) dS_leaveOutDead_10 (by rfl) ?_
      refine tv_callVi (pc := 11) [] tb_7 (by rfl) (c_C_size l G _ code_7) (kVC_size wm_250 ⟨by decide, by decide⟩) (by rfl) (Nat.le_of_ble_eq_true rfl) dS_leaveOutDead_11 ⟨by decide, by decide⟩ ?_
      refine tv_icmp_ge (pc := 14) 57 dS_leaveOutDead_14 (by decide) (fun h => absurd h (by rw [hsz]; exact nI_ge (by omega) (by omega))) (fun _ => ?_)
      refine tv_aload_n (pc := 17) dS_leaveOutDead_17 (by rfl) ?_
      refine tv_iload_n (pc := 18) dS_leaveOutDead_18 (by rfl) ?_
      refine tv_callVi (pc := 19) [_] tb_7 (by rfl) (c_C_written l G v.1 code_7 hi16) (kVC_written wm_290 ⟨by decide, by decide⟩) (by rfl) (Nat.le_of_ble_eq_true rfl) dS_leaveOutDead_19 ⟨by decide, by decide⟩ ?_
      refine tv_istore4 (pc := 22) dS_leaveOutDead_22 (by rfl) ?_
      refine tv_iload (pc := 24) dS_leaveOutDead_24 (by rfl) ?_
      refine tv_iconst (v := (-1)) (pc := 26) dS_leaveOutDead_26 (by decide) ?_
      refine tv_icmp_eq (pc := 27) 51 dS_leaveOutDead_27 (by decide) (fun h27 => ?_) (fun h27 => ?_)
      · skip
        refine tv_iinc3 (v := 1) (pc := 51) dS_leaveOutDead_51 (by decide) (by rfl) ?_
        refine tv_goto (pc := 54) 9 dS_leaveOutDead_54 (by decide) ?_
        first
        | (rw [show so_l1 n i v = (sp_me i v.1, 1) from by unfold so_l1; rw [if_pos ⟨by assumption, by assumption⟩]] at ih; exact ih _)
        | (rw [show so_l1 n i v = v from by unfold so_l1; rw [if_neg (fun q => by first | exact absurd q.1 (fun z => z (by assumption)) | exact absurd q.2 (by assumption))]] at ih; exact ih _)
      · skip
        refine tv_aload_n (pc := 30) dS_leaveOutDead_30 (by rfl) ?_
        refine tv_aload_n (pc := 31) dS_leaveOutDead_31 (by rfl) ?_
        refine tv_iload_n (pc := 32) dS_leaveOutDead_32 (by rfl) ?_
        refine tv_callVi (pc := 33) [_, _] tb_13 (by rfl) (c_S_liveBehind l G v.1 hn hIv hiN) (kVS_liveBehind wm_291 ⟨by decide, by decide⟩) (by rfl) (Nat.le_of_ble_eq_true rfl) dS_leaveOutDead_33 ⟨by decide, by decide⟩ ?_
        refine tv_iload (pc := 36) dS_leaveOutDead_36 (by rfl) ?_
        refine tv_ishr (pc := 38) dS_leaveOutDead_38 ?_
        refine tv_iconst (v := 1) (pc := 39) dS_leaveOutDead_39 (by decide) ?_
        refine tv_iand (pc := 40) dS_leaveOutDead_40 ?_
        refine tv_if_ne (pc := 41) 51 dS_leaveOutDead_41 (by decide) (fun h41 => ?_) (fun h41 => ?_)
        · skip
          refine tv_iinc3 (v := 1) (pc := 51) dS_leaveOutDead_51 (by decide) (by rfl) ?_
          refine tv_goto (pc := 54) 9 dS_leaveOutDead_54 (by decide) ?_
          first
          | (rw [show so_l1 n i v = (sp_me i v.1, 1) from by unfold so_l1; rw [if_pos ⟨by assumption, by assumption⟩]] at ih; exact ih _)
          | (rw [show so_l1 n i v = v from by unfold so_l1; rw [if_neg (fun q => by first | exact absurd q.1 (fun z => z (by assumption)) | exact absurd q.2 (by assumption))]] at ih; exact ih _)
        · skip
          refine tv_aload_n (pc := 44) dS_leaveOutDead_44 (by rfl) ?_
          refine tv_iload_n (pc := 45) dS_leaveOutDead_45 (by rfl) ?_
          refine tv_callVv (pc := 46) [_] tb_7 (by rfl) (c_C_makeEmpty l G v.1 code_7 hi16) (kVC_makeEmpty wm_271 ⟨by decide, by decide⟩) (by rfl) (Nat.le_of_ble_eq_true rfl) dS_leaveOutDead_46 ⟨by decide, by decide⟩ ?_
          refine tv_iconst (v := 1) (pc := 49) dS_leaveOutDead_49 (by decide) ?_
          refine tv_istore2 (pc := 50) dS_leaveOutDead_50 (by rfl) ?_
          refine tv_iinc3 (v := 1) (pc := 51) dS_leaveOutDead_51 (by decide) (by rfl) ?_
          refine tv_goto (pc := 54) 9 dS_leaveOutDead_54 (by decide) ?_
          first
          | (rw [show so_l1 n i v = (sp_me i v.1, 1) from by unfold so_l1; rw [if_pos ⟨by assumption, by assumption⟩]] at ih; exact ih _)
          | (rw [show so_l1 n i v = v from by unfold so_l1; rw [if_neg (fun q => by first | exact absurd q.1 (fun z => z (by assumption)) | exact absurd q.2 (by assumption))]] at ih; exact ih _)
  refine tv_aload_n (pc := 0) dS_leaveOutDead_0 (by rfl) ?_
  refine tv_aload_n (pc := 1) dS_leaveOutDead_1 (by rfl) ?_
  refine tv_callVv (pc := 2) [_] tb_13 (by rfl) (c_S_findLive l G u hn hI) (kVS_findLive wm_279 ⟨by decide, by decide⟩) (by rfl) (Nat.le_of_ble_eq_true rfl) dS_leaveOutDead_2 ⟨by decide, by decide⟩ ?_
  refine tv_iconst (v := 0) (pc := 5) dS_leaveOutDead_5 (by decide) ?_
  refine tv_istore2 (pc := 6) dS_leaveOutDead_6 (by rfl) ?_
  refine tv_iconst (v := 0) (pc := 7) dS_leaveOutDead_7 (by decide) ?_
  refine tv_istore3 (pc := 8) dS_leaveOutDead_8 (by rfl) ?_
  exact loop none
noncomputable def sr_1 (n : Nat) (u : tc_S) : tc_S := (so_leave n (sp_pass n u).1).1
def sr_c (n : Nat) (u : tc_S) : Prop := ¬ (sp_pass n u).2 = 0 ∨ ¬ (so_leave n (sp_pass n u).1).2 = 0
noncomputable def sr (n : Nat) : Nat → Nat → tc_S → Nat × tc_S
  | 0, r, u => (r, u)
  | f + 1, r, u => @ite _ (sr_c n u) (Classical.propDecidable _) (sr n f (r + 1) (sr_1 n u)) (r, sr_1 n u)
theorem sr_I {n : Nat} (hn : n ≤ 16) {u : tc_S} (h : sp_I n u) : sp_I n (sr_1 n u) := so_I_leave (sp_I_pass hn h)
set_option maxRecDepth 100000 in
set_option maxHeartbeats 4000000 in
theorem c_S_changingRounds (l : Launch) (G : tc_G) (u : tc_S) {n : Nat} (hn : n ≤ 16) (hI : sp_I n u) : tc_C tcx G l yS_changingRounds wS_changingRounds r0S_changingRounds 0 0 [.ref (tc_ad G 13), .ref (tc_ad G 7)] u (tc_Ki (nI (sr n 1000000 0 u).1) (sr n 1000000 0 u).2) := by
  refine tw_ofV (own := "TracedCode$Shortener") [some (.ref (tc_ad G 13)), some (.ref (tc_ad G 7)), none, none, none, none] (by decide +kernel) rfl (Nat.le_of_ble_eq_true rfl) (by rfl) (fun p e s m args below meth c => ?_)
  obtain ⟨w, hw⟩ : ∃ w, w = sr n 1000000 0 u := ⟨_, rfl⟩
  rw [← hw]
  have fin : ∀ (t : Nat) (v : tc_S) (z y : Option Value), (t, v) = w → tc_V tcx G p l e r0S_changingRounds s m args below meth c bS_changingRounds 6 tw "TracedCode$Shortener" (some .int) [] (MQ below (tc_Qc tcx G (tc_Ki (nI w.1) w.2) s.heap.size) args s 0 0 (tc_A tcx G s.heap.size)) 0 0 v 4 [some (.ref (tc_ad G 13)), some (.ref (tc_ad G 7)), some (.int (nI t)), some (.int 0), z, y] [] := by
    intro t v z y he
    refine tv_iload_n (pc := 4) dS_changingRounds_4 (by rfl) ?_
    refine tv_if_eq (pc := 5) 54 dS_changingRounds_5 (by decide) (fun _ => ?_) (fun h => absurd rfl h)
    refine tv_iload_n (pc := 54) dS_changingRounds_54 (by rfl) ?_
    exact tv_iret (pc := 55) dS_changingRounds_55 rfl (Nat.le_refl _) (Nat.le_refl _) ⟨by rw [← he], by rw [← he]⟩
  have reps : ∀ d t : Nat, t + d = 1000000 → ∀ (v : tc_S) (z y : Option Value), sp_I n v → sr n d t v = w → tc_V tcx G p l e r0S_changingRounds s m args below meth c bS_changingRounds 6 tw "TracedCode$Shortener" (some .int) [] (MQ below (tc_Qc tcx G (tc_Ki (nI w.1) w.2) s.heap.size) args s 0 0 (tc_A tcx G s.heap.size)) 0 0 v 4 [some (.ref (tc_ad G 13)), some (.ref (tc_ad G 7)), some (.int (nI t)), some (.int 1), z, y] [] := by
    intro d
    induction d with
    | zero =>
      intro t ht v z y hv he
      have e : t = 1000000 := by omega
      refine tv_iload_n (pc := 4) dS_changingRounds_4 (by rfl) ?_
      refine tv_if_eq (pc := 5) 54 dS_changingRounds_5 (by decide) (fun h => absurd h (by decide)) (fun _ => ?_)
      refine tv_iload_n (pc := 8) dS_changingRounds_8 (by rfl) ?_
      refine tv_ldc (pc := 9)  wm_177 dS_changingRounds_9 ?_
      refine tv_icmp_ge (pc := 11) 54 dS_changingRounds_11 (by decide) (fun _ => ?_) (fun h => absurd (by rw [e]; decide) h)
      refine tv_iload_n (pc := 54) dS_changingRounds_54 (by rfl) ?_
      exact tv_iret (pc := 55) dS_changingRounds_55 rfl (Nat.le_refl _) (Nat.le_refl _) ⟨by rw [← he]; rfl, by rw [← he]; rfl⟩
    | succ d ihd =>
      intro t ht v z y hv he
      unfold sr at he
      refine tv_iload_n (pc := 4) dS_changingRounds_4 (by rfl) ?_
      refine tv_if_eq (pc := 5) 54 dS_changingRounds_5 (by decide) (fun h => absurd h (by decide)) (fun _ => ?_)
      refine tv_iload_n (pc := 8) dS_changingRounds_8 (by rfl) ?_
      refine tv_ldc (pc := 9)  wm_177 dS_changingRounds_9 ?_
      refine tv_icmp_ge (pc := 11) 54 dS_changingRounds_11 (by decide) (fun h => absurd h (nI_mil (by omega))) (fun _ => ?_)
      refine tv_aload_n (pc := 14) dS_changingRounds_14 (by rfl) ?_
      refine tv_aload_n (pc := 15) dS_changingRounds_15 (by rfl) ?_
      refine tv_callVi (pc := 16) [_] tb_13 (by rfl) (c_S_passCopiesOn l G v hn hv) (kVS_passCopiesOn wm_178 ⟨by decide, by decide⟩) (by rfl) (Nat.le_of_ble_eq_true rfl) dS_changingRounds_16 ⟨by decide, by decide⟩ ?_
      refine tv_istore4 (pc := 19) dS_changingRounds_19 (by rfl) ?_
      refine tv_aload_n (pc := 21) dS_changingRounds_21 (by rfl) ?_
      refine tv_aload_n (pc := 22) dS_changingRounds_22 (by rfl) ?_
      refine tv_callVi (pc := 23) [_] tb_13 (by rfl) (c_S_leaveOutDead l G _ hn (sp_I_pass hn hv)) (kVS_leaveOutDead wm_275 ⟨by decide, by decide⟩) (by rfl) (Nat.le_of_ble_eq_true rfl) dS_changingRounds_23 ⟨by decide, by decide⟩ ?_
      refine tv_istore5 (pc := 26) dS_changingRounds_26 (by rfl) ?_
      refine tv_iload (pc := 28) dS_changingRounds_28 (by rfl) ?_
      refine tv_if_ne (pc := 30) 38 dS_changingRounds_30 (by decide) (fun h30 => ?_) (fun h30 => ?_)
      · skip
        refine tv_iconst (v := 1) (pc := 38) dS_changingRounds_38 (by decide) ?_
        refine tv_goto (pc := 39) 43 dS_changingRounds_39 (by decide) ?_
        refine tv_istore3 (pc := 43) dS_changingRounds_43 (by rfl) ?_
        refine tv_iload_n (pc := 44) dS_changingRounds_44 (by rfl) ?_
        refine tv_if_eq (pc := 45) 51 dS_changingRounds_45 (by decide) (fun h => absurd h (by decide)) (fun _ => ?_)
        refine tv_iinc2 (v := 1) (pc := 48) dS_changingRounds_48 (by decide) (by rfl) ?_
        refine tv_goto (pc := 51) 4 dS_changingRounds_51 (by decide) ?_
        first
        | (have hc : sr_c n v := by first | exact Or.inl (by assumption) | exact Or.inr (by assumption)
           rw [if_pos hc] at he
           have ih := ihd (t + 1) (by omega) (sr_1 n v) (some (.int (sp_pass n v).2)) (some (.int (so_leave n (sp_pass n v).1).2)) (sr_I hn hv) he
           rw [← nI_1] at ih
           exact ih)
        | (have hc : ¬ sr_c n v := fun q => by rcases q with q | q <;> exact q (by assumption)
           rw [if_neg hc] at he
           exact fin t (sr_1 n v) _ _ he)
      · skip
        refine tv_iload (pc := 33) dS_changingRounds_33 (by rfl) ?_
        refine tv_if_eq (pc := 35) 42 dS_changingRounds_35 (by decide) (fun h35 => ?_) (fun h35 => ?_)
        · skip
          refine tv_iconst (v := 0) (pc := 42) dS_changingRounds_42 (by decide) ?_
          refine tv_istore3 (pc := 43) dS_changingRounds_43 (by rfl) ?_
          refine tv_iload_n (pc := 44) dS_changingRounds_44 (by rfl) ?_
          refine tv_if_eq (pc := 45) 51 dS_changingRounds_45 (by decide) (fun _ => ?_) (fun h => absurd (by decide) h)
          refine tv_goto (pc := 51) 4 dS_changingRounds_51 (by decide) ?_
          first
          | (have hc : sr_c n v := by first | exact Or.inl (by assumption) | exact Or.inr (by assumption)
             rw [if_pos hc] at he
             have ih := ihd (t + 1) (by omega) (sr_1 n v) (some (.int (sp_pass n v).2)) (some (.int (so_leave n (sp_pass n v).1).2)) (sr_I hn hv) he
             rw [← nI_1] at ih
             exact ih)
          | (have hc : ¬ sr_c n v := fun q => by rcases q with q | q <;> exact q (by assumption)
             rw [if_neg hc] at he
             exact fin t (sr_1 n v) _ _ he)
        · skip
          refine tv_iconst (v := 1) (pc := 38) dS_changingRounds_38 (by decide) ?_
          refine tv_goto (pc := 39) 43 dS_changingRounds_39 (by decide) ?_
          refine tv_istore3 (pc := 43) dS_changingRounds_43 (by rfl) ?_
          refine tv_iload_n (pc := 44) dS_changingRounds_44 (by rfl) ?_
          refine tv_if_eq (pc := 45) 51 dS_changingRounds_45 (by decide) (fun h => absurd h (by decide)) (fun _ => ?_)
          refine tv_iinc2 (v := 1) (pc := 48) dS_changingRounds_48 (by decide) (by rfl) ?_
          refine tv_goto (pc := 51) 4 dS_changingRounds_51 (by decide) ?_
          first
          | (have hc : sr_c n v := by first | exact Or.inl (by assumption) | exact Or.inr (by assumption)
             rw [if_pos hc] at he
             have ih := ihd (t + 1) (by omega) (sr_1 n v) (some (.int (sp_pass n v).2)) (some (.int (so_leave n (sp_pass n v).1).2)) (sr_I hn hv) he
             rw [← nI_1] at ih
             exact ih)
          | (have hc : ¬ sr_c n v := fun q => by rcases q with q | q <;> exact q (by assumption)
             rw [if_neg hc] at he
             exact fin t (sr_1 n v) _ _ he)
  refine tv_iconst (v := 0) (pc := 0) dS_changingRounds_0 (by decide) ?_
  refine tv_istore2 (pc := 1) dS_changingRounds_1 (by rfl) ?_
  refine tv_iconst (v := 1) (pc := 2) dS_changingRounds_2 (by decide) ?_
  refine tv_istore3 (pc := 3) dS_changingRounds_3 (by rfl) ?_
  exact reps 1000000 0 (by omega) u none none hI hw.symm
