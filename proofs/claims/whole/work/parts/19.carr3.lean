def sk_put (q : Nat) (v : tc_S) : tc_S := tc_col (tc_col v 26 q (fun r => v 45 r) 9) 36 q (fun r => v 46 r) 9
def sk_nar (q : Nat) (v : tc_S) : tc_S := tc_col v 26 q (sk_n v q) 9
noncomputable def sk_nch (q : Nat) (v : tc_S) : Int32 := tp_b (∃ r, r < 9 ∧ sk_q v q r)
/-- nothing but the carriers' lists has changed -/
theorem sk_F1 (i : Nat) (v : tc_S) : sf_F v (sk_fol i v) := fun q hq => sk_rs_o (by omega)
theorem sk_F2 (i : Nat) (v : tc_S) : sf_F v (sk_put i v) := fun q hq => (tc_col_out (by omega)).trans (tc_col_out (by omega))
theorem sk_F3 (i : Nat) (v : tc_S) : sf_F v (sk_nar i v) := fun q hq => tc_col_out (by omega)
theorem sf_Fne {u v : tc_S} (h : sf_F u v) {i : Nat} (hl : ¬ pv u 3 0 i = -1) : ¬ pv v 3 0 i = -1 := by rw [sf_Fpv h (by omega) (by omega)]; exact hl
set_option maxRecDepth 100000 in
set_option maxHeartbeats 4000000 in
theorem c_F_settle_K (l : Launch) (G : tc_G) (u : tc_S) {n : Nat} (hs : u 7 1 = nI n) (hn : n ≤ 16) (hP : ∀ i, i < n → tp_line (pv u 9) i) (hQ : ∀ i, i < n → tp_line (pv u 3) i ∧ ¬ pv u 3 0 i = -1) : tc_C tcx G l yF_settle wF_settle r0F_settle 0 0 [.ref (tc_ad G 24), .ref (tc_ad G 1), .ref (tc_ad G 7)] u (tc_Kv (sf_3 sk_fol sk_nar sk_nch (fun i v => tp_tg n (pv v 9) i) n 1000000 (sf_1 sk_fol sk_put n u))) := by
  refine tw_ofV (own := "TracedCode$Facts") [some (.ref (tc_ad G 24)), some (.ref (tc_ad G 1)), some (.ref (tc_ad G 7)), none, none, none] (by decide +kernel) rfl (Nat.le_of_ble_eq_true rfl) (by rfl) (fun p e s m args below meth c => ?_)
  obtain ⟨w, hw⟩ : ∃ w, w = (sf_3 sk_fol sk_nar sk_nch (fun i v => tp_tg n (pv v 9) i) n 1000000 (sf_1 sk_fol sk_put n u)) := ⟨_, rfl⟩
  rw [← hw]
  have pass : ∀ (t : Nat) (v : tc_S), sf_F u v → tc_V tcx G p l e r0F_settle s m args below meth c bF_settle 6 tw "TracedCode$Facts" none [] (MQ below (tc_Qc tcx G (tc_Kv w) s.heap.size) args s 0 0 (tc_A tcx G s.heap.size)) 0 0 (sf_2 sk_fol sk_nar sk_nch (fun i v => tp_tg n (pv v 9) i) n (v, 0)).1 98 [some (.ref (tc_ad G 24)), some (.ref (tc_ad G 1)), some (.ref (tc_ad G 7)), some (.int (sf_2 sk_fol sk_nar sk_nch (fun i v => tp_tg n (pv v 9) i) n (v, 0)).2), some (.int (nI t)), some (.int (nI n))] [] → tc_V tcx G p l e r0F_settle s m args below meth c bF_settle 6 tw "TracedCode$Facts" none [] (MQ below (tc_Qc tcx G (tc_Kv w) s.heap.size) args s 0 0 (tc_A tcx G s.heap.size)) 0 0 v 51 [some (.ref (tc_ad G 24)), some (.ref (tc_ad G 1)), some (.ref (tc_ad G 7)), some (.int 0), some (.int (nI t)), some (.int (nI 0))] [] := by
    intro t v hv hend
    have hF : ∀ i, sf_F u (sf_2 sk_fol sk_nar sk_nch (fun i v => tp_tg n (pv v 9) i) i (v, 0)).1 := fun i => hv.tr (sf_F2 sk_F1 sk_F3 (v, 0) i)
    have key : tc_V tcx G p l e r0F_settle s m args below meth c bF_settle 6 tw "TracedCode$Facts" none [] (MQ below (tc_Qc tcx G (tc_Kv w) s.heap.size) args s 0 0 (tc_A tcx G s.heap.size)) 0 0 (sf_2 sk_fol sk_nar sk_nch (fun i v => tp_tg n (pv v 9) i) 0 (v, 0)).1 51 [some (.ref (tc_ad G 24)), some (.ref (tc_ad G 1)), some (.ref (tc_ad G 7)), some (.int (sf_2 sk_fol sk_nar sk_nch (fun i v => tp_tg n (pv v 9) i) 0 (v, 0)).2), some (.int (nI t)), some (.int (nI 0))] [] := by
      refine tv_down (P := fun i => tc_V tcx G p l e r0F_settle s m args below meth c bF_settle 6 tw "TracedCode$Facts" none [] (MQ below (tc_Qc tcx G (tc_Kv w) s.heap.size) args s 0 0 (tc_A tcx G s.heap.size)) 0 0 (sf_2 sk_fol sk_nar sk_nch (fun i v => tp_tg n (pv v 9) i) i (v, 0)).1 51 [some (.ref (tc_ad G 24)), some (.ref (tc_ad G 1)), some (.ref (tc_ad G 7)), some (.int (sf_2 sk_fol sk_nar sk_nch (fun i v => tp_tg n (pv v 9) i) i (v, 0)).2), some (.int (nI t)), some (.int (nI i))] []) n ?_ ?_
      · have hsz : (sf_2 sk_fol sk_nar sk_nch (fun i v => tp_tg n (pv v 9) i) n (v, 0)).1 7 1 = nI n := by rw [hF n 7 (by omega), hs]
        refine tv_iload (pc := 51) dF_settle_51 (by rfl) ?_
        refine tv_aload_n (pc := 53) dF_settle_53 (by rfl) ?_
        refine tv_callVi (pc := 54) [] tb_7 (by rfl) (c_C_size l G _ code_7) (kVC_size wm_192 ⟨by decide, by decide⟩) (by rfl) (Nat.le_of_ble_eq_true rfl) dF_settle_54 ⟨by decide, by decide⟩ ?_
        refine tv_icmp_ge (pc := 57) 98 dF_settle_57 (by decide) (fun _ => ?_) (fun h => absurd (by rw [hsz]; exact Int32.le_refl _) h)
        exact hend
      · intro i hiN ih
        have hsz : (sf_2 sk_fol sk_nar sk_nch (fun i v => tp_tg n (pv v 9) i) i (v, 0)).1 7 1 = nI n := by rw [hF i 7 (by omega), hs]
        have hi16 : tc_ix (nI i) 16 i := tc_ixN (by omega) (by decide)
        have hl := sf_Fline (hF i) (b := 9) (by omega) (hP i hiN)
        obtain ⟨v0, hv0⟩ : ∃ v0, v0 = (sf_2 sk_fol sk_nar sk_nch (fun i v => tp_tg n (pv v 9) i) i (v, 0)) := ⟨_, rfl⟩
        have eih : sf_2 sk_fol sk_nar sk_nch (fun i v => tp_tg n (pv v 9) i) (i + 1) (v, 0) = (sk_nar ((fun i v => tp_tg n (pv v 9) i) i (sk_nar (i + 1) (sk_fol i v0.1))) (sk_nar (i + 1) (sk_fol i v0.1)), (v0.2 ||| sk_nch (i + 1) (sk_fol i v0.1)) ||| sk_nch ((fun i v => tp_tg n (pv v 9) i) i (sk_nar (i + 1) (sk_fol i v0.1))) (sk_nar (i + 1) (sk_fol i v0.1))) := by rw [hv0]; rfl
        rw [eih, ← nI_1] at ih
        have hF0 : sf_F u v0.1 := by rw [hv0]; exact hF i
        rw [← hv0] at hsz hl ⊢
        refine tv_iload (pc := 51) dF_settle_51 (by rfl) ?_
        refine tv_aload_n (pc := 53) dF_settle_53 (by rfl) ?_
        refine tv_callVi (pc := 54) [] tb_7 (by rfl) (c_C_size l G _ code_7) (kVC_size wm_192 ⟨by decide, by decide⟩) (by rfl) (Nat.le_of_ble_eq_true rfl) dF_settle_54 ⟨by decide, by decide⟩ ?_
        refine tv_icmp_ge (pc := 57) 98 dF_settle_57 (by decide) (fun h => absurd h (by rw [hsz]; exact nI_ge (by omega) (by omega))) (fun _ => ?_)
        refine tv_aload_n (pc := 60) dF_settle_60 (by rfl) ?_
        refine tv_aload_n (pc := 61) dF_settle_61 (by rfl) ?_
        refine tv_aload_n (pc := 62) dF_settle_62 (by rfl) ?_
        refine tv_iload (pc := 63) dF_settle_63 (by rfl) ?_
        refine tv_callUv (pc := 65) [_, _, _] tb_24 (by rfl) (c_K_follow l G v0.1 (by omega : i < 16) (sf_Fline hF0 (b := 3) (by omega) (hQ i hiN).1) (sf_Fne hF0 (hQ i hiN).2)) (tw_kU (rm := r0K_follow) (x := (⟨"TracedCode$Facts", "follow", "(LTracedCode$Code;LTracedCode$Code;I)V"⟩ : MethodName)) 3 wm_198 wm_199 wm_200 wm_6 wm_201 (by decide +kernel) rfl rfl (by decide +kernel) wm_196 ⟨by decide, by decide⟩) (by rfl) (Nat.le_of_ble_eq_true rfl) dF_settle_65 ⟨by decide, by decide⟩ ?_
        refine tv_iload_n (pc := 68) dF_settle_68 (by rfl) ?_
        refine tv_aload_n (pc := 69) dF_settle_69 (by rfl) ?_
        refine tv_iload (pc := 70) dF_settle_70 (by rfl) ?_
        refine tv_iconst (v := 1) (pc := 72) dF_settle_72 (by decide) ?_
        refine tv_iadd (pc := 73) dF_settle_73 ?_
        rw [nI_1]
        refine tv_callUi (pc := 74) [_] tb_24 (by rfl) (c_K_narrow l G (sk_fol i v0.1) (pt := (i + 1)) (tc_ixN (by omega) (by decide))) (tw_kU (rm := r0K_narrow) (x := (⟨"TracedCode$Facts", "narrow", "(I)Z"⟩ : MethodName)) 1 wm_239 wm_240 wm_241 wm_6 wm_242 (by decide +kernel) rfl rfl (by decide +kernel) wm_237 ⟨by decide, by decide⟩) (by rfl) (Nat.le_of_ble_eq_true rfl) dF_settle_74 ⟨by decide, by decide⟩ ?_
        refine tv_ior (pc := 77) dF_settle_77 ?_
        refine tv_istore3 (pc := 78) dF_settle_78 (by rfl) ?_
        refine tv_iload_n (pc := 79) dF_settle_79 (by rfl) ?_
        refine tv_aload_n (pc := 80) dF_settle_80 (by rfl) ?_
        have hF1 : sf_F u (sk_nar (i + 1) (sk_fol i v0.1)) := hF0.tr ((sk_F1 _ _).tr (sk_F3 _ _))
        have hsz1 : (sk_nar (i + 1) (sk_fol i v0.1)) 7 1 = nI n := by rw [hF1 7 (by omega), hs]
        have h4 := (sf_Fline hF1 (b := 9) (by omega) (hP i hiN)).2.2.2.1
        refine tv_aload_n (pc := 81) dF_settle_81 (by rfl) ?_
        refine tv_iload (pc := 82) dF_settle_82 (by rfl) ?_
        refine tv_callVi (pc := 84) [_] tb_7 (by rfl) (c_C_target l G _ code_7 hi16 hsz1 hn h4) (kVC_target wm_246 ⟨by decide, by decide⟩) (by rfl) (Nat.le_of_ble_eq_true rfl) dF_settle_84 ⟨by decide, by decide⟩ ?_
        refine tv_callUi (pc := 87) [_] tb_24 (by rfl) (c_K_narrow l G (sk_nar (i + 1) (sk_fol i v0.1)) (pt := (tp_tg n (pv (sk_nar (i + 1) (sk_fol i v0.1)) 9) i)) (tc_ixN (by have := tp_tg_le (n := n) (P := pv (sk_nar (i + 1) (sk_fol i v0.1)) 9) hiN; omega) (by decide))) (tw_kU (rm := r0K_narrow) (x := (⟨"TracedCode$Facts", "narrow", "(I)Z"⟩ : MethodName)) 1 wm_239 wm_240 wm_241 wm_6 wm_242 (by decide +kernel) rfl rfl (by decide +kernel) wm_237 ⟨by decide, by decide⟩) (by rfl) (Nat.le_of_ble_eq_true rfl) dF_settle_87 ⟨by decide, by decide⟩ ?_
        refine tv_ior (pc := 90) dF_settle_90 ?_
        refine tv_istore3 (pc := 91) dF_settle_91 (by rfl) ?_
        refine tv_iinc5 (v := 1) (pc := 92) dF_settle_92 (by decide) (by rfl) ?_
        refine tv_goto (pc := 95) 51 dF_settle_95 (by decide) ?_
        exact ih
    exact key
  have reps : ∀ d t : Nat, t + d = 1000000 → ∀ (v : tc_S) (c0 : Int32) (z : Option Value), sf_F u v → (if c0 = 0 then v else sf_3 sk_fol sk_nar sk_nch (fun i v => tp_tg n (pv v 9) i) n d v) = w → tc_V tcx G p l e r0F_settle s m args below meth c bF_settle 6 tw "TracedCode$Facts" none [] (MQ below (tc_Qc tcx G (tc_Kv w) s.heap.size) args s 0 0 (tc_A tcx G s.heap.size)) 0 0 v 35 [some (.ref (tc_ad G 24)), some (.ref (tc_ad G 1)), some (.ref (tc_ad G 7)), some (.int c0), some (.int (nI t)), z] [] := by
    intro d
    induction d with
    | zero =>
      intro t ht v c0 z hv he
      have e : t = 1000000 := by omega
      refine tv_iload_n (pc := 35) dF_settle_35 (by rfl) ?_
      refine tv_if_eq (pc := 36) 104 dF_settle_36 (by decide) (fun h36 => ?_) (fun h36 => ?_)
      · skip
        exact tv_vret (pc := 104) dF_settle_104 rfl (Nat.le_refl _) (Nat.le_refl _) ⟨rfl, by first | (rw [if_pos (by assumption)] at he; exact he) | (rw [if_neg (by assumption)] at he; exact he)⟩
      · skip
        refine tv_iload (pc := 39) dF_settle_39 (by rfl) ?_
        refine tv_ldc (pc := 41)  wm_236 dF_settle_41 ?_
        refine tv_icmp_ge (pc := 43) 104 dF_settle_43 (by decide) (fun _ => ?_) (fun h => absurd (by rw [e]; decide) h)
        exact tv_vret (pc := 104) dF_settle_104 rfl (Nat.le_refl _) (Nat.le_refl _) ⟨rfl, by first | (rw [if_pos (by assumption)] at he; exact he) | (rw [if_neg (by assumption)] at he; exact he)⟩
    | succ d ihd =>
      intro t ht v c0 z hv he
      refine tv_iload_n (pc := 35) dF_settle_35 (by rfl) ?_
      refine tv_if_eq (pc := 36) 104 dF_settle_36 (by decide) (fun h36 => ?_) (fun h36 => ?_)
      · skip
        exact tv_vret (pc := 104) dF_settle_104 rfl (Nat.le_refl _) (Nat.le_refl _) ⟨rfl, by rw [if_pos (by assumption)] at he; exact he⟩
      · skip
        refine tv_iload (pc := 39) dF_settle_39 (by rfl) ?_
        refine tv_ldc (pc := 41)  wm_236 dF_settle_41 ?_
        refine tv_icmp_ge (pc := 43) 104 dF_settle_43 (by decide) (fun h => absurd h (nI_mil (by omega))) (fun _ => ?_)
        refine tv_iconst (v := 0) (pc := 46) dF_settle_46 (by decide) ?_
        refine tv_istore3 (pc := 47) dF_settle_47 (by rfl) ?_
        refine tv_iconst (v := 0) (pc := 48) dF_settle_48 (by decide) ?_
        refine tv_istore5 (pc := 49) dF_settle_49 (by rfl) ?_
        refine pass t v hv ?_
        have ih := ihd (t + 1) (by omega) (sf_2 sk_fol sk_nar sk_nch (fun i v => tp_tg n (pv v 9) i) n (v, 0)).1 (sf_2 sk_fol sk_nar sk_nch (fun i v => tp_tg n (pv v 9) i) n (v, 0)).2 (some (.int (nI n))) (hv.tr (sf_F2 sk_F1 sk_F3 (v, 0) n)) (by rw [if_neg (by assumption)] at he; exact he)
        rw [← nI_1] at ih
        refine tv_iinc4 (v := 1) (pc := 98) dF_settle_98 (by decide) (by rfl) ?_
        refine tv_goto (pc := 101) 35 dF_settle_101 (by decide) ?_
        exact ih
  have hF : ∀ i, sf_F u (sf_1 sk_fol sk_put i u) := sf_F1 sk_F1 sk_F2 u
  have way : tc_V tcx G p l e r0F_settle s m args below meth c bF_settle 6 tw "TracedCode$Facts" none [] (MQ below (tc_Qc tcx G (tc_Kv w) s.heap.size) args s 0 0 (tc_A tcx G s.heap.size)) 0 0 (sf_1 sk_fol sk_put 0 u) 2 [some (.ref (tc_ad G 24)), some (.ref (tc_ad G 1)), some (.ref (tc_ad G 7)), some (.int (nI 0)), none, none] [] := by
    refine tv_down (P := fun i => tc_V tcx G p l e r0F_settle s m args below meth c bF_settle 6 tw "TracedCode$Facts" none [] (MQ below (tc_Qc tcx G (tc_Kv w) s.heap.size) args s 0 0 (tc_A tcx G s.heap.size)) 0 0 (sf_1 sk_fol sk_put i u) 2 [some (.ref (tc_ad G 24)), some (.ref (tc_ad G 1)), some (.ref (tc_ad G 7)), some (.int (nI i)), none, none] []) n ?_ ?_
    · have hsz : (sf_1 sk_fol sk_put n u) 7 1 = nI n := by rw [hF n 7 (by omega), hs]
      refine tv_iload_n (pc := 2) dF_settle_2 (by rfl) ?_
      refine tv_aload_n (pc := 3) dF_settle_3 (by rfl) ?_
      refine tv_callVi (pc := 4) [] tb_7 (by rfl) (c_C_size l G _ code_7) (kVC_size wm_192 ⟨by decide, by decide⟩) (by rfl) (Nat.le_of_ble_eq_true rfl) dF_settle_4 ⟨by decide, by decide⟩ ?_
      refine tv_icmp_ge (pc := 7) 30 dF_settle_7 (by decide) (fun _ => ?_) (fun h => absurd (by rw [hsz]; exact Int32.le_refl _) h)
      refine tv_iconst (v := 1) (pc := 30) dF_settle_30 (by decide) ?_
      refine tv_istore3 (pc := 31) dF_settle_31 (by rfl) ?_
      refine tv_iconst (v := 0) (pc := 32) dF_settle_32 (by decide) ?_
      refine tv_istore4 (pc := 33) dF_settle_33 (by rfl) ?_
      exact reps 1000000 0 (by omega) _ 1 none (hF n) (by rw [if_neg (by decide)]; exact hw.symm)
    · intro i hiN ih
      have hsz : (sf_1 sk_fol sk_put i u) 7 1 = nI n := by rw [hF i 7 (by omega), hs]
      have hi16 : tc_ix (nI i) 16 i := tc_ixN (by omega) (by decide)
      have hl := sf_Fline (hF i) (b := 9) (by omega) (hP i hiN)
      obtain ⟨v0, hv0⟩ : ∃ v0, v0 = (sf_1 sk_fol sk_put i u) := ⟨_, rfl⟩
      rw [show sf_1 sk_fol sk_put (i + 1) u = sk_put (i + 1) (sk_fol i v0) from by rw [hv0]; rfl, ← nI_1] at ih
      have hF0 : sf_F u v0 := by rw [hv0]; exact hF i
      rw [← hv0] at hsz hl ⊢
      refine tv_iload_n (pc := 2) dF_settle_2 (by rfl) ?_
      refine tv_aload_n (pc := 3) dF_settle_3 (by rfl) ?_
      refine tv_callVi (pc := 4) [] tb_7 (by rfl) (c_C_size l G _ code_7) (kVC_size wm_192 ⟨by decide, by decide⟩) (by rfl) (Nat.le_of_ble_eq_true rfl) dF_settle_4 ⟨by decide, by decide⟩ ?_
      refine tv_icmp_ge (pc := 7) 30 dF_settle_7 (by decide) (fun h => absurd h (by rw [hsz]; exact nI_ge (by omega) (by omega))) (fun _ => ?_)
      refine tv_aload_n (pc := 10) dF_settle_10 (by rfl) ?_
      refine tv_aload_n (pc := 11) dF_settle_11 (by rfl) ?_
      refine tv_aload_n (pc := 12) dF_settle_12 (by rfl) ?_
      refine tv_iload_n (pc := 13) dF_settle_13 (by rfl) ?_
      refine tv_callUv (pc := 14) [_, _, _] tb_24 (by rfl) (c_K_follow l G v0 (by omega : i < 16) (sf_Fline hF0 (b := 3) (by omega) (hQ i hiN).1) (sf_Fne hF0 (hQ i hiN).2)) (tw_kU (rm := r0K_follow) (x := (⟨"TracedCode$Facts", "follow", "(LTracedCode$Code;LTracedCode$Code;I)V"⟩ : MethodName)) 3 wm_198 wm_199 wm_200 wm_6 wm_201 (by decide +kernel) rfl rfl (by decide +kernel) wm_196 ⟨by decide, by decide⟩) (by rfl) (Nat.le_of_ble_eq_true rfl) dF_settle_14 ⟨by decide, by decide⟩ ?_
      refine tv_aload_n (pc := 17) dF_settle_17 (by rfl) ?_
      refine tv_iload_n (pc := 18) dF_settle_18 (by rfl) ?_
      refine tv_iconst (v := 1) (pc := 19) dF_settle_19 (by decide) ?_
      refine tv_iadd (pc := 20) dF_settle_20 ?_
      rw [nI_1]
      refine tv_callUv (pc := 21) [_] tb_24 (by rfl) (c_K_put l G (sk_fol i v0) (pt := (i + 1)) (tc_ixN (by omega) (by decide))) (tw_kU (rm := r0K_put) (x := (⟨"TracedCode$Facts", "put", "(I)V"⟩ : MethodName)) 1 wm_229 wm_230 wm_231 wm_6 wm_232 (by decide +kernel) rfl rfl (by decide +kernel) wm_227 ⟨by decide, by decide⟩) (by rfl) (Nat.le_of_ble_eq_true rfl) dF_settle_21 ⟨by decide, by decide⟩ ?_
      refine tv_iinc3 (v := 1) (pc := 24) dF_settle_24 (by decide) (by rfl) ?_
      refine tv_goto (pc := 27) 2 dF_settle_27 (by decide) ?_
      exact ih
  refine tv_iconst (v := 0) (pc := 0) dF_settle_0 (by decide) ?_
  refine tv_istore3 (pc := 1) dF_settle_1 (by rfl) ?_
  exact way
def sk_m0 (r : Nat) : Int32 := if r < 6 then 127 else 0
noncomputable def sk_find (n : Nat) (u : tc_S) : tc_S := sf_3 sk_fol sk_nar sk_nch (fun i v => tp_tg n (pv v 9) i) n 1000000 (sf_1 sk_fol sk_put n (tc_col (tc_col u 26 0 sk_m0 9) 36 0 (fun _ => 0) 9))
theorem sk_find0 (u : tc_S) (i : Nat) : sf_F u (tc_col (tc_col u 26 0 sk_m0 i) 36 0 (fun _ => 0) i) := fun q hq => (tc_col_out (by omega)).trans (tc_col_out (by omega))
theorem sk_findF (n : Nat) (u : tc_S) : sf_F u (sk_find n u) := (sk_find0 u 9).tr ((sf_F1 sk_F1 sk_F2 _ n).tr (sf_F3 sk_F1 sk_F3 1000000 _))
set_option maxRecDepth 100000 in
set_option maxHeartbeats 4000000 in
theorem c_K_find (l : Launch) (G : tc_G) (u : tc_S) {n : Nat} (hs : u 7 1 = nI n) (hn : n ≤ 16) (hP : ∀ i, i < n → tp_line (pv u 9) i) (hQ : ∀ i, i < n → tp_line (pv u 3) i ∧ ¬ pv u 3 0 i = -1) : tc_C tcx G l yK_find wK_find r0K_find 0 0 [.ref (tc_ad G 24), .ref (tc_ad G 1), .ref (tc_ad G 7)] u (tc_Kv (sk_find n u)) := by
  refine tw_ofV (own := "TracedCode$Carriers") [some (.ref (tc_ad G 24)), some (.ref (tc_ad G 1)), some (.ref (tc_ad G 7)), none] (by decide +kernel) rfl (Nat.le_of_ble_eq_true rfl) (by rfl) (fun p e s m args below meth c => ?_)
  have loop : tc_V tcx G p l e r0K_find s m args below meth c bK_find 4 tw "TracedCode$Carriers" none [] (MQ below (tc_Qc tcx G (tc_Kv (sk_find n u)) s.heap.size) args s 0 0 (tc_A tcx G s.heap.size)) 0 0 (tc_col (tc_col u 26 0 sk_m0 0) 36 0 (fun _ => 0) 0) 2 [some (.ref (tc_ad G 24)), some (.ref (tc_ad G 1)), some (.ref (tc_ad G 7)), some (.int (nI 0))] [] := by
    refine tv_down (P := fun i => tc_V tcx G p l e r0K_find s m args below meth c bK_find 4 tw "TracedCode$Carriers" none [] (MQ below (tc_Qc tcx G (tc_Kv (sk_find n u)) s.heap.size) args s 0 0 (tc_A tcx G s.heap.size)) 0 0 (tc_col (tc_col u 26 0 sk_m0 i) 36 0 (fun _ => 0) i) 2 [some (.ref (tc_ad G 24)), some (.ref (tc_ad G 1)), some (.ref (tc_ad G 7)), some (.int (nI i))] []) 9 ?_ ?_
    · have h0 := sk_find0 u 9
      refine tv_iload_n (pc := 2) dK_find_2 (by rfl) ?_
      refine tv_bipush (v := 9) (pc := 3) dK_find_3 (by decide) ?_
      refine tv_icmp_ge (pc := 5) 43 dK_find_5 (by decide) (fun _ => ?_) (fun h => absurd (by decide) h)
      refine tv_aload_n (pc := 43) dK_find_43 (by rfl) ?_
      refine tv_aload_n (pc := 44) dK_find_44 (by rfl) ?_
      refine tv_aload_n (pc := 45) dK_find_45 (by rfl) ?_
      refine tv_callUv (pc := 46) [_, _] tb_24 (by rfl) (c_F_settle_K l G _ (by rw [h0 7 (by omega)]; exact hs) hn (fun i hi => sf_Fline h0 (by omega) (hP i hi)) (fun i hi => ⟨sf_Fline h0 (by omega) (hQ i hi).1, sf_Fne h0 (hQ i hi).2⟩)) (tw_kU (rm := r0F_settle) (x := (⟨"TracedCode$Carriers", "settle", "(LTracedCode$Code;LTracedCode$Code;)V"⟩ : MethodName)) 2 wm_306 wm_307 wm_190 wm_4 wm_191 (by decide +kernel) rfl rfl (by decide +kernel) wm_305 ⟨by decide, by decide⟩) (by rfl) (Nat.le_of_ble_eq_true rfl) dK_find_46 ⟨by decide, by decide⟩ ?_
      exact tv_vret (pc := 49) dK_find_49 rfl (Nat.le_refl _) (Nat.le_refl _) ⟨rfl, rfl⟩
    · intro i hiN ih
      have hi9 : tc_ix (nI i) 9 i := tc_ixN hiN (by decide)
      have e1 : tc_up (tc_col (tc_col u 26 0 sk_m0 i) 36 0 (fun _ => 0) i) (26 + i) 0 (sk_m0 i) = tc_col (tc_col u 26 0 sk_m0 (i + 1)) 36 0 (fun _ => 0) i := by
        rw [tc_col_upc (by omega), tc_col_s]
      rw [← tc_col_s (i := i) (b := 36) (f := fun _ => 0), ← nI_1] at ih
      refine tv_iload_n (pc := 2) dK_find_2 (by rfl) ?_
      refine tv_bipush (v := 9) (pc := 3) dK_find_3 (by decide) ?_
      refine tv_icmp_ge (pc := 5) 43 dK_find_5 (by decide) (fun h => absurd h (nI_lt9 hiN)) (fun _ => ?_)
      refine tv_aload_n (pc := 8) dK_find_8 (by rfl) ?_
      refine tv_getR (pc := 9) 0 tb_24 (by rfl) uwK_ (by decide) wm_80 (by rfl) dK_find_9 ?_
      refine tv_iload_n (pc := 12) dK_find_12 (by rfl) ?_
      refine tv_aald (pc := 13) tb_25 hi9 dK_find_13 ?_
      refine tv_iconst (v := 0) (pc := 14) dK_find_14 (by decide) ?_
      refine tv_iload_n (pc := 15) dK_find_15 (by rfl) ?_
      refine tv_bipush (v := 6) (pc := 16) dK_find_16 (by decide) ?_
      refine tv_icmp_ge (pc := 18) 26 dK_find_18 (by decide) (fun h18 => ?_) (fun h18 => ?_)
      · skip
        refine tv_iconst (v := 0) (pc := 26) dK_find_26 (by decide) ?_
        refine tv_iast (pc := 27) (j := 0) (rows_26 _ hi9.2.2) ⟨by decide, by decide, by decide⟩ dK_find_27 ?_
        first
        | (have h : ¬ (6 : Int32) ≤ nI i := by assumption
           have h6 : i < 6 := Classical.byContradiction fun q => h (by rw [show (6 : Int32) = nI 6 from rfl]; exact nI_le (by omega) (by omega))
           rw [show sk_m0 i = 127 from if_pos h6] at e1)
        | (have h : (6 : Int32) ≤ nI i := by assumption
           have h6 : ¬ i < 6 := fun q => nI_lt6 q h
           rw [show sk_m0 i = 0 from if_neg h6] at e1)
        rw [e1]
        refine tv_aload_n (pc := 28) dK_find_28 (by rfl) ?_
        refine tv_getR (pc := 29) 1 tb_24 (by rfl) uwK_ (by decide) wm_81 (by rfl) dK_find_29 ?_
        refine tv_iload_n (pc := 32) dK_find_32 (by rfl) ?_
        refine tv_aald (pc := 33) tb_35 hi9 dK_find_33 ?_
        refine tv_iconst (v := 0) (pc := 34) dK_find_34 (by decide) ?_
        refine tv_iconst (v := 0) (pc := 35) dK_find_35 (by decide) ?_
        refine tv_iast (pc := 36) (j := 0) (rows_36 _ hi9.2.2) ⟨by decide, by decide, by decide⟩ dK_find_36 ?_
        refine tv_iinc3 (v := 1) (pc := 37) dK_find_37 (by decide) (by rfl) ?_
        refine tv_goto (pc := 40) 2 dK_find_40 (by decide) ?_
        exact ih
      · skip
        refine tv_bipush (v := 127) (pc := 21) dK_find_21 (by decide) ?_
        refine tv_goto (pc := 23) 27 dK_find_23 (by decide) ?_
        refine tv_iast (pc := 27) (j := 0) (rows_26 _ hi9.2.2) ⟨by decide, by decide, by decide⟩ dK_find_27 ?_
        first
        | (have h : ¬ (6 : Int32) ≤ nI i := by assumption
           have h6 : i < 6 := Classical.byContradiction fun q => h (by rw [show (6 : Int32) = nI 6 from rfl]; exact nI_le (by omega) (by omega))
           rw [show sk_m0 i = 127 from if_pos h6] at e1)
        | (have h : (6 : Int32) ≤ nI i := by assumption
           have h6 : ¬ i < 6 := fun q => nI_lt6 q h
           rw [show sk_m0 i = 0 from if_neg h6] at e1)
        rw [e1]
        refine tv_aload_n (pc := 28) dK_find_28 (by rfl) ?_
        refine tv_getR (pc := 29) 1 tb_24 (by rfl) uwK_ (by decide) wm_81 (by rfl) dK_find_29 ?_
        refine tv_iload_n (pc := 32) dK_find_32 (by rfl) ?_
        refine tv_aald (pc := 33) tb_35 hi9 dK_find_33 ?_
        refine tv_iconst (v := 0) (pc := 34) dK_find_34 (by decide) ?_
        refine tv_iconst (v := 0) (pc := 35) dK_find_35 (by decide) ?_
        refine tv_iast (pc := 36) (j := 0) (rows_36 _ hi9.2.2) ⟨by decide, by decide, by decide⟩ dK_find_36 ?_
        refine tv_iinc3 (v := 1) (pc := 37) dK_find_37 (by decide) (by rfl) ?_
        refine tv_goto (pc := 40) 2 dK_find_40 (by decide) ?_
        exact ih
  rw [tc_col_0, tc_col_0] at loop
  refine tv_iconst (v := 0) (pc := 0) dK_find_0 (by decide) ?_
  refine tv_istore3 (pc := 1) dK_find_1 (by rfl) ?_
  exact loop
