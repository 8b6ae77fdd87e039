def pl_F (u v : tc_S) : Prop := (∀ q, q < 56 ∨ q = 65 ∨ 68 ≤ q → v q = u q) ∧ (∀ j, j ≠ 14 → v 56 j = u 56 j) ∧ ∀ j i, j < 4 → i < 16 → v (57 + j) i = u (57 + j) i
theorem pl_ps {u v : tc_S} (h : ps_F u v) : pl_F u v := ⟨fun q hq => h.1 q (by omega), h.2⟩
theorem pl_F.rf {u : tc_S} : pl_F u u := ⟨fun _ _ => rfl, fun _ _ => rfl, fun _ _ _ _ => rfl⟩
theorem pl_F.tr {u v w : tc_S} (h : pl_F u v) (h2 : pl_F v w) : pl_F u w := ⟨fun q hq => (h2.1 q hq).trans (h.1 q hq), fun j hj => (h2.2.1 j hj).trans (h.2.1 j hj), fun j i h1 h3 => (h2.2.2 j i h1 h3).trans (h.2.2 j i h1 h3)⟩
theorem pl_me {u v : tc_S} {p : Nat} (h : pl_F u v) : pl_F u (sd_me p v) := h.tr (pl_ps (sd_me_F (ps_nr nr_F.rf)))
def ld_F (u v : tc_S) : Prop := (∀ q, q ≠ 56 → q ≠ 64 → q ≠ 66 → q ≠ 67 → v q = u q) ∧ ∀ j, j ≠ 14 → v 56 j = u 56 j
theorem ld_F.rf {u : tc_S} : ld_F u u := ⟨fun _ _ _ _ _ => rfl, fun _ _ => rfl⟩
theorem ld_df {u v w : tc_S} (h : ld_F u v) (h2 : df_F v w) : ld_F u w := ⟨fun q a b c d => (h2.1 q a c d).trans (h.1 q a b c d), fun j hj => (h2.2 j hj).trans (h.2 j hj)⟩
theorem ld_up {u v : tc_S} {i : Nat} {x : Int32} (h : ld_F u v) : ld_F u (tc_up v 64 i x) := ⟨fun q a b c d => (tc_up_ne b).trans (h.1 q a b c d), fun j hj => by rw [tc_up_ne (by decide)]; exact h.2 j hj⟩
theorem ld_pl {u v : tc_S} (h : ld_F u v) : pl_F u v := ⟨fun q hq => h.1 q (by omega) (by omega) (by omega) (by omega), h.2, fun j i hj _ => by rw [h.1 (57 + j) (by omega) (by omega) (by omega) (by omega)]⟩
theorem ld_pm {u v : tc_S} (h : ld_F u v) (o : Nat) : pm v o = pm u o := by
  funext j i
  unfold pm
  by_cases hj : j < 4
  · rw [if_pos hj, if_pos hj, h.1 (57 + j) (by omega) (by omega) (by omega) (by omega)]
  · rw [if_neg hj, if_neg hj]
theorem sd_w0 {P : tp_P} {i : Nat} (hl : tp_line P i) : (P 0 i < 0 → tp_w P i = none) ∧ (2 < P 0 i → tp_w P i = none) ∧ (¬ P 0 i < 0 → ¬ 2 < P 0 i → ∃ a, a < 6 ∧ P 1 i = nI a ∧ tp_w P i = some a) := by
  obtain ⟨h0, h1, -⟩ := hl
  have yes : P 0 i ≠ -1 → (P 0 i = 0 ∨ P 0 i = 1 ∨ P 0 i = 2) → ∃ a, a < 6 ∧ P 1 i = nI a ∧ tp_w P i = some a := fun hk hk2 => by
    obtain ⟨a, ha, ea⟩ := h1 hk
    exact ⟨a, ha, ea, by unfold tp_w; rw [if_pos hk2, ea]; exact congrArg some (nI_clamp (by omega))⟩
  have no : ¬ (P 0 i = 0 ∨ P 0 i = 1 ∨ P 0 i = 2) → tp_w P i = none := fun hk => by unfold tp_w; rw [if_neg hk]
  rcases h0 with k | k | k | k | k | k | k
  · exact ⟨fun _ => no (by rw [k]; decide), fun _ => no (by rw [k]; decide), fun h => absurd (by rw [k]; decide) h⟩
  · exact ⟨fun h => absurd h (by rw [k]; decide), fun h => absurd h (by rw [k]; decide), fun _ _ => yes (by rw [k]; decide) (Or.inl k)⟩
  · exact ⟨fun h => absurd h (by rw [k]; decide), fun h => absurd h (by rw [k]; decide), fun _ _ => yes (by rw [k]; decide) (Or.inr (Or.inl k))⟩
  · exact ⟨fun h => absurd h (by rw [k]; decide), fun h => absurd h (by rw [k]; decide), fun _ _ => yes (by rw [k]; decide) (Or.inr (Or.inr k))⟩
  · exact ⟨fun _ => no (by rw [k]; decide), fun _ => no (by rw [k]; decide), fun _ h => absurd (by rw [k]; decide) h⟩
  · exact ⟨fun _ => no (by rw [k]; decide), fun _ => no (by rw [k]; decide), fun _ h => absurd (by rw [k]; decide) h⟩
  · exact ⟨fun _ => no (by rw [k]; decide), fun _ => no (by rw [k]; decide), fun _ h => absurd (by rw [k]; decide) h⟩
theorem tp_dead_none {n : Nat} {P : tp_P} {i : Nat} (h : tp_w P i = none) : ¬ tp_dead n P i := by
  rintro ⟨r, h2, -⟩
  rw [h] at h2; cases h2
theorem tp_dead_some {n : Nat} {P : tp_P} {i a : Nat} (h : tp_w P i = some a) : tp_dead n P i ↔ ¬ lv_L n P i a := by
  constructor
  · rintro ⟨r, h2, h3⟩
    rw [h] at h2; cases h2
    exact h3
  · exact fun h3 => ⟨a, h, h3⟩
def lo_Q (n : Nat) (u : tc_S) (p : Nat) (v : tc_S) : Prop := pl_F u v ∧ (∀ i, i < n → v 64 i = tp_b (tp_dead n (pm u 16) i)) ∧ ∀ j i, j < 4 → i < n → pm v 16 j i = if i < p then tp_leave n (pm u 16) j i else pm u 16 j i
theorem lo_Q_n {n : Nat} {u v : tc_S} {p : Nat} (hp : p < n) (h : lo_Q n u p v) (hd : ¬ tp_dead n (pm u 16) p) : lo_Q n u (p + 1) v := by
  refine ⟨h.1, h.2.1, fun j i hj hi => ?_⟩
  rw [h.2.2 j i hj hi]
  by_cases e : i = p
  · subst e
    rw [if_neg (by omega), if_pos (by omega), tp_leave_n hi hj hd]
  · by_cases q : i < p
    · rw [if_pos q, if_pos (by omega)]
    · rw [if_neg q, if_neg (by omega)]
theorem lo_Q_d {n : Nat} {u v : tc_S} {p : Nat} (hp : p < n) (h : lo_Q n u p v) (hd : tp_dead n (pm u 16) p) : lo_Q n u (p + 1) (sd_me p v) := by
  refine ⟨pl_me h.1, fun i hi => by rw [sd_me_o (by omega)]; exact h.2.1 i hi, fun j i hj hi => ?_⟩
  rw [sd_me_pm hj]
  by_cases e : i = p
  · subst e
    rw [if_pos rfl, if_pos (show i < i + 1 by omega), tp_leave_d hi hj hd]
  · rw [if_neg e, h.2.2 j i hj hi]
    by_cases q : i < p
    · rw [if_pos q, if_pos (by omega)]
    · rw [if_neg q, if_neg (by omega)]
set_option maxRecDepth 100000 in
set_option maxHeartbeats 4000000 in
theorem c_D_leaveOut (l : Launch) (G : tc_G) (u : tc_S) {n : Nat} (hs : u 56 1 = nI n) (hn : n ≤ 16) (hP : ∀ i, i < n → tp_line (pm u 0) i) (hP1 : ∀ i, i < n → tp_line (pm u 16) i) (ht : ∀ i, i < n → tp_tg n (pm u 16) i = tp_tg n (pm u 0) i) (hre : ∀ i, i < n → u 65 i = 1) : tc_C tcx G l yD_leaveOut wD_leaveOut r0D_leaveOut 0 0 [.ref (tc_ad G 56)] u (tc_KI (fun r0 v => r0 = tp_b (tp_lch n (pm u 16)) ∧ pl_F u v ∧ ∀ j i, j < 4 → i < n → pm v 16 j i = tp_leave n (pm u 16) j i)) := by
  refine tw_ofV (own := "TracedCodeModel") [some (.ref (tc_ad G 56)), none, none] (by decide +kernel) rfl (Nat.le_of_ble_eq_true rfl) (by rfl) (fun p e s m args below meth c => ?_)
  have last : ∀ (d q : Nat) (v : tc_S), q + d = n → lo_Q n u q v → tc_V tcx G p l e r0D_leaveOut s m args below meth c bD_leaveOut 3 tw "TracedCodeModel" (some .boolean) [] (MQ below (tc_Qc tcx G (tc_KI (fun r0 v => r0 = tp_b (tp_lch n (pm u 16)) ∧ pl_F u v ∧ ∀ j i, j < 4 → i < n → pm v 16 j i = tp_leave n (pm u 16) j i)) s.heap.size) args s 0 0 (tc_A tcx G s.heap.size)) 0 0 v 82 [some (.ref (tc_ad G 56)), some (.int (tp_b (∃ i, i < q ∧ tp_dead n (pm u 16) i))), some (.int (nI q))] [] := by
    intro d
    induction d with
    | zero =>
      intro q v hd hQ
      have hq : q = n := by omega
      subst hq
      have hv1 : v 56 1 = nI q := by rw [hQ.1.2.1 1 (by decide)]; exact hs
      refine tv_iload_n (pc := 82) dD_leaveOut_82 (by rfl) ?_
      refine tv_aload_n (pc := 83) dD_leaveOut_83 (by rfl) ?_
      refine tv_getI (pc := 84) 1 tb_56 (by rfl) uwD_ (by decide) wm_663 (by rfl) dD_leaveOut_84 ?_
      refine tv_icmp_ge (pc := 87) 112 dD_leaveOut_87 (by decide) (fun _ => ?_) (fun h => absurd (by rw [hv1]; exact Int32.le_refl _) h)
      refine tv_iload_n (pc := 112) dD_leaveOut_112 (by rfl) ?_
      exact tv_zret (pc := 113) dD_leaveOut_113 rfl (Nat.le_refl _) (Nat.le_refl _) tp_b_z ⟨_, rfl, rfl, hQ.1, fun j i hj hi => by rw [hQ.2.2 j i hj hi, if_pos hi]⟩
    | succ d ih =>
      intro q v hd hQ
      have hqn : q < n := by omega
      have hv1 : v 56 1 = nI n := by rw [hQ.1.2.1 1 (by decide)]; exact hs
      have i16 : tc_ix (nI q) 16 q := tc_ixN (by omega) (by decide)
      have z64 := hQ.2.1 q hqn
      refine tv_iload_n (pc := 82) dD_leaveOut_82 (by rfl) ?_
      refine tv_aload_n (pc := 83) dD_leaveOut_83 (by rfl) ?_
      refine tv_getI (pc := 84) 1 tb_56 (by rfl) uwD_ (by decide) wm_663 (by rfl) dD_leaveOut_84 ?_
      refine tv_icmp_ge (pc := 87) 112 dD_leaveOut_87 (by decide) (fun h => absurd h (by rw [hv1]; exact nI_ge hqn (by omega))) (fun _ => ?_)
      refine tv_aload_n (pc := 90) dD_leaveOut_90 (by rfl) ?_
      refine tv_getR (pc := 91) 10 tb_56 (by rfl) uwD_ (by decide) wm_672 (by rfl) dD_leaveOut_91 ?_
      refine tv_iload_n (pc := 94) dD_leaveOut_94 (by rfl) ?_
      refine tv_zald (pc := 95) tb_64 (by assumption) dD_leaveOut_95 ?_
      rw [z64]
      refine tv_if_eq (pc := 96) 106 dD_leaveOut_96 (by decide) (fun h96 => ?_) (fun h96 => ?_)
      · skip
        first
        | (have hx : tp_b (tp_dead n (pm u 16) q) = 0 := (by assumption)
           have ha := ih (q + 1) v (by omega) (lo_Q_n hqn hQ (tp_b_q hx))
           rw [tp_b_iff (ex_lt_s.trans ⟨fun z => z.resolve_right (tp_b_q hx), Or.inl⟩), ← nI_1] at ha)
        | (have hx : ¬ tp_b (tp_dead n (pm u 16) q) = 0 := (by assumption)
           have ha := ih (q + 1) (sd_me q v) (by omega) (lo_Q_d hqn hQ (tp_b_p hx))
           rw [tp_b_t (ex_lt_s.mpr (Or.inr (tp_b_p hx))), ← nI_1] at ha)
        refine tv_iinc2 (v := 1) (pc := 106) dD_leaveOut_106 (by decide) (by rfl) ?_
        refine tv_goto (pc := 109) 82 dD_leaveOut_109 (by decide) ?_
        exact ha
      · skip
        refine tv_aload_n (pc := 99) dD_leaveOut_99 (by rfl) ?_
        refine tv_iload_n (pc := 100) dD_leaveOut_100 (by rfl) ?_
        refine tv_callVv (pc := 101) [_] tb_56 (by rfl) (c_D_empty l G v (i := q) (by omega)) (kVD_empty wm_819 ⟨by decide, by decide⟩) (by rfl) (Nat.le_of_ble_eq_true rfl) dD_leaveOut_101 ⟨by decide, by decide⟩ ?_
        refine tv_iconst (v := 1) (pc := 104) dD_leaveOut_104 (by decide) ?_
        refine tv_istore1 (pc := 105) dD_leaveOut_105 (by rfl) ?_
        first
        | (have hx : tp_b (tp_dead n (pm u 16) q) = 0 := (by assumption)
           have ha := ih (q + 1) v (by omega) (lo_Q_n hqn hQ (tp_b_q hx))
           rw [tp_b_iff (ex_lt_s.trans ⟨fun z => z.resolve_right (tp_b_q hx), Or.inl⟩), ← nI_1] at ha)
        | (have hx : ¬ tp_b (tp_dead n (pm u 16) q) = 0 := (by assumption)
           have ha := ih (q + 1) (sd_me q v) (by omega) (lo_Q_d hqn hQ (tp_b_p hx))
           rw [tp_b_t (ex_lt_s.mpr (Or.inr (tp_b_p hx))), ← nI_1] at ha)
        refine tv_iinc2 (v := 1) (pc := 106) dD_leaveOut_106 (by decide) (by rfl) ?_
        refine tv_goto (pc := 109) 82 dD_leaveOut_109 (by decide) ?_
        exact ha
  have first : ∀ (d q : Nat) (v : tc_S), q + d = n → ld_F u v → (∀ i, i < q → v 64 i = tp_b (tp_dead n (pm u 16) i)) → tc_V tcx G p l e r0D_leaveOut s m args below meth c bD_leaveOut 3 tw "TracedCodeModel" (some .boolean) [] (MQ below (tc_Qc tcx G (tc_KI (fun r0 v => r0 = tp_b (tp_lch n (pm u 16)) ∧ pl_F u v ∧ ∀ j i, j < 4 → i < n → pm v 16 j i = tp_leave n (pm u 16) j i)) s.heap.size) args s 0 0 (tc_A tcx G s.heap.size)) 0 0 v 4 [some (.ref (tc_ad G 56)), some (.int 0), some (.int (nI q))] [] := by
    intro d
    induction d with
    | zero =>
      intro q v hd hF hA
      have hq : q = n := by omega
      subst hq
      have hv1 : v 56 1 = nI q := by rw [hF.2 1 (by decide)]; exact hs
      have hl := last q 0 v (by omega) ⟨ld_pl hF, hA, fun j i hj hi => by rw [if_neg (by omega), ld_pm hF]⟩
      rw [tp_b_0] at hl
      refine tv_iload_n (pc := 4) dD_leaveOut_4 (by rfl) ?_
      refine tv_aload_n (pc := 5) dD_leaveOut_5 (by rfl) ?_
      refine tv_getI (pc := 6) 1 tb_56 (by rfl) uwD_ (by decide) wm_663 (by rfl) dD_leaveOut_6 ?_
      refine tv_icmp_ge (pc := 9) 80 dD_leaveOut_9 (by decide) (fun _ => ?_) (fun h => absurd (by rw [hv1]; exact Int32.le_refl _) h)
      refine tv_iconst (v := 0) (pc := 80) dD_leaveOut_80 (by decide) ?_
      refine tv_istore2 (pc := 81) dD_leaveOut_81 (by rfl) ?_
      exact hl
    | succ d ih =>
      intro q v hd hF hA
      have hqn : q < n := by omega
      have hv1 : v 56 1 = nI n := by rw [hF.2 1 (by decide)]; exact hs
      have i32 : tc_ix (16 + nI q) 32 (16 + q) := ix16 (by omega)
      have i16 : tc_ix (nI q) 16 q := tc_ixN (by omega) (by decide)
      have i17 : tc_ix (nI q) 17 q := tc_ixN (by omega) (by decide)
      have z57 : v 57 (16 + q) = pm u 16 0 q := by rw [hF.1 57 (by decide) (by decide) (by decide) (by decide), pm_of (by decide)]
      have z58 : v 58 (16 + q) = pm u 16 1 q := by rw [hF.1 58 (by decide) (by decide) (by decide) (by decide), pm_of (by decide)]
      have z65 : v 65 q = 1 := by rw [hF.1 65 (by decide) (by decide) (by decide) (by decide)]; exact hre q hqn
      have hw0 := sd_w0 (hP1 q hqn)
      have nx : ∀ (w : tc_S) (x : Int32), df_F v w → x = tp_b (tp_dead n (pm u 16) q) → tc_V tcx G p l e r0D_leaveOut s m args below meth c bD_leaveOut 3 tw "TracedCodeModel" (some .boolean) [] (MQ below (tc_Qc tcx G (tc_KI (fun r0 v => r0 = tp_b (tp_lch n (pm u 16)) ∧ pl_F u v ∧ ∀ j i, j < 4 → i < n → pm v 16 j i = tp_leave n (pm u 16) j i)) s.heap.size) args s 0 0 (tc_A tcx G s.heap.size)) 0 0 (tc_up w 64 q x) 4 [some (.ref (tc_ad G 56)), some (.int 0), some (.int (nI (q + 1)))] [] := by
        intro w x hF2 hx
        refine ih (q + 1) _ (by omega) (ld_up (ld_df hF hF2)) (fun i hi => ?_)
        by_cases e : i = q
        · subst e; rw [tc_up_self, hx]
        · rw [tc_up_at e, hF2.1 64 (by decide) (by decide) (by decide)]; exact hA i (by omega)
      refine tv_iload_n (pc := 4) dD_leaveOut_4 (by rfl) ?_
      refine tv_aload_n (pc := 5) dD_leaveOut_5 (by rfl) ?_
      refine tv_getI (pc := 6) 1 tb_56 (by rfl) uwD_ (by decide) wm_663 (by rfl) dD_leaveOut_6 ?_
      refine tv_icmp_ge (pc := 9) 80 dD_leaveOut_9 (by decide) (fun h => absurd h (by rw [hv1]; exact nI_ge hqn (by omega))) (fun _ => ?_)
      refine tv_aload_n (pc := 12) dD_leaveOut_12 (by rfl) ?_
      refine tv_getR (pc := 13) 10 tb_56 (by rfl) uwD_ (by decide) wm_672 (by rfl) dD_leaveOut_13 ?_
      refine tv_iload_n (pc := 16) dD_leaveOut_16 (by rfl) ?_
      refine tv_aload_n (pc := 17) dD_leaveOut_17 (by rfl) ?_
      refine tv_getR (pc := 18) 2 tb_56 (by rfl) uwD_ (by decide) wm_664 (by rfl) dD_leaveOut_18 ?_
      refine tv_bipush (v := 16) (pc := 21) dD_leaveOut_21 (by decide) ?_
      refine tv_iload_n (pc := 23) dD_leaveOut_23 (by rfl) ?_
      refine tv_iadd (pc := 24) dD_leaveOut_24 ?_
      refine tv_iald (pc := 25) tb_57 (by assumption) dD_leaveOut_25 ?_
      rw [z57]
      refine tv_if_lt (pc := 26) 72 dD_leaveOut_26 (by decide) (fun h26 => ?_) (fun h26 => ?_)
      · skip
        refine tv_iconst (v := 0) (pc := 72) dD_leaveOut_72 (by decide) ?_
        refine tv_zast (pc := 73) tb_64 (by assumption) (by rfl) dD_leaveOut_73 ?_
        first
        | (have hx : 2 < pm u 16 0 q := (by assumption)
           have ha := nx v 0 df_F.rf (tp_b_f (tp_dead_none (hw0.2.1 hx))).symm
           rw [← nI_1] at ha)
        | (have hx : pm u 16 0 q < 0 := (by assumption)
           have ha := nx v 0 df_F.rf (tp_b_f (tp_dead_none (hw0.1 hx))).symm
           rw [← nI_1] at ha)
        | (have hx : tp_b (lv_L n (pm u 16) q a) = 0 := (by assumption)
           have ha := nx w 1 hF2 (tp_b_t ((tp_dead_some ew).mpr (tp_b_q hx))).symm
           rw [← nI_1] at ha)
        | (have hx : ¬ tp_b (lv_L n (pm u 16) q a) = 0 := (by assumption)
           have ha := nx w 0 hF2 (tp_b_f (fun z => (tp_dead_some ew).mp z (tp_b_p hx))).symm
           rw [← nI_1] at ha)
        refine tv_iinc2 (v := 1) (pc := 74) dD_leaveOut_74 (by decide) (by rfl) ?_
        refine tv_goto (pc := 77) 4 dD_leaveOut_77 (by decide) ?_
        exact ha
      · skip
        refine tv_aload_n (pc := 29) dD_leaveOut_29 (by rfl) ?_
        refine tv_getR (pc := 30) 2 tb_56 (by rfl) uwD_ (by decide) wm_664 (by rfl) dD_leaveOut_30 ?_
        refine tv_bipush (v := 16) (pc := 33) dD_leaveOut_33 (by decide) ?_
        refine tv_iload_n (pc := 35) dD_leaveOut_35 (by rfl) ?_
        refine tv_iadd (pc := 36) dD_leaveOut_36 ?_
        refine tv_iald (pc := 37) tb_57 (by assumption) dD_leaveOut_37 ?_
        rw [z57]
        refine tv_iconst (v := 2) (pc := 38) dD_leaveOut_38 (by decide) ?_
        refine tv_icmp_gt (pc := 39) 72 dD_leaveOut_39 (by decide) (fun h39 => ?_) (fun h39 => ?_)
        · skip
          refine tv_iconst (v := 0) (pc := 72) dD_leaveOut_72 (by decide) ?_
          refine tv_zast (pc := 73) tb_64 (by assumption) (by rfl) dD_leaveOut_73 ?_
          first
          | (have hx : 2 < pm u 16 0 q := (by assumption)
             have ha := nx v 0 df_F.rf (tp_b_f (tp_dead_none (hw0.2.1 hx))).symm
             rw [← nI_1] at ha)
          | (have hx : pm u 16 0 q < 0 := (by assumption)
             have ha := nx v 0 df_F.rf (tp_b_f (tp_dead_none (hw0.1 hx))).symm
             rw [← nI_1] at ha)
          | (have hx : tp_b (lv_L n (pm u 16) q a) = 0 := (by assumption)
             have ha := nx w 1 hF2 (tp_b_t ((tp_dead_some ew).mpr (tp_b_q hx))).symm
             rw [← nI_1] at ha)
          | (have hx : ¬ tp_b (lv_L n (pm u 16) q a) = 0 := (by assumption)
             have ha := nx w 0 hF2 (tp_b_f (fun z => (tp_dead_some ew).mp z (tp_b_p hx))).symm
             rw [← nI_1] at ha)
          refine tv_iinc2 (v := 1) (pc := 74) dD_leaveOut_74 (by decide) (by rfl) ?_
          refine tv_goto (pc := 77) 4 dD_leaveOut_77 (by decide) ?_
          exact ha
        · skip
          obtain ⟨a, ha6, ea, ew⟩ := hw0.2.2 (by assumption) (by assumption)
          have li := c_D_isLive l G v (n := n) (i := q) (r := a) (by rw [hF.2 1 (by decide)]; exact hs) hn hqn ha6 (by rw [ld_pm hF]; exact hP) (by rw [ld_pm hF]; exact hP1) (by rw [ld_pm hF, ld_pm hF]; exact ht)
          rw [ld_pm hF] at li
          refine tv_aload_n (pc := 42) dD_leaveOut_42 (by rfl) ?_
          refine tv_getR (pc := 43) 11 tb_56 (by rfl) uwD_ (by decide) wm_673 (by rfl) dD_leaveOut_43 ?_
          refine tv_iload_n (pc := 46) dD_leaveOut_46 (by rfl) ?_
          refine tv_zald (pc := 47) tb_65 (by assumption) dD_leaveOut_47 ?_
          refine tv_if_eq (pc := 48) 68 dD_leaveOut_48 (by decide) (fun h => absurd h (by rw [z65]; decide)) (fun _ => ?_)
          refine tv_aload_n (pc := 51) dD_leaveOut_51 (by rfl) ?_
          refine tv_iload_n (pc := 52) dD_leaveOut_52 (by rfl) ?_
          refine tv_aload_n (pc := 53) dD_leaveOut_53 (by rfl) ?_
          refine tv_getR (pc := 54) 3 tb_56 (by rfl) uwD_ (by decide) wm_665 (by rfl) dD_leaveOut_54 ?_
          refine tv_bipush (v := 16) (pc := 57) dD_leaveOut_57 (by decide) ?_
          refine tv_iload_n (pc := 59) dD_leaveOut_59 (by rfl) ?_
          refine tv_iadd (pc := 60) dD_leaveOut_60 ?_
          refine tv_iald (pc := 61) tb_58 (by assumption) dD_leaveOut_61 ?_
          rw [z58, ea]
          refine tv_callVI (pc := 62) [_, _] tb_56 (by rfl) li (kVD_isLive wm_827 ⟨by decide, by decide⟩) (by rfl) (Nat.le_of_ble_eq_true rfl) dD_leaveOut_62 ⟨by decide, by decide⟩ (fun r0 w hw => ?_)
          obtain ⟨er, hF2⟩ := hw
          rw [er]
          refine tv_if_ne (pc := 65) 72 dD_leaveOut_65 (by decide) (fun h65 => ?_) (fun h65 => ?_)
          · skip
            refine tv_iconst (v := 0) (pc := 72) dD_leaveOut_72 (by decide) ?_
            refine tv_zast (pc := 73) tb_64 (by assumption) (by rfl) dD_leaveOut_73 ?_
            first
            | (have hx : 2 < pm u 16 0 q := (by assumption)
               have ha := nx v 0 df_F.rf (tp_b_f (tp_dead_none (hw0.2.1 hx))).symm
               rw [← nI_1] at ha)
            | (have hx : pm u 16 0 q < 0 := (by assumption)
               have ha := nx v 0 df_F.rf (tp_b_f (tp_dead_none (hw0.1 hx))).symm
               rw [← nI_1] at ha)
            | (have hx : tp_b (lv_L n (pm u 16) q a) = 0 := (by assumption)
               have ha := nx w 1 hF2 (tp_b_t ((tp_dead_some ew).mpr (tp_b_q hx))).symm
               rw [← nI_1] at ha)
            | (have hx : ¬ tp_b (lv_L n (pm u 16) q a) = 0 := (by assumption)
               have ha := nx w 0 hF2 (tp_b_f (fun z => (tp_dead_some ew).mp z (tp_b_p hx))).symm
               rw [← nI_1] at ha)
            refine tv_iinc2 (v := 1) (pc := 74) dD_leaveOut_74 (by decide) (by rfl) ?_
            refine tv_goto (pc := 77) 4 dD_leaveOut_77 (by decide) ?_
            exact ha
          · skip
            refine tv_iconst (v := 1) (pc := 68) dD_leaveOut_68 (by decide) ?_
            refine tv_goto (pc := 69) 73 dD_leaveOut_69 (by decide) ?_
            refine tv_zast (pc := 73) tb_64 (by assumption) (by rfl) dD_leaveOut_73 ?_
            first
            | (have hx : 2 < pm u 16 0 q := (by assumption)
               have ha := nx v 0 df_F.rf (tp_b_f (tp_dead_none (hw0.2.1 hx))).symm
               rw [← nI_1] at ha)
            | (have hx : pm u 16 0 q < 0 := (by assumption)
               have ha := nx v 0 df_F.rf (tp_b_f (tp_dead_none (hw0.1 hx))).symm
               rw [← nI_1] at ha)
            | (have hx : tp_b (lv_L n (pm u 16) q a) = 0 := (by assumption)
               have ha := nx w 1 hF2 (tp_b_t ((tp_dead_some ew).mpr (tp_b_q hx))).symm
               rw [← nI_1] at ha)
            | (have hx : ¬ tp_b (lv_L n (pm u 16) q a) = 0 := (by assumption)
               have ha := nx w 0 hF2 (tp_b_f (fun z => (tp_dead_some ew).mp z (tp_b_p hx))).symm
               rw [← nI_1] at ha)
            refine tv_iinc2 (v := 1) (pc := 74) dD_leaveOut_74 (by decide) (by rfl) ?_
            refine tv_goto (pc := 77) 4 dD_leaveOut_77 (by decide) ?_
            exact ha
  refine tv_iconst (v := 0) (pc := 0) dD_leaveOut_0 (by decide) ?_
  refine tv_istore1 (pc := 1) dD_leaveOut_1 (by rfl) ?_
  refine tv_iconst (v := 0) (pc := 2) dD_leaveOut_2 (by decide) ?_
  refine tv_istore2 (pc := 3) dD_leaveOut_3 (by rfl) ?_
  exact first n 0 u (by omega) ld_F.rf (fun i hi => absurd hi (by omega))
