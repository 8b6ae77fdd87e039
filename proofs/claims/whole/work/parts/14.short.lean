set_option maxRecDepth 100000 in
set_option maxHeartbeats 4000000 in
theorem c_A_fill (l : Launch) (G : tc_G) (u : tc_S) {k n : Nat} {li : List Nat} (hk : tcx.1[k]? = some (0, n, li)) (hn : n < 2 ^ 31) (x : Int32) : tc_C tcx G l yA_fill wA_fill r0A_fill 0 0 [.ref (tc_ad G k), .int x] u (tc_Kv (tc_row u k (fun _ => x) n)) := by
  refine tw_ofV (own := "java/util/Arrays") [some (.ref (tc_ad G k)), some (.int x), none, none] (by decide +kernel) rfl (Nat.le_of_ble_eq_true rfl) (by rfl) (fun p e s m args below meth c => ?_)
  have loop : tc_V tcx G p l e r0A_fill s m args below meth c bA_fill 4 tw "java/util/Arrays" none [] (MQ below (tc_Qc tcx G (tc_Kv (tc_row u k (fun _ => x) n)) s.heap.size) args s 0 0 (tc_A tcx G s.heap.size)) 0 0 (tc_row u k (fun _ => x) 0) 5 [some (.ref (tc_ad G k)), some (.int x), some (.int (nI 0)), some (.int (nI n))] [] := by
    refine tv_down (P := fun i => tc_V tcx G p l e r0A_fill s m args below meth c bA_fill 4 tw "java/util/Arrays" none [] (MQ below (tc_Qc tcx G (tc_Kv (tc_row u k (fun _ => x) n)) s.heap.size) args s 0 0 (tc_A tcx G s.heap.size)) 0 0 (tc_row u k (fun _ => x) i) 5 [some (.ref (tc_ad G k)), some (.int x), some (.int (nI i)), some (.int (nI n))] []) n ?_ ?_
    · skip
      refine tv_iload_n (pc := 5) dA_fill_5 (by rfl) ?_
      refine tv_iload_n (pc := 6) dA_fill_6 (by rfl) ?_
      refine tv_icmp_ge (pc := 7) 20 dA_fill_7 (by decide) (fun _ => ?_) (fun h => absurd (Int32.le_refl _) h)
      exact tv_vret (pc := 20) dA_fill_20 rfl (Nat.le_refl _) (Nat.le_refl _) ⟨rfl, rfl⟩
    · intro i hiN ih
      have hin : tc_ix (nI i) n i := tc_ixN hiN hn
      rw [← tc_row_s (i := i) (f := fun _ => x), ← nI_1] at ih
      refine tv_iload_n (pc := 5) dA_fill_5 (by rfl) ?_
      refine tv_iload_n (pc := 6) dA_fill_6 (by rfl) ?_
      refine tv_icmp_ge (pc := 7) 20 dA_fill_7 (by decide) (fun h => absurd h (nI_ge hiN hn)) (fun _ => ?_)
      refine tv_aload_n (pc := 10) dA_fill_10 (by rfl) ?_
      refine tv_iload_n (pc := 11) dA_fill_11 (by rfl) ?_
      refine tv_iload_n (pc := 12) dA_fill_12 (by rfl) ?_
      refine tv_iast (pc := 13) hk hin dA_fill_13 ?_
      refine tv_iinc2 (v := 1) (pc := 14) dA_fill_14 (by decide) (by rfl) ?_
      refine tv_goto (pc := 17) 5 dA_fill_17 (by decide) ?_
      exact ih
  rw [tc_row_0] at loop
  refine tv_iconst (v := 0) (pc := 0) dA_fill_0 (by decide) ?_
  refine tv_istore2 (pc := 1) dA_fill_1 (by rfl) ?_
  refine tv_aload_n (pc := 2) dA_fill_2 (by rfl) ?_
  refine tv_alen (v := nI n) (pc := 3) hk (by rfl) dA_fill_3 ?_
  refine tv_istore3 (pc := 4) dA_fill_4 (by rfl) ?_
  exact loop
theorem sf_F3 {fol nar : Nat → tc_S → tc_S} {nch : Nat → tc_S → Int32} {tg : Nat → tc_S → Nat} {n : Nat} (hf : ∀ i v, sf_F v (fol i v)) (hn : ∀ i v, sf_F v (nar i v)) : ∀ (f : Nat) (u : tc_S), sf_F u (sf_3 fol nar nch tg n f u)
  | 0, _ => fun _ _ => rfl
  | f + 1, u => by
    unfold sf_3
    split
    · exact sf_F2 hf hn (u, 0) n
    · exact (sf_F2 hf hn (u, 0) n).tr (sf_F3 hf hn f _)
noncomputable def sp_find (n : Nat) (u : tc_S) : tc_S := sf_3 sp_fol sp_nar sp_nch (fun i v => tp_tg n (pv v 9) i) n 1000000 (sf_1 sp_fol sp_put n (tc_col u 16 0 (fun _ => -1) 6))
theorem sp_findF (n : Nat) (u : tc_S) : sf_F u (sp_find n u) := by
  have h0 : sf_F u (tc_col u 16 0 (fun _ => -1) 6) := fun q hq => tc_col_out (by omega)
  exact h0.tr ((sf_F1 sp_F1 sp_F2 _ n).tr (sf_F3 sp_F1 sp_F3 1000000 _))
set_option maxRecDepth 100000 in
set_option maxHeartbeats 4000000 in
theorem c_P_find (l : Launch) (G : tc_G) (u : tc_S) {n : Nat} (hs : u 7 1 = nI n) (hn : n ≤ 16) (hP : ∀ i, i < n → tp_line (pv u 9) i) : tc_C tcx G l yP_find wP_find r0P_find 0 0 [.ref (tc_ad G 14), .ref (tc_ad G 7)] u (tc_Kv (sp_find n u)) := by
  refine tw_ofV (own := "TracedCode$Copies") [some (.ref (tc_ad G 14)), some (.ref (tc_ad G 7)), none] (by decide +kernel) rfl (Nat.le_of_ble_eq_true rfl) (by rfl) (fun p e s m args below meth c => ?_)
  have loop : tc_V tcx G p l e r0P_find s m args below meth c bP_find 3 tw "TracedCode$Copies" none [] (MQ below (tc_Qc tcx G (tc_Kv (sp_find n u)) s.heap.size) args s 0 0 (tc_A tcx G s.heap.size)) 0 0 (tc_col u 16 0 (fun _ => -1) 0) 2 [some (.ref (tc_ad G 14)), some (.ref (tc_ad G 7)), some (.int (nI 0))] [] := by
    refine tv_down (P := fun i => tc_V tcx G p l e r0P_find s m args below meth c bP_find 3 tw "TracedCode$Copies" none [] (MQ below (tc_Qc tcx G (tc_Kv (sp_find n u)) s.heap.size) args s 0 0 (tc_A tcx G s.heap.size)) 0 0 (tc_col u 16 0 (fun _ => -1) i) 2 [some (.ref (tc_ad G 14)), some (.ref (tc_ad G 7)), some (.int (nI i))] []) 6 ?_ ?_
    · have h0 : sf_F u (tc_col u 16 0 (fun _ => -1) 6) := fun q hq => tc_col_out (by omega)
      refine tv_iload_n (pc := 2) dP_find_2 (by rfl) ?_
      refine tv_bipush (v := 6) (pc := 3) dP_find_3 (by decide) ?_
      refine tv_icmp_ge (pc := 5) 23 dP_find_5 (by decide) (fun _ => ?_) (fun h => absurd (by decide) h)
      refine tv_aload_n (pc := 23) dP_find_23 (by rfl) ?_
      refine tv_aload_n (pc := 24) dP_find_24 (by rfl) ?_
      refine tv_aload_n (pc := 25) dP_find_25 (by rfl) ?_
      refine tv_callUv (pc := 26) [_, _] tb_14 (by rfl) (c_F_settle_P l G _ (by rw [h0 7 (by omega)]; exact hs) hn (fun i hi => sf_Fline h0 (by omega) (hP i hi))) (tw_kU (rm := r0F_settle) (x := (⟨"TracedCode$Copies", "settle", "(LTracedCode$Code;LTracedCode$Code;)V"⟩ : MethodName)) 2 wm_187 wm_189 wm_190 wm_4 wm_191 (by decide +kernel) rfl rfl (by decide +kernel) wm_186 ⟨by decide, by decide⟩) (by rfl) (Nat.le_of_ble_eq_true rfl) dP_find_26 ⟨by decide, by decide⟩ ?_
      exact tv_vret (pc := 29) dP_find_29 rfl (Nat.le_refl _) (Nat.le_refl _) ⟨rfl, rfl⟩
    · intro i hiN ih
      have hi6 : tc_ix (nI i) 6 i := tc_ixN hiN (by decide)
      rw [← tc_col_s (i := i) (f := fun _ => -1), ← nI_1] at ih
      refine tv_iload_n (pc := 2) dP_find_2 (by rfl) ?_
      refine tv_bipush (v := 6) (pc := 3) dP_find_3 (by decide) ?_
      refine tv_icmp_ge (pc := 5) 23 dP_find_5 (by decide) (fun h => absurd h (nI_lt6 hiN)) (fun _ => ?_)
      refine tv_aload_n (pc := 8) dP_find_8 (by rfl) ?_
      refine tv_getR (pc := 9) 0 tb_14 (by rfl) uwP_ (by decide) wm_59 (by rfl) dP_find_9 ?_
      refine tv_iload_n (pc := 12) dP_find_12 (by rfl) ?_
      refine tv_aald (pc := 13) tb_15 hi6 dP_find_13 ?_
      refine tv_iconst (v := 0) (pc := 14) dP_find_14 (by decide) ?_
      refine tv_iconst (v := (-1)) (pc := 15) dP_find_15 (by decide) ?_
      refine tv_iast (pc := 16) (j := 0) (rows_16 _ hi6.2.2) ⟨by decide, by decide, by decide⟩ dP_find_16 ?_
      refine tv_iinc2 (v := 1) (pc := 17) dP_find_17 (by decide) (by rfl) ?_
      refine tv_goto (pc := 20) 2 dP_find_20 (by decide) ?_
      exact ih
  rw [tc_col_0] at loop
  refine tv_iconst (v := 0) (pc := 0) dP_find_0 (by decide) ?_
  refine tv_istore2 (pc := 1) dP_find_1 (by rfl) ?_
  exact loop
/-- a register or NONE -/
def sp_r (x : Int32) : Prop := x = -1 ∨ ∃ a, a < 6 ∧ x = nI a
def sp_ok (u : tc_S) : Prop := (∀ r, r < 6 → ∀ q, q < 17 → sp_r (u (16 + r) q)) ∧ ∀ r, r < 6 → sp_r (u 22 r)
theorem sp_ok_col {u : tc_S} {q : Nat} {f : Nat → Int32} (h : sp_ok u) (hf : ∀ r, r < 6 → sp_r (f r)) : sp_ok (tc_col u 16 q f 6) := by
  refine ⟨fun r hr z hz => ?_, fun r hr => ?_⟩
  · rw [tc_col_in hr]
    unfold upd
    split
    · exact hf r hr
    · exact h.1 r hr z hz
  · rw [tc_col_out (by omega)]; exact h.2 r hr
theorem sp_ok_fol {u : tc_S} {i : Nat} (h : sp_ok u) (hi : i < 17) (hl : tp_line (pv u 9) i) : sp_ok (sp_fol i u) := by
  refine ⟨fun r hr z hz => ?_, fun r hr => ?_⟩
  · unfold sp_fol; rw [tc_row_ne (by omega)]; exact h.1 r hr z hz
  · unfold sp_fol; rw [tc_row_in hr]
    unfold tp_fb
    split
    · next e => exact Or.inr (hl.2.2.1 (Or.inl e.1))
    · split
      · exact Or.inl rfl
      · exact h.1 r hr i hi
theorem sp_ok_nar {u : tc_S} {q : Nat} (h : sp_ok u) (hq : q < 17) : sp_ok (sp_nar q u) := sp_ok_col h (fun r hr => by
  unfold tc_pf
  split
  · exact Or.inl rfl
  · exact h.1 r hr q hq)
theorem sp_ok_1 {n : Nat} (hn : n ≤ 16) {u : tc_S} (hl : ∀ i, i < n → tp_line (pv u 9) i) (h : sp_ok u) : ∀ i, i ≤ n → sp_ok (sf_1 sp_fol sp_put i u)
  | 0, _ => h
  | i + 1, hi => by
    have a := sp_ok_1 hn hl h i (by omega)
    have b := sp_ok_fol (i := i) a (by omega) (sf_Fline (sf_F1 sp_F1 sp_F2 u i) (by omega) (hl i (by omega)))
    exact sp_ok_col b (fun r hr => b.2 r hr)
theorem sp_ok_2 {n : Nat} (hn : n ≤ 16) {x : tc_S × Int32} (hl : ∀ i, i < n → tp_line (pv x.1 9) i) (h : sp_ok x.1) : ∀ i, i ≤ n → sp_ok (sf_2 sp_fol sp_nar sp_nch (fun i v => tp_tg n (pv v 9) i) i x).1
  | 0, _ => h
  | i + 1, hi => by
    have a := sp_ok_2 hn hl h i (by omega)
    have b := sp_ok_fol (i := i) a (by omega) (sf_Fline (sf_F2 sp_F1 sp_F3 x i) (by omega) (hl i (by omega)))
    exact sp_ok_nar (sp_ok_nar b (by omega)) (Nat.lt_of_le_of_lt (tp_tg_le (by omega)) (by omega))
theorem sp_ok_3 {n : Nat} (hn : n ≤ 16) : ∀ (f : Nat) (u : tc_S), (∀ i, i < n → tp_line (pv u 9) i) → sp_ok u → sp_ok (sf_3 sp_fol sp_nar sp_nch (fun i v => tp_tg n (pv v 9) i) n f u)
  | 0, _, _, h => h
  | f + 1, u, hl, h => by
    have a := sp_ok_2 (x := (u, 0)) hn hl h n (Nat.le_refl _)
    unfold sf_3
    split
    · exact a
    · exact sp_ok_3 hn f _ (fun i hi => sf_Fline (sf_F2 sp_F1 sp_F3 (u, 0) n) (by omega) (hl i hi)) a
theorem sp_ok_find {n : Nat} (hn : n ≤ 16) {u : tc_S} (hl : ∀ i, i < n → tp_line (pv u 9) i) (h : sp_ok u) : sp_ok (sp_find n u) := by
  have h0 : sf_F u (tc_col u 16 0 (fun _ => -1) 6) := fun q hq => tc_col_out (by omega)
  have l0 : ∀ i, i < n → tp_line (pv (tc_col u 16 0 (fun _ => -1) 6) 9) i := fun i hi => sf_Fline h0 (by omega) (hl i hi)
  have a := sp_ok_1 hn l0 (sp_ok_col h (fun _ _ => Or.inl rfl)) n (Nat.le_refl _)
  exact sp_ok_3 hn 1000000 _ (fun i hi => sf_Fline (sf_F1 sp_F1 sp_F2 _ n) (by omega) (l0 i hi)) a
/-- the shortener's world: n lines that are lines, registers in the lists -/
def sp_I (n : Nat) (u : tc_S) : Prop := u 7 1 = nI n ∧ (∀ i, i < n → tp_line (pv u 9) i) ∧ sp_ok u
theorem sp_I_find {n : Nat} (hn : n ≤ 16) {u : tc_S} (h : sp_I n u) : sp_I n (sp_find n u) :=
  ⟨by rw [sp_findF n u 7 (by omega)]; exact h.1, fun i hi => sf_Fline (sp_findF n u) (by omega) (h.2.1 i hi), sp_ok_find hn h.2.1 h.2.2⟩
/-- passing one read on -/
def sp_pq (u : tc_S) (i j : Nat) : Prop := tp_rd (pv u 9) i j ∧ ¬ u (16 + tp_n (pv u 9 j i)) i = -1
noncomputable def sp_p1 (i j : Nat) (u : tc_S) : tc_S := @ite _ (sp_pq u i j) (Classical.propDecidable _) (tc_up u (9 + j) i (u (16 + tp_n (pv u 9 j i)) i)) u
theorem tp_rd_reg {P : tp_P} {i j : Nat} (hl : tp_line P i) (h : tp_rd P i j) : ∃ a, a < 6 ∧ P j i = nI a := by
  obtain ⟨-, h1, h2, -, h4, -⟩ := hl
  rcases h with ⟨rfl, k⟩ | ⟨rfl, k⟩ | ⟨rfl, k⟩
  · exact h1 (by rcases k with k | k <;> rw [k] <;> decide)
  · exact h2 k
  · exact h4 k
set_option maxRecDepth 100000 in
set_option maxHeartbeats 4000000 in
theorem c_S_passOneOn (l : Launch) (G : tc_G) (u : tc_S) {i j : Nat} (hi : i < 16) (hj : j < 4) {pl : Int32} (hpl : pl = nI j) (hl : tp_line (pv u 9) i) : tc_C tcx G l yS_passOneOn wS_passOneOn r0S_passOneOn 0 0 [.ref (tc_ad G 13), .ref (tc_ad G 7), .int (nI i), .int pl] u (tc_Ki (tp_b (sp_pq u i j)) (sp_p1 i j u)) := by
  refine tw_ofV (own := "TracedCode$Shortener") [some (.ref (tc_ad G 13)), some (.ref (tc_ad G 7)), some (.int (nI i)), some (.int pl), none] (by decide +kernel) rfl (Nat.le_of_ble_eq_true rfl) (by rfl) (fun p e s m args below meth c => ?_)
  have hi16 : tc_ix (nI i) 16 i := tc_ixN hi (by decide)
  have hi17 : tc_ix (nI i) 17 i := tc_ixN (by omega) (by decide)
  have hj4 : tc_ix pl 4 j := by rw [hpl]; exact tc_ixN hj (by decide)
  have no : ¬ sp_pq u i j → tc_Ki (tp_b (sp_pq u i j)) (sp_p1 i j u) (.returned (some (.int 0))) u := fun h => ⟨by rw [tp_b_f h], by unfold sp_p1; rw [if_neg h]⟩
  refine tv_aload_n (pc := 0) dS_passOneOn_0 (by rfl) ?_
  refine tv_iload_n (pc := 1) dS_passOneOn_1 (by rfl) ?_
  refine tv_iload_n (pc := 2) dS_passOneOn_2 (by rfl) ?_
  refine tv_callVi (pc := 3) [_, _] tb_7 (by rfl) (c_C_readsAt l G u code_7 hi16 hj hpl hl) (kVC_readsAt wm_255 ⟨by decide, by decide⟩) (by rfl) (Nat.le_of_ble_eq_true rfl) dS_passOneOn_3 ⟨by decide, by decide⟩ ?_
  refine tv_if_ne (pc := 6) 11 dS_passOneOn_6 (by decide) (fun h6 => ?_) (fun h6 => ?_)
  · skip
    have hrd : tp_rd (pv u 9) i j := Classical.byContradiction fun q => (by assumption : ¬ tp_b _ = 0) (tp_b_f q)
    obtain ⟨a, ha, ea⟩ := tp_rd_reg hl hrd
    have hr6 : tc_ix (u (9 + j) i) 6 a := by rw [show u (9 + j) i = nI a from ea]; exact tc_ixN ha (by decide)
    have en : tp_n (pv u 9 j i) = a := by rw [ea]; exact nI_clamp (by omega)
    refine tv_aload_n (pc := 11) dS_passOneOn_11 (by rfl) ?_
    refine tv_getR (pc := 12) 0 tb_13 (by rfl) uwS_ (by decide) wm_66 (by rfl) dS_passOneOn_12 ?_
    refine tv_iload_n (pc := 15) dS_passOneOn_15 (by rfl) ?_
    refine tv_aload_n (pc := 16) dS_passOneOn_16 (by rfl) ?_
    refine tv_iload_n (pc := 17) dS_passOneOn_17 (by rfl) ?_
    refine tv_iload_n (pc := 18) dS_passOneOn_18 (by rfl) ?_
    refine tv_callVi (pc := 19) [_, _] tb_7 (by rfl) (c_C_number l G u code_7 hi16 hj4) (kVC_number wm_261 ⟨by decide, by decide⟩) (by rfl) (Nat.le_of_ble_eq_true rfl) dS_passOneOn_19 ⟨by decide, by decide⟩ ?_
    refine tv_callVi (pc := 22) [_, _] tb_14 (by rfl) (c_P_origin l G u hi17 hr6) (kVP_origin wm_262 ⟨by decide, by decide⟩) (by rfl) (Nat.le_of_ble_eq_true rfl) dS_passOneOn_22 ⟨by decide, by decide⟩ ?_
    refine tv_istore4 (pc := 25) dS_passOneOn_25 (by rfl) ?_
    refine tv_iload (pc := 27) dS_passOneOn_27 (by rfl) ?_
    refine tv_iconst (v := (-1)) (pc := 29) dS_passOneOn_29 (by decide) ?_
    refine tv_icmp_ne (pc := 30) 35 dS_passOneOn_30 (by decide) (fun h30 => ?_) (fun h30 => ?_)
    · skip
      refine tv_aload_n (pc := 35) dS_passOneOn_35 (by rfl) ?_
      refine tv_iload_n (pc := 36) dS_passOneOn_36 (by rfl) ?_
      refine tv_iload_n (pc := 37) dS_passOneOn_37 (by rfl) ?_
      refine tv_iload (pc := 38) dS_passOneOn_38 (by rfl) ?_
      refine tv_callVv (pc := 40) [_, _, _] tb_7 (by rfl) (c_C_readInstead l G u code_7 hi16 hj4 _) (kVC_readInstead wm_266 ⟨by decide, by decide⟩) (by rfl) (Nat.le_of_ble_eq_true rfl) dS_passOneOn_40 ⟨by decide, by decide⟩ ?_
      refine tv_iconst (v := 1) (pc := 43) dS_passOneOn_43 (by decide) ?_
      exact tv_zret (pc := 44) dS_passOneOn_44 rfl (Nat.le_refl _) (Nat.le_refl _) (by rfl)  ⟨by rw [tp_b_t ⟨hrd, by rw [en]; assumption⟩], by unfold sp_p1; rw [if_pos ⟨hrd, by rw [en]; assumption⟩, en]⟩
    · skip
      refine tv_iconst (v := 0) (pc := 33) dS_passOneOn_33 (by decide) ?_
      exact tv_zret (pc := 34) dS_passOneOn_34 rfl (Nat.le_refl _) (Nat.le_refl _) (by rfl)  (no (fun q => q.2 (by rw [en]; assumption)))
  · skip
    refine tv_iconst (v := 0) (pc := 9) dS_passOneOn_9 (by decide) ?_
    exact tv_zret (pc := 10) dS_passOneOn_10 rfl (Nat.le_refl _) (Nat.le_refl _) (by rfl)  (no (fun q => absurd (tp_b_t q.1) (by rw [(by assumption : tp_b _ = 0)]; decide)))
