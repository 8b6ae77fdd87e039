/-- a line is emptied -/
def sp_me (i : Nat) (v : tc_S) : tc_S := tc_up (tc_up (tc_up (tc_up v (9 + 0) i (-1)) (9 + 1) i 0) (9 + 2) i 0) (9 + 3) i 0
theorem sp_me_out {i q : Nat} {v : tc_S} (h : q < 9 ∨ 13 ≤ q) : sp_me i v q = v q := by
  unfold sp_me; rw [tc_up_ne (by omega), tc_up_ne (by omega), tc_up_ne (by omega), tc_up_ne (by omega)]
theorem sp_me_at {i j : Nat} {v : tc_S} (hj : j < 4) : pv (sp_me i v) 9 j i = if j = 0 then -1 else 0 := by
  unfold pv sp_me
  have : j = 0 ∨ j = 1 ∨ j = 2 ∨ j = 3 := by omega
  rcases this with rfl | rfl | rfl | rfl
  · rw [tc_up_ne (by omega), tc_up_ne (by omega), tc_up_ne (by omega), tc_up_self]; rfl
  · rw [tc_up_ne (by omega), tc_up_ne (by omega), tc_up_self]; rfl
  · rw [tc_up_ne (by omega), tc_up_self]; rfl
  · rw [tc_up_self]; rfl
theorem sp_me_ne {i z j : Nat} {v : tc_S} (hz : z ≠ i) : pv (sp_me i v) 9 j z = pv v 9 j z := by
  unfold pv sp_me
  have key : ∀ (w : tc_S) (k : Nat) (x : Int32), tc_up w k i x (9 + j) z = w (9 + j) z := fun w k x => by
    by_cases e : 9 + j = k
    · rw [← e, tc_up_at hz]
    · rw [tc_up_ne e]
  rw [key, key, key, key]
theorem sp_I_me {n i : Nat} {v : tc_S} (h : sp_I n v) : sp_I n (sp_me i v) := by
  refine ⟨by rw [sp_me_out (by omega)]; exact h.1, fun z hz => ?_, ⟨fun r hr q hq => by rw [sp_me_out (by omega)]; exact h.2.2.1 r hr q hq, fun r hr => by rw [sp_me_out (by omega)]; exact h.2.2.2 r hr⟩⟩
  by_cases e : z = i
  · subst e; exact tp_line_empty (by rw [sp_me_at (by omega)]; rfl)
  · have hl := h.2.1 z hz
    unfold tp_line at hl ⊢
    rw [sp_me_ne e, sp_me_ne e, sp_me_ne e, sp_me_ne e]; exact hl
theorem sp_p1_out {i j q : Nat} {v : tc_S} (h : q < 9 ∨ 13 ≤ q) (hj : j < 4) : sp_p1 i j v q = v q := by
  unfold sp_p1
  split
  · rw [tc_up_ne (by omega)]
  · rfl
theorem sp_p1_ne {i j z k : Nat} {v : tc_S} (h : z ≠ i ∨ k ≠ j) : pv (sp_p1 i j v) 9 k z = pv v 9 k z := by
  unfold pv sp_p1
  split
  · by_cases e : 9 + k = 9 + j
    · have : k = j := by omega
      subst this
      rw [tc_up_at (by rcases h with h | h; exact h; exact absurd rfl h)]
    · rw [tc_up_ne e]
  · rfl
theorem sp_I_p1 {n i j : Nat} {v : tc_S} (hi : i < 17) (hj : j < 4) (h : sp_I n v) : sp_I n (sp_p1 i j v) := by
  refine ⟨by rw [sp_p1_out (by omega) hj]; exact h.1, fun z hz => ?_, ⟨fun r hr q hq => by rw [sp_p1_out (by omega) hj]; exact h.2.2.1 r hr q hq, fun r hr => by rw [sp_p1_out (by omega) hj]; exact h.2.2.2 r hr⟩⟩
  have hl := h.2.1 z hz
  by_cases e : z = i
  · subst e
    by_cases hq : sp_pq v z j
    · have hj0 : j ≠ 0 := fun q => by subst q; exact tp_rd0 hq.1
      obtain ⟨a, ha, ea⟩ := tp_rd_reg hl hq.1
      have hv : pv (sp_p1 z j v) 9 j z = v (16 + tp_n (pv v 9 j z)) z := by
        unfold pv sp_p1; rw [if_pos hq, tc_up_self]; rfl
      have hreg : ∃ a, a < 6 ∧ pv (sp_p1 z j v) 9 j z = nI a := by
        rw [hv]
        rcases h.2.2.1 (tp_n (pv v 9 j z)) (by rw [ea]; unfold tp_n; rw [nI_clamp (by omega)]; exact ha) z hi with q | q
        · exact absurd q hq.2
        · exact q
      have h0 := sp_p1_ne (v := v) (i := z) (j := j) (z := z) (k := 0) (Or.inr (fun q => hj0 q.symm))
      obtain ⟨l0, l1, l2, l3, l4, l5⟩ := hl
      unfold tp_line
      rw [h0]
      have g : ∀ k, k ≠ j → pv (sp_p1 z j v) 9 k z = pv v 9 k z := fun k hk => sp_p1_ne (Or.inr hk)
      refine ⟨l0, fun q => ?_, fun q => ?_, fun q => ?_, fun q => ?_, fun q => ?_⟩
      · by_cases e1 : j = 1
        · subst e1; exact hreg
        · rw [g 1 (fun q => e1 q.symm)]; exact l1 q
      · by_cases e1 : j = 2
        · subst e1; exact hreg
        · rw [g 2 (fun q => e1 q.symm)]; exact l2 q
      · by_cases e1 : j = 2
        · subst e1
          exfalso
          rcases hq.1 with ⟨k, -⟩ | ⟨-, k⟩ | ⟨k, -⟩
          · cases k
          · rw [q] at k; exact absurd k (by decide)
          · cases k
        · rw [g 2 (fun q => e1 q.symm)]; exact l3 q
      · by_cases e1 : j = 3
        · subst e1; exact hreg
        · rw [g 3 (fun q => e1 q.symm)]; exact l4 q
      · by_cases e1 : j = 1
        · subst e1
          exfalso
          rcases hq.1 with ⟨-, k⟩ | ⟨k, -⟩ | ⟨k, -⟩
          · rw [q] at k; exact absurd k (by decide)
          · cases k
          · cases k
        · rw [g 1 (fun q => e1 q.symm)]; exact l5 q
    · unfold sp_p1; rw [if_neg hq]; exact hl
  · unfold tp_line at hl ⊢
    rw [sp_p1_ne (Or.inl e), sp_p1_ne (Or.inl e), sp_p1_ne (Or.inl e), sp_p1_ne (Or.inl e)]; exact hl
/-- the first half of a round, line by line -/
noncomputable def sp_v3 (i : Nat) (v : tc_S) : tc_S := sp_p1 i 3 (sp_p1 i 2 (sp_p1 i 1 v))
noncomputable def sp_c3 (i : Nat) (x : tc_S × Int32) : Int32 := ((x.2 ||| tp_b (sp_pq x.1 i 1)) ||| tp_b (sp_pq (sp_p1 i 1 x.1) i 2)) ||| tp_b (sp_pq (sp_p1 i 2 (sp_p1 i 1 x.1)) i 3)
noncomputable def sp_l1 (i : Nat) (x : tc_S × Int32) : tc_S × Int32 := if sp_v3 i x.1 (9 + 0) i = 1 ∧ sp_v3 i x.1 (9 + 1) i = sp_v3 i x.1 (9 + 2) i then (sp_me i (sp_v3 i x.1), 1) else (sp_v3 i x.1, sp_c3 i x)
noncomputable def sp_ls : Nat → tc_S × Int32 → tc_S × Int32
  | 0, x => x
  | i + 1, x => sp_l1 i (sp_ls i x)
noncomputable def sp_pass (n : Nat) (u : tc_S) : tc_S × Int32 := sp_ls n (sp_find n u, 0)
theorem sp_I_v3 {n i : Nat} {v : tc_S} (hi : i < 17) (h : sp_I n v) : sp_I n (sp_v3 i v) := sp_I_p1 hi (by omega) (sp_I_p1 hi (by omega) (sp_I_p1 hi (by omega) h))
theorem sp_I_ls {n : Nat} {x : tc_S × Int32} (h : sp_I n x.1) : ∀ i, i ≤ 17 → sp_I n (sp_ls i x).1
  | 0, _ => h
  | i + 1, hi => by
    have a := sp_I_v3 (i := i) (by omega) (sp_I_ls h i (by omega))
    show sp_I n (sp_l1 i (sp_ls i x)).1
    unfold sp_l1
    split
    · exact sp_I_me a
    · exact a
theorem sp_I_pass {n : Nat} (hn : n ≤ 16) {u : tc_S} (h : sp_I n u) : sp_I n (sp_pass n u).1 := sp_I_ls (x := (sp_find n u, 0)) (sp_I_find hn h) n (by omega)
/-- a number that is 0 or 1 -/
def sp_z (x : Int32) : Prop := x = 0 ∨ x = 1
theorem sp_zb (p : Prop) : sp_z (tp_b p) := by
  by_cases h : p
  · exact Or.inr (tp_b_t h)
  · exact Or.inl (tp_b_f h)
theorem sp_zor {x y : Int32} (hx : sp_z x) (hy : sp_z y) : sp_z (x ||| y) := by
  rcases hx with rfl | rfl <;> rcases hy with rfl | rfl <;> unfold sp_z <;> decide
theorem sp_zn {x : Int32} (h : sp_z x) : narrow .boolean (.int x) = .int x := by rcases h with rfl | rfl <;> rfl
theorem sp_zc3 {i : Nat} {x : tc_S × Int32} (h : sp_z x.2) : sp_z (sp_c3 i x) := sp_zor (sp_zor (sp_zor h (sp_zb _)) (sp_zb _)) (sp_zb _)
theorem sp_zls {x : tc_S × Int32} (h : sp_z x.2) : ∀ i, sp_z (sp_ls i x).2
  | 0 => h
  | i + 1 => by
    show sp_z (sp_l1 i (sp_ls i x)).2
    unfold sp_l1
    split
    · exact Or.inr rfl
    · exact sp_zc3 (sp_zls h i)
set_option maxRecDepth 100000 in
set_option maxHeartbeats 4000000 in
theorem c_S_passCopiesOn (l : Launch) (G : tc_G) (u : tc_S) {n : Nat} (hn : n ≤ 16) (hI : sp_I n u) : tc_C tcx G l yS_passCopiesOn wS_passCopiesOn r0S_passCopiesOn 0 0 [.ref (tc_ad G 13), .ref (tc_ad G 7)] u (tc_Ki (sp_pass n u).2 (sp_pass n u).1) := by
  refine tw_ofV (own := "TracedCode$Shortener") [some (.ref (tc_ad G 13)), some (.ref (tc_ad G 7)), none, none, none] (by decide +kernel) rfl (Nat.le_of_ble_eq_true rfl) (by rfl) (fun p e s m args below meth c => ?_)
  have hI0 : ∀ i, i ≤ 17 → sp_I n (sp_ls i (sp_find n u, 0)).1 := fun i hi => sp_I_ls (x := (sp_find n u, 0)) (sp_I_find hn hI) i hi
  have loop : ∀ z : Option Value, tc_V tcx G p l e r0S_passCopiesOn s m args below meth c bS_passCopiesOn 5 tw "TracedCode$Shortener" (some .boolean) [] (MQ below (tc_Qc tcx G (tc_Ki (sp_pass n u).2 (sp_pass n u).1) s.heap.size) args s 0 0 (tc_A tcx G s.heap.size)) 0 0 (sp_ls 0 (sp_find n u, 0)).1 12 [some (.ref (tc_ad G 13)), some (.ref (tc_ad G 7)), some (.int (sp_ls 0 (sp_find n u, 0)).2), some (.int (nI 0)), z] [] := by
    refine tv_down (P := fun i => ∀ z : Option Value, tc_V tcx G p l e r0S_passCopiesOn s m args below meth c bS_passCopiesOn 5 tw "TracedCode$Shortener" (some .boolean) [] (MQ below (tc_Qc tcx G (tc_Ki (sp_pass n u).2 (sp_pass n u).1) s.heap.size) args s 0 0 (tc_A tcx G s.heap.size)) 0 0 (sp_ls i (sp_find n u, 0)).1 12 [some (.ref (tc_ad G 13)), some (.ref (tc_ad G 7)), some (.int (sp_ls i (sp_find n u, 0)).2), some (.int (nI i)), z] []) n ?_ ?_
    · intro z
      have hsz := (hI0 n (by omega)).1
      refine tv_iload_n (pc := 12) dS_passCopiesOn_12 (by rfl) ?_
      refine tv_aload_n (pc := 13) dS_passCopiesOn_13 (by rfl) ?_
      refine tv_callVi (pc := 14) [] tb_7 (by rfl) (c_C_size l G _ code_7) (kVC_size wm_250 ⟨by decide, by decide⟩) (by rfl) (Nat.le_of_ble_eq_true rfl) dS_passCopiesOn_14 ⟨by decide, by decide⟩ ?_
      refine tv_icmp_ge (pc := 17) 83 dS_passCopiesOn_17 (by decide) (fun _ => ?_) (fun h => absurd (by rw [hsz]; exact Int32.le_refl _) h)
      refine tv_iload_n (pc := 83) dS_passCopiesOn_83 (by rfl) ?_
      exact tv_zret (pc := 84) dS_passCopiesOn_84 rfl (Nat.le_refl _) (Nat.le_refl _) (sp_zn (sp_zls (Or.inl rfl) n)) ⟨rfl, rfl⟩
    · intro i hiN ih z
      have hsz := (hI0 i (by omega)).1
      have hi16 : tc_ix (nI i) 16 i := tc_ixN (by omega) (by decide)
      obtain ⟨v, hv⟩ : ∃ v, v = (sp_ls i (sp_find n u, 0)) := ⟨_, rfl⟩
      rw [show sp_ls (i + 1) (sp_find n u, 0) = sp_l1 i v from by rw [hv]; rfl, ← nI_1] at ih
      have hIv : sp_I n v.1 := by rw [hv]; exact hI0 i (by omega)
      rw [← hv] at hsz ⊢
      have h1 := sp_I_p1 (i := i) (j := 1) (by omega) (by omega) hIv
      have h2 := sp_I_p1 (i := i) (j := 2) (by omega) (by omega) h1
      refine tv_iload_n (pc := 12) dS_passCopiesOn_12 (by rfl) ?_
      refine tv_aload_n (pc := 13) dS_passCopiesOn_13 (by rfl) ?_
      refine tv_callVi (pc := 14) [] tb_7 (by rfl) (c_C_size l G _ code_7) (kVC_size wm_250 ⟨by decide, by decide⟩) (by rfl) (Nat.le_of_ble_eq_true rfl) dS_passCopiesOn_14 ⟨by decide, by decide⟩ ?_
      refine tv_icmp_ge (pc := 17) 83 dS_passCopiesOn_17 (by decide) (fun h => absurd h (by rw [hsz]; exact nI_ge (by omega) (by omega))) (fun _ => ?_)
      refine tv_iconst (v := 1) (pc := 20) dS_passCopiesOn_20 (by decide) ?_
      refine tv_istore4 (pc := 21) dS_passCopiesOn_21 (by rfl) ?_
      refine tv_iload (pc := 23) dS_passCopiesOn_23 (by rfl) ?_
      refine tv_iconst (v := 4) (pc := 25) dS_passCopiesOn_25 (by decide) ?_
      refine tv_icmp_ge (pc := 26) 46 dS_passCopiesOn_26 (by decide) (fun h => absurd h (by decide)) (fun _ => ?_)
      refine tv_iload_n (pc := 29) dS_passCopiesOn_29 (by rfl) ?_
      refine tv_aload_n (pc := 30) dS_passCopiesOn_30 (by rfl) ?_
      refine tv_aload_n (pc := 31) dS_passCopiesOn_31 (by rfl) ?_
      refine tv_iload_n (pc := 32) dS_passCopiesOn_32 (by rfl) ?_
      refine tv_iload (pc := 33) dS_passCopiesOn_33 (by rfl) ?_
      refine tv_callVi (pc := 35) [_, _, _] tb_13 (by rfl) (c_S_passOneOn l G v.1 (j := 1) (by omega) (by decide) (by decide) (hIv.2.1 i hiN)) (kVS_passOneOn wm_251 ⟨by decide, by decide⟩) (by rfl) (Nat.le_of_ble_eq_true rfl) dS_passCopiesOn_35 ⟨by decide, by decide⟩ ?_
      refine tv_ior (pc := 38) dS_passCopiesOn_38 ?_
      refine tv_istore2 (pc := 39) dS_passCopiesOn_39 (by rfl) ?_
      refine tv_iinc4 (v := 1) (pc := 40) dS_passCopiesOn_40 (by decide) (by rfl) ?_
      refine tv_goto (pc := 43) 23 dS_passCopiesOn_43 (by decide) ?_
      refine tv_iload (pc := 23) dS_passCopiesOn_23 (by rfl) ?_
      refine tv_iconst (v := 4) (pc := 25) dS_passCopiesOn_25 (by decide) ?_
      refine tv_icmp_ge (pc := 26) 46 dS_passCopiesOn_26 (by decide) (fun h => absurd h (by decide)) (fun _ => ?_)
      refine tv_iload_n (pc := 29) dS_passCopiesOn_29 (by rfl) ?_
      refine tv_aload_n (pc := 30) dS_passCopiesOn_30 (by rfl) ?_
      refine tv_aload_n (pc := 31) dS_passCopiesOn_31 (by rfl) ?_
      refine tv_iload_n (pc := 32) dS_passCopiesOn_32 (by rfl) ?_
      refine tv_iload (pc := 33) dS_passCopiesOn_33 (by rfl) ?_
      refine tv_callVi (pc := 35) [_, _, _] tb_13 (by rfl) (c_S_passOneOn l G (sp_p1 i 1 v.1) (j := 2) (by omega) (by decide) (by decide) (h1.2.1 i hiN)) (kVS_passOneOn wm_251 ⟨by decide, by decide⟩) (by rfl) (Nat.le_of_ble_eq_true rfl) dS_passCopiesOn_35 ⟨by decide, by decide⟩ ?_
      refine tv_ior (pc := 38) dS_passCopiesOn_38 ?_
      refine tv_istore2 (pc := 39) dS_passCopiesOn_39 (by rfl) ?_
      refine tv_iinc4 (v := 1) (pc := 40) dS_passCopiesOn_40 (by decide) (by rfl) ?_
      refine tv_goto (pc := 43) 23 dS_passCopiesOn_43 (by decide) ?_
      refine tv_iload (pc := 23) dS_passCopiesOn_23 (by rfl) ?_
      refine tv_iconst (v := 4) (pc := 25) dS_passCopiesOn_25 (by decide) ?_
      refine tv_icmp_ge (pc := 26) 46 dS_passCopiesOn_26 (by decide) (fun h => absurd h (by decide)) (fun _ => ?_)
      refine tv_iload_n (pc := 29) dS_passCopiesOn_29 (by rfl) ?_
      refine tv_aload_n (pc := 30) dS_passCopiesOn_30 (by rfl) ?_
      refine tv_aload_n (pc := 31) dS_passCopiesOn_31 (by rfl) ?_
      refine tv_iload_n (pc := 32) dS_passCopiesOn_32 (by rfl) ?_
      refine tv_iload (pc := 33) dS_passCopiesOn_33 (by rfl) ?_
      refine tv_callVi (pc := 35) [_, _, _] tb_13 (by rfl) (c_S_passOneOn l G (sp_p1 i 2 (sp_p1 i 1 v.1)) (j := 3) (by omega) (by decide) (by decide) (h2.2.1 i hiN)) (kVS_passOneOn wm_251 ⟨by decide, by decide⟩) (by rfl) (Nat.le_of_ble_eq_true rfl) dS_passCopiesOn_35 ⟨by decide, by decide⟩ ?_
      refine tv_ior (pc := 38) dS_passCopiesOn_38 ?_
      refine tv_istore2 (pc := 39) dS_passCopiesOn_39 (by rfl) ?_
      refine tv_iinc4 (v := 1) (pc := 40) dS_passCopiesOn_40 (by decide) (by rfl) ?_
      refine tv_goto (pc := 43) 23 dS_passCopiesOn_43 (by decide) ?_
      refine tv_iload (pc := 23) dS_passCopiesOn_23 (by rfl) ?_
      refine tv_iconst (v := 4) (pc := 25) dS_passCopiesOn_25 (by decide) ?_
      refine tv_icmp_ge (pc := 26) 46 dS_passCopiesOn_26 (by decide) (fun _ => ?_) (fun h => absurd (by decide) h)
      refine tv_aload_n (pc := 46) dS_passCopiesOn_46 (by rfl) ?_
      refine tv_iload_n (pc := 47) dS_passCopiesOn_47 (by rfl) ?_
      refine tv_callVi (pc := 48) [_] tb_7 (by rfl) (c_C_kind l G (sp_v3 i v.1) code_7 hi16) (kVC_kind wm_270 ⟨by decide, by decide⟩) (by rfl) (Nat.le_of_ble_eq_true rfl) dS_passCopiesOn_48 ⟨by decide, by decide⟩ ?_
      refine tv_iconst (v := 1) (pc := 51) dS_passCopiesOn_51 (by decide) ?_
      refine tv_icmp_ne (pc := 52) 77 dS_passCopiesOn_52 (by decide) (fun h52 => ?_) (fun h52 => ?_)
      · skip
        refine tv_iinc3 (v := 1) (pc := 77) dS_passCopiesOn_77 (by decide) (by rfl) ?_
        refine tv_goto (pc := 80) 12 dS_passCopiesOn_80 (by decide) ?_
        first
        | (rw [show sp_l1 i v = (sp_me i (sp_v3 i v.1), 1) from by unfold sp_l1; rw [if_pos ⟨by assumption, by assumption⟩]] at ih; exact ih _)
        | (rw [show sp_l1 i v = (sp_v3 i v.1, sp_c3 i v) from by unfold sp_l1; rw [if_neg (fun q => by first | exact absurd q.1 (by assumption) | exact absurd q.2 (by assumption))]] at ih; exact ih _)
      · skip
        refine tv_aload_n (pc := 55) dS_passCopiesOn_55 (by rfl) ?_
        refine tv_iload_n (pc := 56) dS_passCopiesOn_56 (by rfl) ?_
        refine tv_iconst (v := 1) (pc := 57) dS_passCopiesOn_57 (by decide) ?_
        refine tv_callVi (pc := 58) [_, _] tb_7 (by rfl) (c_C_number l G (sp_v3 i v.1) code_7 hi16 (j := 1) ⟨by decide, by decide, by decide⟩) (kVC_number wm_261 ⟨by decide, by decide⟩) (by rfl) (Nat.le_of_ble_eq_true rfl) dS_passCopiesOn_58 ⟨by decide, by decide⟩ ?_
        refine tv_aload_n (pc := 61) dS_passCopiesOn_61 (by rfl) ?_
        refine tv_iload_n (pc := 62) dS_passCopiesOn_62 (by rfl) ?_
        refine tv_iconst (v := 2) (pc := 63) dS_passCopiesOn_63 (by decide) ?_
        refine tv_callVi (pc := 64) [_, _] tb_7 (by rfl) (c_C_number l G (sp_v3 i v.1) code_7 hi16 (j := 2) ⟨by decide, by decide, by decide⟩) (kVC_number wm_261 ⟨by decide, by decide⟩) (by rfl) (Nat.le_of_ble_eq_true rfl) dS_passCopiesOn_64 ⟨by decide, by decide⟩ ?_
        refine tv_icmp_ne (pc := 67) 77 dS_passCopiesOn_67 (by decide) (fun h67 => ?_) (fun h67 => ?_)
        · skip
          refine tv_iinc3 (v := 1) (pc := 77) dS_passCopiesOn_77 (by decide) (by rfl) ?_
          refine tv_goto (pc := 80) 12 dS_passCopiesOn_80 (by decide) ?_
          first
          | (rw [show sp_l1 i v = (sp_me i (sp_v3 i v.1), 1) from by unfold sp_l1; rw [if_pos ⟨by assumption, by assumption⟩]] at ih; exact ih _)
          | (rw [show sp_l1 i v = (sp_v3 i v.1, sp_c3 i v) from by unfold sp_l1; rw [if_neg (fun q => by first | exact absurd q.1 (by assumption) | exact absurd q.2 (by assumption))]] at ih; exact ih _)
        · skip
          refine tv_aload_n (pc := 70) dS_passCopiesOn_70 (by rfl) ?_
          refine tv_iload_n (pc := 71) dS_passCopiesOn_71 (by rfl) ?_
          refine tv_callVv (pc := 72) [_] tb_7 (by rfl) (c_C_makeEmpty l G (sp_v3 i v.1) code_7 hi16) (kVC_makeEmpty wm_271 ⟨by decide, by decide⟩) (by rfl) (Nat.le_of_ble_eq_true rfl) dS_passCopiesOn_72 ⟨by decide, by decide⟩ ?_
          refine tv_iconst (v := 1) (pc := 75) dS_passCopiesOn_75 (by decide) ?_
          refine tv_istore2 (pc := 76) dS_passCopiesOn_76 (by rfl) ?_
          refine tv_iinc3 (v := 1) (pc := 77) dS_passCopiesOn_77 (by decide) (by rfl) ?_
          refine tv_goto (pc := 80) 12 dS_passCopiesOn_80 (by decide) ?_
          first
          | (rw [show sp_l1 i v = (sp_me i (sp_v3 i v.1), 1) from by unfold sp_l1; rw [if_pos ⟨by assumption, by assumption⟩]] at ih; exact ih _)
          | (rw [show sp_l1 i v = (sp_v3 i v.1, sp_c3 i v) from by unfold sp_l1; rw [if_neg (fun q => by first | exact absurd q.1 (by assumption) | exact absurd q.2 (by assumption))]] at ih; exact ih _)
  refine tv_aload_n (pc := 0) dS_passCopiesOn_0 (by rfl) ?_
  refine tv_getR (pc := 1) 0 tb_13 (by rfl) uwS_ (by decide) wm_66 (by rfl) dS_passCopiesOn_1 ?_
  refine tv_aload_n (pc := 4) dS_passCopiesOn_4 (by rfl) ?_
  refine tv_callVv (pc := 5) [_] tb_14 (by rfl) (c_P_find l G u hI.1 hn hI.2.1) (kVP_find wm_182 ⟨by decide, by decide⟩) (by rfl) (Nat.le_of_ble_eq_true rfl) dS_passCopiesOn_5 ⟨by decide, by decide⟩ ?_
  refine tv_iconst (v := 0) (pc := 8) dS_passCopiesOn_8 (by decide) ?_
  refine tv_istore2 (pc := 9) dS_passCopiesOn_9 (by rfl) ?_
  refine tv_iconst (v := 0) (pc := 10) dS_passCopiesOn_10 (by decide) ?_
  refine tv_istore3 (pc := 11) dS_passCopiesOn_11 (by rfl) ?_
  exact loop none
