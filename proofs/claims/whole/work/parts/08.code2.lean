/-- a program's numbers as they lie in the cells -/
def pv (u : tc_S) (b : Nat) : tp_P := fun j i => u (b + j) i
/-- 1 where it holds, else 0 -/
noncomputable def tp_b (p : Prop) : Int32 := @ite _ p (Classical.propDecidable p) 1 0
theorem tp_b_t {p : Prop} (h : p) : tp_b p = 1 := by unfold tp_b; rw [if_pos h]
theorem tp_b_f {p : Prop} (h : ¬ p) : tp_b p = 0 := by unfold tp_b; rw [if_neg h]
theorem tp_b_z {p : Prop} : narrow .boolean (.int (tp_b p)) = .int (tp_b p) := by
  by_cases h : p
  · rw [tp_b_t h]; rfl
  · rw [tp_b_f h]; rfl
theorem tp_b_iff {p q : Prop} (h : p ↔ q) : tp_b p = tp_b q := by
  by_cases k : p
  · rw [tp_b_t k, tp_b_t (h.mp k)]
  · rw [tp_b_f k, tp_b_f (fun z => k (h.mpr z))]
def tp_wI (P : tp_P) (i : Nat) : Int32 := if P 0 i = 0 ∨ P 0 i = 1 ∨ P 0 i = 2 then P 1 i else -1
set_option maxRecDepth 100000 in
set_option maxHeartbeats 4000000 in
theorem c_C_written (l : Launch) (G : tc_G) (u : tc_S) {k g b : Nat} (hC : tcx_code k g b) {line : Int32} {i : Nat} (hi : tc_ix line 16 i) : tc_C tcx G l yC_written wC_written r0C_written 0 0 [.ref (tc_ad G k), .int line] u (tc_Ki (tp_wI (pv u b) i) u) := by
  refine tw_ofV (own := "TracedCode$Code") [some (.ref (tc_ad G k)), some (.int line), none] (by decide +kernel) rfl (Nat.le_of_ble_eq_true rfl) (by rfl) (fun p e s m args below meth c => ?_)
  have hA : ∀ x : Int32, (u (b + 0) i = 0 ∨ u (b + 0) i = 1 ∨ u (b + 0) i = 2) → x = u (b + 1) i → tc_Ki (tp_wI (pv u b) i) u (.returned (some (.int x))) u := fun x h e => ⟨by unfold tp_wI pv; rw [if_pos h, e], rfl⟩
  have hB : ¬ (u (b + 0) i = 0 ∨ u (b + 0) i = 1 ∨ u (b + 0) i = 2) → tc_Ki (tp_wI (pv u b) i) u (.returned (some (.int (-1)))) u := fun h => ⟨by unfold tp_wI pv; rw [if_neg h], rfl⟩
  refine tv_aload_n (pc := 0) dC_written_0 (by rfl) ?_
  refine tv_getR (pc := 1) 0 hC.1 (by rfl) uwC_ (by decide) wm_35 (by rfl) dC_written_1 ?_
  refine tv_iconst (v := 0) (pc := 4) dC_written_4 (by decide) ?_
  refine tv_aald (pc := 5) (j := 0) hC.2.1 ⟨by decide, by decide, by decide⟩ dC_written_5 ?_
  refine tv_iload_n (pc := 6) dC_written_6 (by rfl) ?_
  refine tv_iald (pc := 7) (hC.2.2 0 (by decide)) hi dC_written_7 ?_
  refine tv_istore2 (pc := 8) dC_written_8 (by rfl) ?_
  refine tv_iload_n (pc := 9) dC_written_9 (by rfl) ?_
  refine tv_if_eq (pc := 10) 23 dC_written_10 (by decide) (fun h10 => ?_) (fun h10 => ?_)
  · skip
    refine tv_aload_n (pc := 23) dC_written_23 (by rfl) ?_
    refine tv_getR (pc := 24) 0 hC.1 (by rfl) uwC_ (by decide) wm_35 (by rfl) dC_written_24 ?_
    refine tv_iconst (v := 1) (pc := 27) dC_written_27 (by decide) ?_
    refine tv_aald (pc := 28) (j := 1) hC.2.1 ⟨by decide, by decide, by decide⟩ dC_written_28 ?_
    refine tv_iload_n (pc := 29) dC_written_29 (by rfl) ?_
    refine tv_iald (pc := 30) (hC.2.2 1 (by decide)) hi dC_written_30 ?_
    refine tv_goto (pc := 31) 35 dC_written_31 (by decide) ?_
    exact tv_iret (pc := 35) dC_written_35 rfl (Nat.le_refl _) (Nat.le_refl _) (by first | exact hA _ (by simp_all) rfl | exact hB (by simp_all))
  · skip
    refine tv_iload_n (pc := 13) dC_written_13 (by rfl) ?_
    refine tv_iconst (v := 1) (pc := 14) dC_written_14 (by decide) ?_
    refine tv_icmp_eq (pc := 15) 23 dC_written_15 (by decide) (fun h15 => ?_) (fun h15 => ?_)
    · skip
      refine tv_aload_n (pc := 23) dC_written_23 (by rfl) ?_
      refine tv_getR (pc := 24) 0 hC.1 (by rfl) uwC_ (by decide) wm_35 (by rfl) dC_written_24 ?_
      refine tv_iconst (v := 1) (pc := 27) dC_written_27 (by decide) ?_
      refine tv_aald (pc := 28) (j := 1) hC.2.1 ⟨by decide, by decide, by decide⟩ dC_written_28 ?_
      refine tv_iload_n (pc := 29) dC_written_29 (by rfl) ?_
      refine tv_iald (pc := 30) (hC.2.2 1 (by decide)) hi dC_written_30 ?_
      refine tv_goto (pc := 31) 35 dC_written_31 (by decide) ?_
      exact tv_iret (pc := 35) dC_written_35 rfl (Nat.le_refl _) (Nat.le_refl _) (by first | exact hA _ (by simp_all) rfl | exact hB (by simp_all))
    · skip
      refine tv_iload_n (pc := 18) dC_written_18 (by rfl) ?_
      refine tv_iconst (v := 2) (pc := 19) dC_written_19 (by decide) ?_
      refine tv_icmp_ne (pc := 20) 34 dC_written_20 (by decide) (fun h20 => ?_) (fun h20 => ?_)
      · skip
        refine tv_iconst (v := (-1)) (pc := 34) dC_written_34 (by decide) ?_
        exact tv_iret (pc := 35) dC_written_35 rfl (Nat.le_refl _) (Nat.le_refl _) (by first | exact hA _ (by simp_all) rfl | exact hB (by simp_all))
      · skip
        refine tv_aload_n (pc := 23) dC_written_23 (by rfl) ?_
        refine tv_getR (pc := 24) 0 hC.1 (by rfl) uwC_ (by decide) wm_35 (by rfl) dC_written_24 ?_
        refine tv_iconst (v := 1) (pc := 27) dC_written_27 (by decide) ?_
        refine tv_aald (pc := 28) (j := 1) hC.2.1 ⟨by decide, by decide, by decide⟩ dC_written_28 ?_
        refine tv_iload_n (pc := 29) dC_written_29 (by rfl) ?_
        refine tv_iald (pc := 30) (hC.2.2 1 (by decide)) hi dC_written_30 ?_
        refine tv_goto (pc := 31) 35 dC_written_31 (by decide) ?_
        exact tv_iret (pc := 35) dC_written_35 rfl (Nat.le_refl _) (Nat.le_refl _) (by first | exact hA _ (by simp_all) rfl | exact hB (by simp_all))
set_option maxRecDepth 100000 in
set_option maxHeartbeats 4000000 in
theorem c_C_target (l : Launch) (G : tc_G) (u : tc_S) {k g b : Nat} (hC : tcx_code k g b) {i n : Nat} (hi : tc_ix (nI i) 16 i) (hs : u k 1 = nI n) (hn : n ≤ 16) (h4 : pv u b 0 i = 4 → ∃ a, a < 17 ∧ pv u b 2 i = nI a) : tc_C tcx G l yC_target wC_target r0C_target 0 0 [.ref (tc_ad G k), .int (nI i)] u (tc_Ki (nI (tp_tg n (pv u b) i)) u) := by
  refine tw_ofV (own := "TracedCode$Code") [some (.ref (tc_ad G k)), some (.int (nI i))] (by decide +kernel) rfl (Nat.le_of_ble_eq_true rfl) (by rfl) (fun p e s m args below meth c => ?_)
  have hA : ¬ u (b + 0) i = 4 → tc_Ki (nI (tp_tg n (pv u b) i)) u (.returned (some (.int (nI i + 1)))) u := fun h => ⟨by unfold tp_tg pv; rw [if_neg h, nI_1], rfl⟩
  have hB : u (b + 0) i = 4 → u (b + 2) i < u k 1 → tc_Ki (nI (tp_tg n (pv u b) i)) u (.returned (some (.int (u (b + 2) i)))) u := fun h h2 => by
    obtain ⟨a, ha, ea⟩ := h4 h
    have ea : u (b + 2) i = nI a := ea
    rw [ea, hs] at h2
    have h3 := (nI_ltI (by omega) (by omega)).mp h2
    refine ⟨?_, rfl⟩
    unfold tp_tg pv tp_n
    rw [if_pos h, ea, nI_clamp (by omega), if_pos h3]
  have hD : u (b + 0) i = 4 → ¬ u (b + 2) i < u k 1 → tc_Ki (nI (tp_tg n (pv u b) i)) u (.returned (some (.int (u k 1)))) u := fun h h2 => by
    obtain ⟨a, ha, ea⟩ := h4 h
    have ea : u (b + 2) i = nI a := ea
    rw [ea, hs] at h2
    have h3 : ¬ a < n := fun q => h2 ((nI_ltI (by omega) (by omega)).mpr q)
    refine ⟨?_, rfl⟩
    unfold tp_tg pv tp_n
    rw [if_pos h, ea, nI_clamp (by omega), if_neg h3, hs]
  refine tv_aload_n (pc := 0) dC_target_0 (by rfl) ?_
  refine tv_getR (pc := 1) 0 hC.1 (by rfl) uwC_ (by decide) wm_35 (by rfl) dC_target_1 ?_
  refine tv_iconst (v := 0) (pc := 4) dC_target_4 (by decide) ?_
  refine tv_aald (pc := 5) (j := 0) hC.2.1 ⟨by decide, by decide, by decide⟩ dC_target_5 ?_
  refine tv_iload_n (pc := 6) dC_target_6 (by rfl) ?_
  refine tv_iald (pc := 7) (hC.2.2 0 (by decide)) hi dC_target_7 ?_
  refine tv_iconst (v := 4) (pc := 8) dC_target_8 (by decide) ?_
  refine tv_icmp_eq (pc := 9) 16 dC_target_9 (by decide) (fun h9 => ?_) (fun h9 => ?_)
  · skip
    refine tv_aload_n (pc := 16) dC_target_16 (by rfl) ?_
    refine tv_getR (pc := 17) 0 hC.1 (by rfl) uwC_ (by decide) wm_35 (by rfl) dC_target_17 ?_
    refine tv_iconst (v := 2) (pc := 20) dC_target_20 (by decide) ?_
    refine tv_aald (pc := 21) (j := 2) hC.2.1 ⟨by decide, by decide, by decide⟩ dC_target_21 ?_
    refine tv_iload_n (pc := 22) dC_target_22 (by rfl) ?_
    refine tv_iald (pc := 23) (hC.2.2 2 (by decide)) hi dC_target_23 ?_
    refine tv_aload_n (pc := 24) dC_target_24 (by rfl) ?_
    refine tv_getI (pc := 25) 1 hC.1 (by rfl) uwC_ (by decide) wm_36 (by rfl) dC_target_25 ?_
    refine tv_icmp_ge (pc := 28) 42 dC_target_28 (by decide) (fun h28 => ?_) (fun h28 => ?_)
    · skip
      refine tv_aload_n (pc := 42) dC_target_42 (by rfl) ?_
      refine tv_getI (pc := 43) 1 hC.1 (by rfl) uwC_ (by decide) wm_36 (by rfl) dC_target_43 ?_
      exact tv_iret (pc := 46) dC_target_46 rfl (Nat.le_refl _) (Nat.le_refl _) (by first | exact hA (by assumption) | exact hB (by assumption) (Int32.not_le.mp (by assumption)) | exact hD (by assumption) (Int32.not_lt.mpr (by assumption)))
    · skip
      refine tv_aload_n (pc := 31) dC_target_31 (by rfl) ?_
      refine tv_getR (pc := 32) 0 hC.1 (by rfl) uwC_ (by decide) wm_35 (by rfl) dC_target_32 ?_
      refine tv_iconst (v := 2) (pc := 35) dC_target_35 (by decide) ?_
      refine tv_aald (pc := 36) (j := 2) hC.2.1 ⟨by decide, by decide, by decide⟩ dC_target_36 ?_
      refine tv_iload_n (pc := 37) dC_target_37 (by rfl) ?_
      refine tv_iald (pc := 38) (hC.2.2 2 (by decide)) hi dC_target_38 ?_
      refine tv_goto (pc := 39) 46 dC_target_39 (by decide) ?_
      exact tv_iret (pc := 46) dC_target_46 rfl (Nat.le_refl _) (Nat.le_refl _) (by first | exact hA (by assumption) | exact hB (by assumption) (Int32.not_le.mp (by assumption)) | exact hD (by assumption) (Int32.not_lt.mpr (by assumption)))
  · skip
    refine tv_iload_n (pc := 12) dC_target_12 (by rfl) ?_
    refine tv_iconst (v := 1) (pc := 13) dC_target_13 (by decide) ?_
    refine tv_iadd (pc := 14) dC_target_14 ?_
    exact tv_iret (pc := 15) dC_target_15 rfl (Nat.le_refl _) (Nat.le_refl _) (by first | exact hA (by assumption) | exact hB (by assumption) (Int32.not_le.mp (by assumption)) | exact hD (by assumption) (Int32.not_lt.mpr (by assumption)))
set_option maxRecDepth 100000 in
set_option maxHeartbeats 4000000 in
theorem c_C_readsAt (l : Launch) (G : tc_G) (u : tc_S) {k g b : Nat} (hC : tcx_code k g b) {line : Int32} {i : Nat} (hi : tc_ix line 16 i) {place : Int32} {j : Nat} (hj : j < 4) (hpl : place = nI j) (hl : tp_line (pv u b) i) : tc_C tcx G l yC_readsAt wC_readsAt r0C_readsAt 0 0 [.ref (tc_ad G k), .int line, .int place] u (tc_Ki (tp_b (tp_rd (pv u b) i j)) u) := by
  refine tw_ofV (own := "TracedCode$Code") [some (.ref (tc_ad G k)), some (.int line), some (.int place), none] (by decide +kernel) rfl (Nat.le_of_ble_eq_true rfl) (by rfl) (fun p e s m args below meth c => ?_)
  have hA : u (b + 0) i = -1 → tc_Ki (tp_b (tp_rd (pv u b) i j)) u (.returned (some (.int 0))) u := fun h => by
    refine ⟨?_, rfl⟩
    rw [tp_b_f]
    have h : pv u b 0 i = -1 := h
    rintro (⟨-, q⟩ | ⟨-, q⟩ | ⟨-, q⟩) <;> rw [h] at q <;> exact absurd q (by decide)
  have hK : ¬ u (b + 0) i = -1 → ∃ κ : Nat, κ < 6 ∧ u (b + 0) i = nI κ := fun h => by
    rcases hl.1 with q | q | q | q | q | q | q
    · exact absurd q h
    · exact ⟨0, by decide, q⟩
    · exact ⟨1, by decide, q⟩
    · exact ⟨2, by decide, q⟩
    · exact ⟨3, by decide, q⟩
    · exact ⟨4, by decide, q⟩
    · exact ⟨5, by decide, q⟩
  have hT : ∀ κ : Nat, κ < 6 → u (b + 0) i = nI κ → ((([0, 4, 12, 2, 2, 4] : List Int32).getD κ 0 >>> (place &&& 31)) &&& 1 = 0 ↔ ¬ tp_rd (pv u b) i j) := fun κ h1 h2 => by
    have h2 : pv u b 0 i = nI κ := h2
    unfold tp_rd
    rw [h2, hpl]
    have key : ∀ κ : Fin 6, ∀ j : Fin 4, ((([0, 4, 12, 2, 2, 4] : List Int32).getD κ.val 0 >>> (nI j.val &&& 31)) &&& 1 = 0 ↔ ¬ ((j.val = 1 ∧ (nI κ.val = 3 ∨ nI κ.val = 4)) ∨ (j.val = 2 ∧ (nI κ.val = 1 ∨ nI κ.val = 2 ∨ nI κ.val = 5)) ∨ (j.val = 3 ∧ nI κ.val = 2))) := by decide +kernel
    exact key ⟨κ, h1⟩ ⟨j, hj⟩
  refine tv_aload_n (pc := 0) dC_readsAt_0 (by rfl) ?_
  refine tv_getR (pc := 1) 0 hC.1 (by rfl) uwC_ (by decide) wm_35 (by rfl) dC_readsAt_1 ?_
  refine tv_iconst (v := 0) (pc := 4) dC_readsAt_4 (by decide) ?_
  refine tv_aald (pc := 5) (j := 0) hC.2.1 ⟨by decide, by decide, by decide⟩ dC_readsAt_5 ?_
  refine tv_iload_n (pc := 6) dC_readsAt_6 (by rfl) ?_
  refine tv_iald (pc := 7) (hC.2.2 0 (by decide)) hi dC_readsAt_7 ?_
  refine tv_istore3 (pc := 8) dC_readsAt_8 (by rfl) ?_
  refine tv_iload_n (pc := 9) dC_readsAt_9 (by rfl) ?_
  refine tv_iconst (v := (-1)) (pc := 10) dC_readsAt_10 (by decide) ?_
  refine tv_icmp_eq (pc := 11) 30 dC_readsAt_11 (by decide) (fun h11 => ?_) (fun h11 => ?_)
  · skip
    refine tv_iconst (v := 0) (pc := 30) dC_readsAt_30 (by decide) ?_
    exact tv_zret (pc := 31) dC_readsAt_31 rfl (Nat.le_refl _) (Nat.le_refl _) (by rfl)  (by first | exact hA (by assumption) | exact ⟨by rw [tp_b_f ((hT κ hκ1 hκ2).mp (by assumption))], rfl⟩ | exact ⟨by rw [tp_b_t (Classical.byContradiction fun q => (by assumption : ¬ _) ((hT κ hκ1 hκ2).mpr q))], rfl⟩)
  · skip
    obtain ⟨κ, hκ1, hκ2⟩ := hK (by assumption)
    refine tv_gets (ta := [0, 4, 12, 2, 2, 4]) (pc := 14) (List.mem_singleton.mpr rfl) wm_259 dC_readsAt_14 (fun t14 hT14 => ?_)
    refine tv_iload_n (pc := 17) dC_readsAt_17 (by rfl) ?_
    refine tv_tald (pc := 18) (j := κ) hT14 ⟨by rw [hκ2]; exact nI_pos (by omega), by rw [hκ2]; exact nI_clamp (by omega), hκ1⟩ (by rfl) dC_readsAt_18 ?_
    refine tv_iload_n (pc := 19) dC_readsAt_19 (by rfl) ?_
    refine tv_ishr (pc := 20) dC_readsAt_20 ?_
    refine tv_iconst (v := 1) (pc := 21) dC_readsAt_21 (by decide) ?_
    refine tv_iand (pc := 22) dC_readsAt_22 ?_
    refine tv_if_eq (pc := 23) 30 dC_readsAt_23 (by decide) (fun h23 => ?_) (fun h23 => ?_)
    · skip
      refine tv_iconst (v := 0) (pc := 30) dC_readsAt_30 (by decide) ?_
      exact tv_zret (pc := 31) dC_readsAt_31 rfl (Nat.le_refl _) (Nat.le_refl _) (by rfl)  (by first | exact hA (by assumption) | exact ⟨by rw [tp_b_f ((hT κ hκ1 hκ2).mp (by assumption))], rfl⟩ | exact ⟨by rw [tp_b_t (Classical.byContradiction fun q => (by assumption : ¬ _) ((hT κ hκ1 hκ2).mpr q))], rfl⟩)
    · skip
      refine tv_iconst (v := 1) (pc := 26) dC_readsAt_26 (by decide) ?_
      refine tv_goto (pc := 27) 31 dC_readsAt_27 (by decide) ?_
      exact tv_zret (pc := 31) dC_readsAt_31 rfl (Nat.le_refl _) (Nat.le_refl _) (by rfl)  (by first | exact hA (by assumption) | exact ⟨by rw [tp_b_f ((hT κ hκ1 hκ2).mp (by assumption))], rfl⟩ | exact ⟨by rw [tp_b_t (Classical.byContradiction fun q => (by assumption : ¬ _) ((hT κ hκ1 hκ2).mpr q))], rfl⟩)
