def tp_sh (x : Int32) : Int32 := 1 <<< (x &&& 31)
noncomputable def tp_ns (P : tp_P) (i j : Nat) (a : Int32) : Int32 := @ite _ (tp_rd P i j) (Classical.propDecidable _) (a ||| tp_sh (P j i)) a
/-- the registers that a line reads so that they are live before it -/
noncomputable def tp_nd (P : tp_P) (i : Nat) : Int32 := if P 0 i = 5 then 0 else tp_ns P i 3 (tp_ns P i 2 (tp_ns P i 1 0))
theorem tp_ns_z {P : tp_P} {i j : Nat} {a : Int32} (h : tp_b (tp_rd P i j) = 0) : tp_ns P i j a = a := by
  unfold tp_ns
  by_cases k : tp_rd P i j
  · rw [tp_b_t k] at h; exact absurd h (by decide)
  · rw [if_neg k]
theorem tp_ns_o {P : tp_P} {i j : Nat} {a : Int32} (h : ¬ tp_b (tp_rd P i j) = 0) : tp_ns P i j a = a ||| tp_sh (P j i) := by
  unfold tp_ns
  by_cases k : tp_rd P i j
  · rw [if_pos k]
  · exact absurd (tp_b_f k) h
/-- how many lines are left -/
def tp_cn (P : tp_P) : Nat → Nat
  | 0 => 0
  | i + 1 => if P 0 i = -1 then tp_cn P i else tp_cn P i + 1
theorem tp_cn_s (P : tp_P) (i : Nat) : tp_cn P (i + 1) = if P 0 i = -1 then tp_cn P i else tp_cn P i + 1 := rfl
theorem tp_cn_le (P : tp_P) : ∀ n, tp_cn P n ≤ n
  | 0 => Nat.le_refl 0
  | n + 1 => by
    have := tp_cn_le P n
    unfold tp_cn
    split <;> omega
set_option maxRecDepth 100000 in
set_option maxHeartbeats 4000000 in
theorem c_C_needed (l : Launch) (G : tc_G) (u : tc_S) {k g b : Nat} (hC : tcx_code k g b) {line : Int32} {i : Nat} (hi : tc_ix line 16 i) (hl : tp_line (pv u b) i) : tc_C tcx G l yC_needed wC_needed r0C_needed 0 0 [.ref (tc_ad G k), .int line] u (tc_Ki (tp_nd (pv u b) i) u) := by
  refine tw_ofV (own := "TracedCode$Code") [some (.ref (tc_ad G k)), some (.int line), none, none] (by decide +kernel) rfl (Nat.le_of_ble_eq_true rfl) (by rfl) (fun p e s m args below meth c => ?_)
  refine tv_aload_n (pc := 0) dC_needed_0 (by rfl) ?_
  refine tv_getR (pc := 1) 0 hC.1 (by rfl) uwC_ (by decide) wm_35 (by rfl) dC_needed_1 ?_
  refine tv_iconst (v := 0) (pc := 4) dC_needed_4 (by decide) ?_
  refine tv_aald (pc := 5) (j := 0) hC.2.1 ⟨by decide, by decide, by decide⟩ dC_needed_5 ?_
  refine tv_iload_n (pc := 6) dC_needed_6 (by rfl) ?_
  refine tv_iald (pc := 7) (hC.2.2 0 (by decide)) hi dC_needed_7 ?_
  refine tv_iconst (v := 5) (pc := 8) dC_needed_8 (by decide) ?_
  refine tv_icmp_ne (pc := 9) 14 dC_needed_9 (by decide) (fun h9 => ?_) (fun h9 => ?_)
  · skip
    refine tv_iconst (v := 0) (pc := 14) dC_needed_14 (by decide) ?_
    refine tv_istore2 (pc := 15) dC_needed_15 (by rfl) ?_
    refine tv_iconst (v := 1) (pc := 16) dC_needed_16 (by decide) ?_
    refine tv_istore3 (pc := 17) dC_needed_17 (by rfl) ?_
    refine tv_iload_n (pc := 18) dC_needed_18 (by rfl) ?_
    refine tv_iconst (v := 4) (pc := 19) dC_needed_19 (by decide) ?_
    refine tv_icmp_ge (pc := 20) 51 dC_needed_20 (by decide) (fun h => absurd h (by decide)) (fun _ => ?_)
    refine tv_aload_n (pc := 23) dC_needed_23 (by rfl) ?_
    refine tv_iload_n (pc := 24) dC_needed_24 (by rfl) ?_
    refine tv_iload_n (pc := 25) dC_needed_25 (by rfl) ?_
    refine tv_callVi (pc := 26) [_, _] hC.1 (by rfl) (c_C_readsAt l G u hC hi (j := 1) (by decide) (by decide) hl) (kVC_readsAt wm_300 ⟨by decide, by decide⟩) (by rfl) (by decide) dC_needed_26 ⟨by decide, by decide⟩ ?_
    refine tv_if_eq (pc := 29) 45 dC_needed_29 (by decide) (fun h29 => ?_) (fun h29 => ?_)
    · skip
      refine tv_iinc3 (v := 1) (pc := 45) dC_needed_45 (by decide) (by rfl) ?_
      refine tv_goto (pc := 48) 18 dC_needed_48 (by decide) ?_
      refine tv_iload_n (pc := 18) dC_needed_18 (by rfl) ?_
      refine tv_iconst (v := 4) (pc := 19) dC_needed_19 (by decide) ?_
      refine tv_icmp_ge (pc := 20) 51 dC_needed_20 (by decide) (fun h => absurd h (by decide)) (fun _ => ?_)
      refine tv_aload_n (pc := 23) dC_needed_23 (by rfl) ?_
      refine tv_iload_n (pc := 24) dC_needed_24 (by rfl) ?_
      refine tv_iload_n (pc := 25) dC_needed_25 (by rfl) ?_
      refine tv_callVi (pc := 26) [_, _] hC.1 (by rfl) (c_C_readsAt l G u hC hi (j := 2) (by decide) (by decide) hl) (kVC_readsAt wm_300 ⟨by decide, by decide⟩) (by rfl) (by decide) dC_needed_26 ⟨by decide, by decide⟩ ?_
      refine tv_if_eq (pc := 29) 45 dC_needed_29 (by decide) (fun h29 => ?_) (fun h29 => ?_)
      · skip
        refine tv_iinc3 (v := 1) (pc := 45) dC_needed_45 (by decide) (by rfl) ?_
        refine tv_goto (pc := 48) 18 dC_needed_48 (by decide) ?_
        refine tv_iload_n (pc := 18) dC_needed_18 (by rfl) ?_
        refine tv_iconst (v := 4) (pc := 19) dC_needed_19 (by decide) ?_
        refine tv_icmp_ge (pc := 20) 51 dC_needed_20 (by decide) (fun h => absurd h (by decide)) (fun _ => ?_)
        refine tv_aload_n (pc := 23) dC_needed_23 (by rfl) ?_
        refine tv_iload_n (pc := 24) dC_needed_24 (by rfl) ?_
        refine tv_iload_n (pc := 25) dC_needed_25 (by rfl) ?_
        refine tv_callVi (pc := 26) [_, _] hC.1 (by rfl) (c_C_readsAt l G u hC hi (j := 3) (by decide) (by decide) hl) (kVC_readsAt wm_300 ⟨by decide, by decide⟩) (by rfl) (by decide) dC_needed_26 ⟨by decide, by decide⟩ ?_
        refine tv_if_eq (pc := 29) 45 dC_needed_29 (by decide) (fun h29 => ?_) (fun h29 => ?_)
        · skip
          refine tv_iinc3 (v := 1) (pc := 45) dC_needed_45 (by decide) (by rfl) ?_
          refine tv_goto (pc := 48) 18 dC_needed_48 (by decide) ?_
          refine tv_iload_n (pc := 18) dC_needed_18 (by rfl) ?_
          refine tv_iconst (v := 4) (pc := 19) dC_needed_19 (by decide) ?_
          refine tv_icmp_ge (pc := 20) 51 dC_needed_20 (by decide) (fun _ => ?_) (fun h => absurd (by decide) h)
          refine tv_iload_n (pc := 51) dC_needed_51 (by rfl) ?_
          exact tv_iret (pc := 52) dC_needed_52 rfl (Nat.le_refl _) (Nat.le_refl _) (by first | (refine ⟨?_, rfl⟩; unfold tp_nd; rw [if_neg (by assumption)]; (first | rw [tp_ns_z (j := 3) (by assumption)] | rw [tp_ns_o (j := 3) (by assumption)]); (first | rw [tp_ns_z (j := 2) (by assumption)] | rw [tp_ns_o (j := 2) (by assumption)]); (first | rw [tp_ns_z (j := 1) (by assumption)] | rw [tp_ns_o (j := 1) (by assumption)]); try rfl) | exact ⟨by unfold tp_nd; rw [if_pos (by assumption)], rfl⟩)
        · skip
          refine tv_iload_n (pc := 32) dC_needed_32 (by rfl) ?_
          refine tv_iconst (v := 1) (pc := 33) dC_needed_33 (by decide) ?_
          refine tv_aload_n (pc := 34) dC_needed_34 (by rfl) ?_
          refine tv_getR (pc := 35) 0 hC.1 (by rfl) uwC_ (by decide) wm_35 (by rfl) dC_needed_35 ?_
          refine tv_iload_n (pc := 38) dC_needed_38 (by rfl) ?_
          refine tv_aald (pc := 39) (j := 3) hC.2.1 ⟨by decide, by decide, by decide⟩ dC_needed_39 ?_
          refine tv_iload_n (pc := 40) dC_needed_40 (by rfl) ?_
          refine tv_iald (pc := 41) (hC.2.2 3 (by decide)) hi dC_needed_41 ?_
          refine tv_ishl (pc := 42) dC_needed_42 ?_
          refine tv_ior (pc := 43) dC_needed_43 ?_
          refine tv_istore2 (pc := 44) dC_needed_44 (by rfl) ?_
          refine tv_iinc3 (v := 1) (pc := 45) dC_needed_45 (by decide) (by rfl) ?_
          refine tv_goto (pc := 48) 18 dC_needed_48 (by decide) ?_
          refine tv_iload_n (pc := 18) dC_needed_18 (by rfl) ?_
          refine tv_iconst (v := 4) (pc := 19) dC_needed_19 (by decide) ?_
          refine tv_icmp_ge (pc := 20) 51 dC_needed_20 (by decide) (fun _ => ?_) (fun h => absurd (by decide) h)
          refine tv_iload_n (pc := 51) dC_needed_51 (by rfl) ?_
          exact tv_iret (pc := 52) dC_needed_52 rfl (Nat.le_refl _) (Nat.le_refl _) (by first | (refine ⟨?_, rfl⟩; unfold tp_nd; rw [if_neg (by assumption)]; (first | rw [tp_ns_z (j := 3) (by assumption)] | rw [tp_ns_o (j := 3) (by assumption)]); (first | rw [tp_ns_z (j := 2) (by assumption)] | rw [tp_ns_o (j := 2) (by assumption)]); (first | rw [tp_ns_z (j := 1) (by assumption)] | rw [tp_ns_o (j := 1) (by assumption)]); try rfl) | exact ⟨by unfold tp_nd; rw [if_pos (by assumption)], rfl⟩)
      · skip
        refine tv_iload_n (pc := 32) dC_needed_32 (by rfl) ?_
        refine tv_iconst (v := 1) (pc := 33) dC_needed_33 (by decide) ?_
        refine tv_aload_n (pc := 34) dC_needed_34 (by rfl) ?_
        refine tv_getR (pc := 35) 0 hC.1 (by rfl) uwC_ (by decide) wm_35 (by rfl) dC_needed_35 ?_
        refine tv_iload_n (pc := 38) dC_needed_38 (by rfl) ?_
        refine tv_aald (pc := 39) (j := 2) hC.2.1 ⟨by decide, by decide, by decide⟩ dC_needed_39 ?_
        refine tv_iload_n (pc := 40) dC_needed_40 (by rfl) ?_
        refine tv_iald (pc := 41) (hC.2.2 2 (by decide)) hi dC_needed_41 ?_
        refine tv_ishl (pc := 42) dC_needed_42 ?_
        refine tv_ior (pc := 43) dC_needed_43 ?_
        refine tv_istore2 (pc := 44) dC_needed_44 (by rfl) ?_
        refine tv_iinc3 (v := 1) (pc := 45) dC_needed_45 (by decide) (by rfl) ?_
        refine tv_goto (pc := 48) 18 dC_needed_48 (by decide) ?_
        refine tv_iload_n (pc := 18) dC_needed_18 (by rfl) ?_
        refine tv_iconst (v := 4) (pc := 19) dC_needed_19 (by decide) ?_
        refine tv_icmp_ge (pc := 20) 51 dC_needed_20 (by decide) (fun h => absurd h (by decide)) (fun _ => ?_)
        refine tv_aload_n (pc := 23) dC_needed_23 (by rfl) ?_
        refine tv_iload_n (pc := 24) dC_needed_24 (by rfl) ?_
        refine tv_iload_n (pc := 25) dC_needed_25 (by rfl) ?_
        refine tv_callVi (pc := 26) [_, _] hC.1 (by rfl) (c_C_readsAt l G u hC hi (j := 3) (by decide) (by decide) hl) (kVC_readsAt wm_300 ⟨by decide, by decide⟩) (by rfl) (by decide) dC_needed_26 ⟨by decide, by decide⟩ ?_
        refine tv_if_eq (pc := 29) 45 dC_needed_29 (by decide) (fun h29 => ?_) (fun h29 => ?_)
        · skip
          refine tv_iinc3 (v := 1) (pc := 45) dC_needed_45 (by decide) (by rfl) ?_
          refine tv_goto (pc := 48) 18 dC_needed_48 (by decide) ?_
          refine tv_iload_n (pc := 18) dC_needed_18 (by rfl) ?_
          refine tv_iconst (v := 4) (pc := 19) dC_needed_19 (by decide) ?_
          refine tv_icmp_ge (pc := 20) 51 dC_needed_20 (by decide) (fun _ => ?_) (fun h => absurd (by decide) h)
          refine tv_iload_n (pc := 51) dC_needed_51 (by rfl) ?_
          exact tv_iret (pc := 52) dC_needed_52 rfl (Nat.le_refl _) (Nat.le_refl _) (by first | (refine ⟨?_, rfl⟩; unfold tp_nd; rw [if_neg (by assumption)]; (first | rw [tp_ns_z (j := 3) (by assumption)] | rw [tp_ns_o (j := 3) (by assumption)]); (first | rw [tp_ns_z (j := 2) (by assumption)] | rw [tp_ns_o (j := 2) (by assumption)]); (first | rw [tp_ns_z (j := 1) (by assumption)] | rw [tp_ns_o (j := 1) (by assumption)]); try rfl) | exact ⟨by unfold tp_nd; rw [if_pos (by assumption)], rfl⟩)
        · skip
          refine tv_iload_n (pc := 32) dC_needed_32 (by rfl) ?_
          refine tv_iconst (v := 1) (pc := 33) dC_needed_33 (by decide) ?_
          refine tv_aload_n (pc := 34) dC_needed_34 (by rfl) ?_
          refine tv_getR (pc := 35) 0 hC.1 (by rfl) uwC_ (by decide) wm_35 (by rfl) dC_needed_35 ?_
          refine tv_iload_n (pc := 38) dC_needed_38 (by rfl) ?_
          refine tv_aald (pc := 39) (j := 3) hC.2.1 ⟨by decide, by decide, by decide⟩ dC_needed_39 ?_
          refine tv_iload_n (pc := 40) dC_needed_40 (by rfl) ?_
          refine tv_iald (pc := 41) (hC.2.2 3 (by decide)) hi dC_needed_41 ?_
          refine tv_ishl (pc := 42) dC_needed_42 ?_
          refine tv_ior (pc := 43) dC_needed_43 ?_
          refine tv_istore2 (pc := 44) dC_needed_44 (by rfl) ?_
          refine tv_iinc3 (v := 1) (pc := 45) dC_needed_45 (by decide) (by rfl) ?_
          refine tv_goto (pc := 48) 18 dC_needed_48 (by decide) ?_
          refine tv_iload_n (pc := 18) dC_needed_18 (by rfl) ?_
          refine tv_iconst (v := 4) (pc := 19) dC_needed_19 (by decide) ?_
          refine tv_icmp_ge (pc := 20) 51 dC_needed_20 (by decide) (fun _ => ?_) (fun h => absurd (by decide) h)
          refine tv_iload_n (pc := 51) dC_needed_51 (by rfl) ?_
          exact tv_iret (pc := 52) dC_needed_52 rfl (Nat.le_refl _) (Nat.le_refl _) (by first | (refine ⟨?_, rfl⟩; unfold tp_nd; rw [if_neg (by assumption)]; (first | rw [tp_ns_z (j := 3) (by assumption)] | rw [tp_ns_o (j := 3) (by assumption)]); (first | rw [tp_ns_z (j := 2) (by assumption)] | rw [tp_ns_o (j := 2) (by assumption)]); (first | rw [tp_ns_z (j := 1) (by assumption)] | rw [tp_ns_o (j := 1) (by assumption)]); try rfl) | exact ⟨by unfold tp_nd; rw [if_pos (by assumption)], rfl⟩)
    · skip
      refine tv_iload_n (pc := 32) dC_needed_32 (by rfl) ?_
      refine tv_iconst (v := 1) (pc := 33) dC_needed_33 (by decide) ?_
      refine tv_aload_n (pc := 34) dC_needed_34 (by rfl) ?_
      refine tv_getR (pc := 35) 0 hC.1 (by rfl) uwC_ (by decide) wm_35 (by rfl) dC_needed_35 ?_
      refine tv_iload_n (pc := 38) dC_needed_38 (by rfl) ?_
      refine tv_aald (pc := 39) (j := 1) hC.2.1 ⟨by decide, by decide, by decide⟩ dC_needed_39 ?_
      refine tv_iload_n (pc := 40) dC_needed_40 (by rfl) ?_
      refine tv_iald (pc := 41) (hC.2.2 1 (by decide)) hi dC_needed_41 ?_
      refine tv_ishl (pc := 42) dC_needed_42 ?_
      refine tv_ior (pc := 43) dC_needed_43 ?_
      refine tv_istore2 (pc := 44) dC_needed_44 (by rfl) ?_
      refine tv_iinc3 (v := 1) (pc := 45) dC_needed_45 (by decide) (by rfl) ?_
      refine tv_goto (pc := 48) 18 dC_needed_48 (by decide) ?_
      refine tv_iload_n (pc := 18) dC_needed_18 (by rfl) ?_
      refine tv_iconst (v := 4) (pc := 19) dC_needed_19 (by decide) ?_
      refine tv_icmp_ge (pc := 20) 51 dC_needed_20 (by decide) (fun h => absurd h (by decide)) (fun _ => ?_)
      refine tv_aload_n (pc := 23) dC_needed_23 (by rfl) ?_
      refine tv_iload_n (pc := 24) dC_needed_24 (by rfl) ?_
      refine tv_iload_n (pc := 25) dC_needed_25 (by rfl) ?_
      refine tv_callVi (pc := 26) [_, _] hC.1 (by rfl) (c_C_readsAt l G u hC hi (j := 2) (by decide) (by decide) hl) (kVC_readsAt wm_300 ⟨by decide, by decide⟩) (by rfl) (by decide) dC_needed_26 ⟨by decide, by decide⟩ ?_
      refine tv_if_eq (pc := 29) 45 dC_needed_29 (by decide) (fun h29 => ?_) (fun h29 => ?_)
      · skip
        refine tv_iinc3 (v := 1) (pc := 45) dC_needed_45 (by decide) (by rfl) ?_
        refine tv_goto (pc := 48) 18 dC_needed_48 (by decide) ?_
        refine tv_iload_n (pc := 18) dC_needed_18 (by rfl) ?_
        refine tv_iconst (v := 4) (pc := 19) dC_needed_19 (by decide) ?_
        refine tv_icmp_ge (pc := 20) 51 dC_needed_20 (by decide) (fun h => absurd h (by decide)) (fun _ => ?_)
        refine tv_aload_n (pc := 23) dC_needed_23 (by rfl) ?_
        refine tv_iload_n (pc := 24) dC_needed_24 (by rfl) ?_
        refine tv_iload_n (pc := 25) dC_needed_25 (by rfl) ?_
        refine tv_callVi (pc := 26) [_, _] hC.1 (by rfl) (c_C_readsAt l G u hC hi (j := 3) (by decide) (by decide) hl) (kVC_readsAt wm_300 ⟨by decide, by decide⟩) (by rfl) (by decide) dC_needed_26 ⟨by decide, by decide⟩ ?_
        refine tv_if_eq (pc := 29) 45 dC_needed_29 (by decide) (fun h29 => ?_) (fun h29 => ?_)
        · skip
          refine tv_iinc3 (v := 1) (pc := 45) dC_needed_45 (by decide) (by rfl) ?_
          refine tv_goto (pc := 48) 18 dC_needed_48 (by decide) ?_
          refine tv_iload_n (pc := 18) dC_needed_18 (by rfl) ?_
          refine tv_iconst (v := 4) (pc := 19) dC_needed_19 (by decide) ?_
          refine tv_icmp_ge (pc := 20) 51 dC_needed_20 (by decide) (fun _ => ?_) (fun h => absurd (by decide) h)
          refine tv_iload_n (pc := 51) dC_needed_51 (by rfl) ?_
          exact tv_iret (pc := 52) dC_needed_52 rfl (Nat.le_refl _) (Nat.le_refl _) (by first | (refine ⟨?_, rfl⟩; unfold tp_nd; rw [if_neg (by assumption)]; (first | rw [tp_ns_z (j := 3) (by assumption)] | rw [tp_ns_o (j := 3) (by assumption)]); (first | rw [tp_ns_z (j := 2) (by assumption)] | rw [tp_ns_o (j := 2) (by assumption)]); (first | rw [tp_ns_z (j := 1) (by assumption)] | rw [tp_ns_o (j := 1) (by assumption)]); try rfl) | exact ⟨by unfold tp_nd; rw [if_pos (by assumption)], rfl⟩)
        · skip
          refine tv_iload_n (pc := 32) dC_needed_32 (by rfl) ?_
          refine tv_iconst (v := 1) (pc := 33) dC_needed_33 (by decide) ?_
          refine tv_aload_n (pc := 34) dC_needed_34 (by rfl) ?_
          refine tv_getR (pc := 35) 0 hC.1 (by rfl) uwC_ (by decide) wm_35 (by rfl) dC_needed_35 ?_
          refine tv_iload_n (pc := 38) dC_needed_38 (by rfl) ?_
          refine tv_aald (pc := 39) (j := 3) hC.2.1 ⟨by decide, by decide, by decide⟩ dC_needed_39 ?_
          refine tv_iload_n (pc := 40) dC_needed_40 (by rfl) ?_
          refine tv_iald (pc := 41) (hC.2.2 3 (by decide)) hi dC_needed_41 ?_
          refine tv_ishl (pc := 42) dC_needed_42 ?_
          refine tv_ior (pc := 43) dC_needed_43 ?_
          refine tv_istore2 (pc := 44) dC_needed_44 (by rfl) ?_
          refine tv_iinc3 (v := 1) (pc := 45) dC_needed_45 (by decide) (by rfl) ?_
          refine tv_goto (pc := 48) 18 dC_needed_48 (by decide) ?_
          refine tv_iload_n (pc := 18) dC_needed_18 (by rfl) ?_
          refine tv_iconst (v := 4) (pc := 19) dC_needed_19 (by decide) ?_
          refine tv_icmp_ge (pc := 20) 51 dC_needed_20 (by decide) (fun _ => ?_) (fun h => absurd (by decide) h)
          refine tv_iload_n (pc := 51) dC_needed_51 (by rfl) ?_
          exact tv_iret (pc := 52) dC_needed_52 rfl (Nat.le_refl _) (Nat.le_refl _) (by first | (refine ⟨?_, rfl⟩; unfold tp_nd; rw [if_neg (by assumption)]; (first | rw [tp_ns_z (j := 3) (by assumption)] | rw [tp_ns_o (j := 3) (by assumption)]); (first | rw [tp_ns_z (j := 2) (by assumption)] | rw [tp_ns_o (j := 2) (by assumption)]); (first | rw [tp_ns_z (j := 1) (by assumption)] | rw [tp_ns_o (j := 1) (by assumption)]); try rfl) | exact ⟨by unfold tp_nd; rw [if_pos (by assumption)], rfl⟩)
      · skip
        refine tv_iload_n (pc := 32) dC_needed_32 (by rfl) ?_
        refine tv_iconst (v := 1) (pc := 33) dC_needed_33 (by decide) ?_
        refine tv_aload_n (pc := 34) dC_needed_34 (by rfl) ?_
        refine tv_getR (pc := 35) 0 hC.1 (by rfl) uwC_ (by decide) wm_35 (by rfl) dC_needed_35 ?_
        refine tv_iload_n (pc := 38) dC_needed_38 (by rfl) ?_
        refine tv_aald (pc := 39) (j := 2) hC.2.1 ⟨by decide, by decide, by decide⟩ dC_needed_39 ?_
        refine tv_iload_n (pc := 40) dC_needed_40 (by rfl) ?_
        refine tv_iald (pc := 41) (hC.2.2 2 (by decide)) hi dC_needed_41 ?_
        refine tv_ishl (pc := 42) dC_needed_42 ?_
        refine tv_ior (pc := 43) dC_needed_43 ?_
        refine tv_istore2 (pc := 44) dC_needed_44 (by rfl) ?_
        refine tv_iinc3 (v := 1) (pc := 45) dC_needed_45 (by decide) (by rfl) ?_
        refine tv_goto (pc := 48) 18 dC_needed_48 (by decide) ?_
        refine tv_iload_n (pc := 18) dC_needed_18 (by rfl) ?_
        refine tv_iconst (v := 4) (pc := 19) dC_needed_19 (by decide) ?_
        refine tv_icmp_ge (pc := 20) 51 dC_needed_20 (by decide) (fun h => absurd h (by decide)) (fun _ => ?_)
        refine tv_aload_n (pc := 23) dC_needed_23 (by rfl) ?_
        refine tv_iload_n (pc := 24) dC_needed_24 (by rfl) ?_
        refine tv_iload_n (pc := 25) dC_needed_25 (by rfl) ?_
        refine tv_callVi (pc := 26) [_, _] hC.1 (by rfl) (c_C_readsAt l G u hC hi (j := 3) (by decide) (by decide) hl) (kVC_readsAt wm_300 ⟨by decide, by decide⟩) (by rfl) (by decide) dC_needed_26 ⟨by decide, by decide⟩ ?_
        refine tv_if_eq (pc := 29) 45 dC_needed_29 (by decide) (fun h29 => ?_) (fun h29 => ?_)
        · skip
          refine tv_iinc3 (v := 1) (pc := 45) dC_needed_45 (by decide) (by rfl) ?_
          refine tv_goto (pc := 48) 18 dC_needed_48 (by decide) ?_
          refine tv_iload_n (pc := 18) dC_needed_18 (by rfl) ?_
          refine tv_iconst (v := 4) (pc := 19) dC_needed_19 (by decide) ?_
          refine tv_icmp_ge (pc := 20) 51 dC_needed_20 (by decide) (fun _ => ?_) (fun h => absurd (by decide) h)
          refine tv_iload_n (pc := 51) dC_needed_51 (by rfl) ?_
          exact tv_iret (pc := 52) dC_needed_52 rfl (Nat.le_refl _) (Nat.le_refl _) (by first | (refine ⟨?_, rfl⟩; unfold tp_nd; rw [if_neg (by assumption)]; (first | rw [tp_ns_z (j := 3) (by assumption)] | rw [tp_ns_o (j := 3) (by assumption)]); (first | rw [tp_ns_z (j := 2) (by assumption)] | rw [tp_ns_o (j := 2) (by assumption)]); (first | rw [tp_ns_z (j := 1) (by assumption)] | rw [tp_ns_o (j := 1) (by assumption)]); try rfl) | exact ⟨by unfold tp_nd; rw [if_pos (by assumption)], rfl⟩)
        · skip
          refine tv_iload_n (pc := 32) dC_needed_32 (by rfl) ?_
          refine tv_iconst (v := 1) (pc := 33) dC_needed_33 (by decide) ?_
          refine tv_aload_n (pc := 34) dC_needed_34 (by rfl) ?_
          refine tv_getR (pc := 35) 0 hC.1 (by rfl) uwC_ (by decide) wm_35 (by rfl) dC_needed_35 ?_
          refine tv_iload_n (pc := 38) dC_needed_38 (by rfl) ?_
          refine tv_aald (pc := 39) (j := 3) hC.2.1 ⟨by decide, by decide, by decide⟩ dC_needed_39 ?_
          refine tv_iload_n (pc := 40) dC_needed_40 (by rfl) ?_
          refine tv_iald (pc := 41) (hC.2.2 3 (by decide)) hi dC_needed_41 ?_
          refine tv_ishl (pc := 42) dC_needed_42 ?_
          refine tv_ior (pc := 43) dC_needed_43 ?_
          refine tv_istore2 (pc := 44) dC_needed_44 (by rfl) ?_
          refine tv_iinc3 (v := 1) (pc := 45) dC_needed_45 (by decide) (by rfl) ?_
          refine tv_goto (pc := 48) 18 dC_needed_48 (by decide) ?_
          refine tv_iload_n (pc := 18) dC_needed_18 (by rfl) ?_
          refine tv_iconst (v := 4) (pc := 19) dC_needed_19 (by decide) ?_
          refine tv_icmp_ge (pc := 20) 51 dC_needed_20 (by decide) (fun _ => ?_) (fun h => absurd (by decide) h)
          refine tv_iload_n (pc := 51) dC_needed_51 (by rfl) ?_
          exact tv_iret (pc := 52) dC_needed_52 rfl (Nat.le_refl _) (Nat.le_refl _) (by first | (refine ⟨?_, rfl⟩; unfold tp_nd; rw [if_neg (by assumption)]; (first | rw [tp_ns_z (j := 3) (by assumption)] | rw [tp_ns_o (j := 3) (by assumption)]); (first | rw [tp_ns_z (j := 2) (by assumption)] | rw [tp_ns_o (j := 2) (by assumption)]); (first | rw [tp_ns_z (j := 1) (by assumption)] | rw [tp_ns_o (j := 1) (by assumption)]); try rfl) | exact ⟨by unfold tp_nd; rw [if_pos (by assumption)], rfl⟩)
  · skip
    refine tv_iconst (v := 0) (pc := 12) dC_needed_12 (by decide) ?_
    exact tv_iret (pc := 13) dC_needed_13 rfl (Nat.le_refl _) (Nat.le_refl _) (by first | (refine ⟨?_, rfl⟩; unfold tp_nd; rw [if_neg (by assumption)]; (first | rw [tp_ns_z (j := 3) (by assumption)] | rw [tp_ns_o (j := 3) (by assumption)]); (first | rw [tp_ns_z (j := 2) (by assumption)] | rw [tp_ns_o (j := 2) (by assumption)]); (first | rw [tp_ns_z (j := 1) (by assumption)] | rw [tp_ns_o (j := 1) (by assumption)]); try rfl) | exact ⟨by unfold tp_nd; rw [if_pos (by assumption)], rfl⟩)
set_option maxRecDepth 100000 in
set_option maxHeartbeats 4000000 in
theorem c_C_fullLines (l : Launch) (G : tc_G) (u : tc_S) {k g b : Nat} (hC : tcx_code k g b) {n : Nat} (hs : u k 1 = nI n) (hn : n ≤ 16) : tc_C tcx G l yC_fullLines wC_fullLines r0C_fullLines 0 0 [.ref (tc_ad G k)] u (tc_Ki (nI (tp_cn (pv u b) n)) u) := by
  refine tw_ofV (own := "TracedCode$Code") [some (.ref (tc_ad G k)), none, none] (by decide +kernel) rfl (Nat.le_of_ble_eq_true rfl) (by rfl) (fun p e s m args below meth c => ?_)
  have loop : ∀ d i : Nat, i + d = n → tc_V tcx G p l e r0C_fullLines s m args below meth c bC_fullLines 3 tw "TracedCode$Code" (some .int) [] (MQ below (tc_Qc tcx G (tc_Ki (nI (tp_cn (pv u b) n)) u) s.heap.size) args s 0 0 (tc_A tcx G s.heap.size)) 0 0 u 4 [some (.ref (tc_ad G k)), some (.int (nI (tp_cn (pv u b) i))), some (.int (nI i))] [] := by
    intro d
    induction d with
    | zero =>
      intro i hd
      have e : i = n := by omega
      subst e
      refine tv_iload_n (pc := 4) dC_fullLines_4 (by rfl) ?_
      refine tv_aload_n (pc := 5) dC_fullLines_5 (by rfl) ?_
      refine tv_getI (pc := 6) 1 hC.1 (by rfl) uwC_ (by decide) wm_36 (by rfl) dC_fullLines_6 ?_
      refine tv_icmp_ge (pc := 9) 29 dC_fullLines_9 (by decide) (fun _ => ?_) (fun h => absurd (by rw [hs]; exact Int32.le_refl _) h)
      refine tv_iload_n (pc := 29) dC_fullLines_29 (by rfl) ?_
      exact tv_iret (pc := 30) dC_fullLines_30 rfl (Nat.le_refl _) (Nat.le_refl _) ⟨rfl, rfl⟩
    | succ d ih =>
      intro i hd
      have hi : tc_ix (nI i) 16 i := tc_ixN (by omega) (by decide)
      have ih := ih (i + 1) (by omega)
      refine tv_iload_n (pc := 4) dC_fullLines_4 (by rfl) ?_
      refine tv_aload_n (pc := 5) dC_fullLines_5 (by rfl) ?_
      refine tv_getI (pc := 6) 1 hC.1 (by rfl) uwC_ (by decide) wm_36 (by rfl) dC_fullLines_6 ?_
      refine tv_icmp_ge (pc := 9) 29 dC_fullLines_9 (by decide) (fun h => absurd h (by rw [hs]; exact nI_ge (by omega) (by omega))) (fun _ => ?_)
      refine tv_aload_n (pc := 12) dC_fullLines_12 (by rfl) ?_
      refine tv_iload_n (pc := 13) dC_fullLines_13 (by rfl) ?_
      refine tv_callVi (pc := 14) [_] hC.1 (by rfl) (c_C_isEmpty l G u hC hi) (kVC_isEmpty wm_479 ⟨by decide, by decide⟩) (by rfl) (by decide) dC_fullLines_14 ⟨by decide, by decide⟩ ?_
      refine tv_if_ne (pc := 17) 23 dC_fullLines_17 (by decide) (fun h17 => ?_) (fun h17 => ?_)
      · skip
        refine tv_iinc2 (v := 1) (pc := 23) dC_fullLines_23 (by decide) (by rfl) ?_
        refine tv_goto (pc := 26) 4 dC_fullLines_26 (by decide) ?_
        first
        | (rw [show tp_cn (pv u b) (i + 1) = tp_cn (pv u b) i from by rw [tp_cn_s, if_pos (show pv u b 0 i = -1 from Classical.byContradiction fun q => (by assumption : ¬ _ = (0 : Int32)) (if_neg q))], ← nI_1] at ih; exact ih)
        | (rw [show tp_cn (pv u b) (i + 1) = tp_cn (pv u b) i + 1 from by rw [tp_cn_s, if_neg (show ¬ pv u b 0 i = -1 from fun q => absurd ((if_pos q).symm.trans (by assumption : _ = (0 : Int32))) (by decide))], ← nI_1, ← nI_1] at ih; exact ih)
      · skip
        refine tv_iinc1 (v := 1) (pc := 20) dC_fullLines_20 (by decide) (by rfl) ?_
        refine tv_iinc2 (v := 1) (pc := 23) dC_fullLines_23 (by decide) (by rfl) ?_
        refine tv_goto (pc := 26) 4 dC_fullLines_26 (by decide) ?_
        first
        | (rw [show tp_cn (pv u b) (i + 1) = tp_cn (pv u b) i from by rw [tp_cn_s, if_pos (show pv u b 0 i = -1 from Classical.byContradiction fun q => (by assumption : ¬ _ = (0 : Int32)) (if_neg q))], ← nI_1] at ih; exact ih)
        | (rw [show tp_cn (pv u b) (i + 1) = tp_cn (pv u b) i + 1 from by rw [tp_cn_s, if_neg (show ¬ pv u b 0 i = -1 from fun q => absurd ((if_pos q).symm.trans (by assumption : _ = (0 : Int32))) (by decide))], ← nI_1, ← nI_1] at ih; exact ih)
  refine tv_iconst (v := 0) (pc := 0) dC_fullLines_0 (by decide) ?_
  refine tv_istore1 (pc := 1) dC_fullLines_1 (by rfl) ?_
  refine tv_iconst (v := 0) (pc := 2) dC_fullLines_2 (by decide) ?_
  refine tv_istore2 (pc := 3) dC_fullLines_3 (by rfl) ?_
  exact loop n 0 (by omega)
/-- the short program's lines are the program's -/
def tc_take (u : tc_S) (n : Nat) : tc_S := fun q => if q = 7 then upd (u 7) 1 (nI n) else if 9 ≤ q ∧ q < 13 then va_cpy (u (q - 6)) (u q) 0 0 n else u q
set_option maxRecDepth 100000 in
set_option maxHeartbeats 4000000 in
theorem c_C_takeLines (l : Launch) (G : tc_G) (u : tc_S) {n : Nat} (hs : u 1 1 = nI n) (hn : n ≤ 16) : tc_C tcx G l yC_takeLines wC_takeLines r0C_takeLines 0 0 [.ref (tc_ad G 7), .ref (tc_ad G 1)] u (tc_Kv (tc_take u n)) := by
  have hc : ∀ w : tc_S, w 7 1 = nI n → tc_ix (w 7 1) (n + 1) n := fun w h => by rw [h]; exact tc_ixN (by omega) (by omega)
  have h0 : tc_up u 7 1 (u 1 1) 7 1 = nI n := by rw [tc_up_self, hs]
  refine tw_ofV (own := "TracedCode$Code") [some (.ref (tc_ad G 7)), some (.ref (tc_ad G 1)), none] (by decide +kernel) rfl (Nat.le_of_ble_eq_true rfl) (by rfl) (fun p e s m args below meth c => ?_)
  refine tv_aload_n (pc := 0) dC_takeLines_0 (by rfl) ?_
  refine tv_aload_n (pc := 1) dC_takeLines_1 (by rfl) ?_
  refine tv_getI (pc := 2) 1 tb_1 (by rfl) uwC_ (by decide) wm_36 (by rfl) dC_takeLines_2 ?_
  refine tv_putI (ty := .int) (pc := 5) 1 tyC_ tb_7 (by rfl) uwC_ (by decide) wm_36 okC_ nmC_ (by rfl) (by decide +kernel) (by rfl) (by rfl) (by rfl) dC_takeLines_5 ?_
  refine tv_iconst (v := 0) (pc := 8) dC_takeLines_8 (by decide) ?_
  refine tv_istore2 (pc := 9) dC_takeLines_9 (by rfl) ?_
  refine tv_iload_n (pc := 10) dC_takeLines_10 (by rfl) ?_
  refine tv_iconst (v := 4) (pc := 11) dC_takeLines_11 (by decide) ?_
  refine tv_icmp_ge (pc := 12) 42 dC_takeLines_12 (by decide) (fun h => absurd h (by decide)) (fun _ => ?_)
  refine tv_aload_n (pc := 15) dC_takeLines_15 (by rfl) ?_
  refine tv_getR (pc := 16) 0 tb_1 (by rfl) uwC_ (by decide) wm_35 (by rfl) dC_takeLines_16 ?_
  refine tv_iload_n (pc := 19) dC_takeLines_19 (by rfl) ?_
  refine tv_aald (pc := 20) (j := 0) tb_2 ⟨by decide, by decide, by decide⟩ dC_takeLines_20 ?_
  refine tv_iconst (v := 0) (pc := 21) dC_takeLines_21 (by decide) ?_
  refine tv_aload_n (pc := 22) dC_takeLines_22 (by rfl) ?_
  refine tv_getR (pc := 23) 0 tb_7 (by rfl) uwC_ (by decide) wm_35 (by rfl) dC_takeLines_23 ?_
  refine tv_iload_n (pc := 26) dC_takeLines_26 (by rfl) ?_
  refine tv_aald (pc := 27) (j := 0) tb_8 ⟨by decide, by decide, by decide⟩ dC_takeLines_27 ?_
  refine tv_iconst (v := 0) (pc := 28) dC_takeLines_28 (by decide) ?_
  refine tv_aload_n (pc := 29) dC_takeLines_29 (by rfl) ?_
  refine tv_getI (pc := 30) 1 tb_7 (by rfl) uwC_ (by decide) wm_36 (by rfl) dC_takeLines_30 ?_
  refine tv_copy (pc := 33) (code_1.2.2 0 (by decide)) (code_7.2.2 0 (by decide)) (hc _ (by (repeat (rw [tc_rw_ne (by decide)])); exact h0)) (by omega) (by omega) wm_170 wm_nat wm_sta wm_15 (by decide) (by decide) dC_takeLines_33 ?_
  refine tv_iinc2 (v := 1) (pc := 36) dC_takeLines_36 (by decide) (by rfl) ?_
  refine tv_goto (pc := 39) 10 dC_takeLines_39 (by decide) ?_
  refine tv_iload_n (pc := 10) dC_takeLines_10 (by rfl) ?_
  refine tv_iconst (v := 4) (pc := 11) dC_takeLines_11 (by decide) ?_
  refine tv_icmp_ge (pc := 12) 42 dC_takeLines_12 (by decide) (fun h => absurd h (by decide)) (fun _ => ?_)
  refine tv_aload_n (pc := 15) dC_takeLines_15 (by rfl) ?_
  refine tv_getR (pc := 16) 0 tb_1 (by rfl) uwC_ (by decide) wm_35 (by rfl) dC_takeLines_16 ?_
  refine tv_iload_n (pc := 19) dC_takeLines_19 (by rfl) ?_
  refine tv_aald (pc := 20) (j := 1) tb_2 ⟨by decide, by decide, by decide⟩ dC_takeLines_20 ?_
  refine tv_iconst (v := 0) (pc := 21) dC_takeLines_21 (by decide) ?_
  refine tv_aload_n (pc := 22) dC_takeLines_22 (by rfl) ?_
  refine tv_getR (pc := 23) 0 tb_7 (by rfl) uwC_ (by decide) wm_35 (by rfl) dC_takeLines_23 ?_
  refine tv_iload_n (pc := 26) dC_takeLines_26 (by rfl) ?_
  refine tv_aald (pc := 27) (j := 1) tb_8 ⟨by decide, by decide, by decide⟩ dC_takeLines_27 ?_
  refine tv_iconst (v := 0) (pc := 28) dC_takeLines_28 (by decide) ?_
  refine tv_aload_n (pc := 29) dC_takeLines_29 (by rfl) ?_
  refine tv_getI (pc := 30) 1 tb_7 (by rfl) uwC_ (by decide) wm_36 (by rfl) dC_takeLines_30 ?_
  refine tv_copy (pc := 33) (code_1.2.2 1 (by decide)) (code_7.2.2 1 (by decide)) (hc _ (by (repeat (rw [tc_rw_ne (by decide)])); exact h0)) (by omega) (by omega) wm_170 wm_nat wm_sta wm_15 (by decide) (by decide) dC_takeLines_33 ?_
  refine tv_iinc2 (v := 1) (pc := 36) dC_takeLines_36 (by decide) (by rfl) ?_
  refine tv_goto (pc := 39) 10 dC_takeLines_39 (by decide) ?_
  refine tv_iload_n (pc := 10) dC_takeLines_10 (by rfl) ?_
  refine tv_iconst (v := 4) (pc := 11) dC_takeLines_11 (by decide) ?_
  refine tv_icmp_ge (pc := 12) 42 dC_takeLines_12 (by decide) (fun h => absurd h (by decide)) (fun _ => ?_)
  refine tv_aload_n (pc := 15) dC_takeLines_15 (by rfl) ?_
  refine tv_getR (pc := 16) 0 tb_1 (by rfl) uwC_ (by decide) wm_35 (by rfl) dC_takeLines_16 ?_
  refine tv_iload_n (pc := 19) dC_takeLines_19 (by rfl) ?_
  refine tv_aald (pc := 20) (j := 2) tb_2 ⟨by decide, by decide, by decide⟩ dC_takeLines_20 ?_
  refine tv_iconst (v := 0) (pc := 21) dC_takeLines_21 (by decide) ?_
  refine tv_aload_n (pc := 22) dC_takeLines_22 (by rfl) ?_
  refine tv_getR (pc := 23) 0 tb_7 (by rfl) uwC_ (by decide) wm_35 (by rfl) dC_takeLines_23 ?_
  refine tv_iload_n (pc := 26) dC_takeLines_26 (by rfl) ?_
  refine tv_aald (pc := 27) (j := 2) tb_8 ⟨by decide, by decide, by decide⟩ dC_takeLines_27 ?_
  refine tv_iconst (v := 0) (pc := 28) dC_takeLines_28 (by decide) ?_
  refine tv_aload_n (pc := 29) dC_takeLines_29 (by rfl) ?_
  refine tv_getI (pc := 30) 1 tb_7 (by rfl) uwC_ (by decide) wm_36 (by rfl) dC_takeLines_30 ?_
  refine tv_copy (pc := 33) (code_1.2.2 2 (by decide)) (code_7.2.2 2 (by decide)) (hc _ (by (repeat (rw [tc_rw_ne (by decide)])); exact h0)) (by omega) (by omega) wm_170 wm_nat wm_sta wm_15 (by decide) (by decide) dC_takeLines_33 ?_
  refine tv_iinc2 (v := 1) (pc := 36) dC_takeLines_36 (by decide) (by rfl) ?_
  refine tv_goto (pc := 39) 10 dC_takeLines_39 (by decide) ?_
  refine tv_iload_n (pc := 10) dC_takeLines_10 (by rfl) ?_
  refine tv_iconst (v := 4) (pc := 11) dC_takeLines_11 (by decide) ?_
  refine tv_icmp_ge (pc := 12) 42 dC_takeLines_12 (by decide) (fun h => absurd h (by decide)) (fun _ => ?_)
  refine tv_aload_n (pc := 15) dC_takeLines_15 (by rfl) ?_
  refine tv_getR (pc := 16) 0 tb_1 (by rfl) uwC_ (by decide) wm_35 (by rfl) dC_takeLines_16 ?_
  refine tv_iload_n (pc := 19) dC_takeLines_19 (by rfl) ?_
  refine tv_aald (pc := 20) (j := 3) tb_2 ⟨by decide, by decide, by decide⟩ dC_takeLines_20 ?_
  refine tv_iconst (v := 0) (pc := 21) dC_takeLines_21 (by decide) ?_
  refine tv_aload_n (pc := 22) dC_takeLines_22 (by rfl) ?_
  refine tv_getR (pc := 23) 0 tb_7 (by rfl) uwC_ (by decide) wm_35 (by rfl) dC_takeLines_23 ?_
  refine tv_iload_n (pc := 26) dC_takeLines_26 (by rfl) ?_
  refine tv_aald (pc := 27) (j := 3) tb_8 ⟨by decide, by decide, by decide⟩ dC_takeLines_27 ?_
  refine tv_iconst (v := 0) (pc := 28) dC_takeLines_28 (by decide) ?_
  refine tv_aload_n (pc := 29) dC_takeLines_29 (by rfl) ?_
  refine tv_getI (pc := 30) 1 tb_7 (by rfl) uwC_ (by decide) wm_36 (by rfl) dC_takeLines_30 ?_
  refine tv_copy (pc := 33) (code_1.2.2 3 (by decide)) (code_7.2.2 3 (by decide)) (hc _ (by (repeat (rw [tc_rw_ne (by decide)])); exact h0)) (by omega) (by omega) wm_170 wm_nat wm_sta wm_15 (by decide) (by decide) dC_takeLines_33 ?_
  refine tv_iinc2 (v := 1) (pc := 36) dC_takeLines_36 (by decide) (by rfl) ?_
  refine tv_goto (pc := 39) 10 dC_takeLines_39 (by decide) ?_
  refine tv_iload_n (pc := 10) dC_takeLines_10 (by rfl) ?_
  refine tv_iconst (v := 4) (pc := 11) dC_takeLines_11 (by decide) ?_
  refine tv_icmp_ge (pc := 12) 42 dC_takeLines_12 (by decide) (fun _ => ?_) (fun h => absurd (by decide) h)
  exact tv_vret (pc := 42) dC_takeLines_42 rfl (Nat.le_refl _) (Nat.le_refl _) ⟨rfl, by
    funext q
    unfold tc_take
    by_cases e7 : q = 7
    · subst e7
      rw [if_pos rfl]
      repeat (rw [tc_rw_ne (by decide)])
      rw [tc_up_eq, hs]
    · rw [if_neg e7]
      by_cases er : 9 ≤ q ∧ q < 13
      · rw [if_pos er]
        have : q = 9 ∨ q = 10 ∨ q = 11 ∨ q = 12 := by omega
        rcases this with rfl | rfl | rfl | rfl
        all_goals
          repeat (first | rw [tc_rw_eq] | rw [tc_rw_ne (by decide)] | rw [tc_up_ne (by decide)])
      · rw [if_neg er]
        rw [tc_rw_ne (by omega), tc_rw_ne (by omega), tc_rw_ne (by omega), tc_rw_ne (by omega), tc_up_ne e7]⟩
