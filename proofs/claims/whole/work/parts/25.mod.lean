/-- a program in the model: from a place on -/
def pm (u : tc_S) (o : Nat) : tp_P := fun j i => if j < 4 then u (57 + j) (o + i) else 0
theorem pm_of {u : tc_S} {o j i : Nat} (h : j < 4) : pm u o j i = u (57 + j) (o + i) := by unfold pm; rw [if_pos h]
theorem ix16 {p : Nat} (h : p < 16) : tc_ix (16 + nI p) 32 (16 + p) := by
  rw [show (16 : Int32) = nI 16 from rfl, nI_add]; exact tc_ixN (by omega) (by decide)
theorem ix32 {p : Nat} (h : p < 16) : tc_ix (nI p) 32 p := tc_ixN (by omega) (by decide)
theorem nI_m1' {r : Nat} (h : r < 2 ^ 31) : ¬ nI r = -1 := fun z => absurd (z ▸ nI_pos h) (by decide)
set_option maxRecDepth 100000 in
set_option maxHeartbeats 4000000 in
theorem c_D_thrown (l : Launch) (G : tc_G) (u : tc_S)  : tc_C tcx G l yD_thrown wD_thrown r0D_thrown 0 0 [.ref (tc_ad G 56)] u (tc_Ki (u 56 0) u) := by
  refine tw_ofV (own := "TracedCodeModel") [some (.ref (tc_ad G 56))] (by decide +kernel) rfl (Nat.le_of_ble_eq_true rfl) (by rfl) (fun p e s m args below meth c => ?_)
  refine tv_aload_n (pc := 0) dD_thrown_0 (by rfl) ?_
  refine tv_getI (pc := 1) 0 tb_56 (by rfl) uwD_ (by decide) wm_662 (by rfl) dD_thrown_1 ?_
  exact tv_iret (pc := 4) dD_thrown_4 rfl (Nat.le_refl _) (Nat.le_refl _) ⟨rfl, rfl⟩
set_option maxRecDepth 100000 in
set_option maxHeartbeats 4000000 in
theorem c_D_noRegister (l : Launch) (G : tc_G) (u : tc_S) (x : Int32) : tc_C tcx G l yD_noRegister wD_noRegister r0D_noRegister 0 0 [.int x] u (tc_Ki (tp_b (¬ (¬ x < 0 ∧ ¬ 6 ≤ x))) u) := by
  refine tw_ofV (own := "TracedCodeModel") [some (.int x)] (by decide +kernel) rfl (Nat.le_of_ble_eq_true rfl) (by rfl) (fun p e s m args below meth c => ?_)
  have h5 : ¬ x ≤ 5 ↔ 6 ≤ x := by
    rw [Int32.le_iff_toInt_le, Int32.le_iff_toInt_le, show (5 : Int32).toInt = 5 from rfl, show (6 : Int32).toInt = 6 from rfl]; omega
  refine tv_iload_n (pc := 0) dD_noRegister_0 (by rfl) ?_
  refine tv_if_lt (pc := 1) 9 dD_noRegister_1 (by decide) (fun h1 => ?_) (fun h1 => ?_)
  · skip
    refine tv_iconst (v := 1) (pc := 9) dD_noRegister_9 (by decide) ?_
    refine tv_goto (pc := 10) 14 dD_noRegister_10 (by decide) ?_
    exact tv_zret (pc := 14) dD_noRegister_14 rfl (Nat.le_refl _) (Nat.le_refl _) (by rfl) (by first | exact ⟨by rw [tp_b_t (fun q => q.1 (by assumption))], rfl⟩ | exact ⟨by rw [tp_b_t (fun q => q.2 (h5.mp (by assumption)))], rfl⟩ | exact ⟨by rw [tp_b_f (fun q => q ⟨by assumption, fun z => h5.mpr z (by assumption)⟩)], rfl⟩)
  · skip
    refine tv_iload_n (pc := 4) dD_noRegister_4 (by rfl) ?_
    refine tv_iconst (v := 5) (pc := 5) dD_noRegister_5 (by decide) ?_
    refine tv_icmp_le (pc := 6) 13 dD_noRegister_6 (by decide) (fun h6 => ?_) (fun h6 => ?_)
    · skip
      refine tv_iconst (v := 0) (pc := 13) dD_noRegister_13 (by decide) ?_
      exact tv_zret (pc := 14) dD_noRegister_14 rfl (Nat.le_refl _) (Nat.le_refl _) (by rfl) (by first | exact ⟨by rw [tp_b_t (fun q => q.1 (by assumption))], rfl⟩ | exact ⟨by rw [tp_b_t (fun q => q.2 (h5.mp (by assumption)))], rfl⟩ | exact ⟨by rw [tp_b_f (fun q => q ⟨by assumption, fun z => h5.mpr z (by assumption)⟩)], rfl⟩)
    · skip
      refine tv_iconst (v := 1) (pc := 9) dD_noRegister_9 (by decide) ?_
      refine tv_goto (pc := 10) 14 dD_noRegister_10 (by decide) ?_
      exact tv_zret (pc := 14) dD_noRegister_14 rfl (Nat.le_refl _) (Nat.le_refl _) (by rfl) (by first | exact ⟨by rw [tp_b_t (fun q => q.1 (by assumption))], rfl⟩ | exact ⟨by rw [tp_b_t (fun q => q.2 (h5.mp (by assumption)))], rfl⟩ | exact ⟨by rw [tp_b_f (fun q => q ⟨by assumption, fun z => h5.mpr z (by assumption)⟩)], rfl⟩)
def sd_app (n : Nat) (k a1 a2 a3 : Int32) (u : tc_S) : tc_S := tc_up (tc_up (tc_up (tc_up (tc_up (tc_up u 56 6 0) 57 n k) 58 n a1) 59 n a2) 60 n a3) 56 1 (nI (n + 1))
set_option maxRecDepth 100000 in
set_option maxHeartbeats 4000000 in
theorem c_D_newLine1 (l : Launch) (G : tc_G) (u : tc_S) (hc : u 56 0 = 1) (k a1 a2 a3 : Int32) : tc_C tcx G l yD_newLine wD_newLine r0D_newLine 0 0 [.ref (tc_ad G 56), .int k, .int a1, .int a2, .int a3] u (tc_Ki 0 u) := by
  refine tw_ofV (own := "TracedCodeModel") [some (.ref (tc_ad G 56)), some (.int k), some (.int a1), some (.int a2), some (.int a3)] (by decide +kernel) rfl (Nat.le_of_ble_eq_true rfl) (by rfl) (fun p e s m args below meth c => ?_)
  refine tv_aload_n (pc := 0) dD_newLine_0 (by rfl) ?_
  refine tv_getI (pc := 1) 0 tb_56 (by rfl) uwD_ (by decide) wm_662 (by rfl) dD_newLine_1 ?_
  refine tv_if_ne (pc := 4) 21 dD_newLine_4 (by decide) (fun _ => ?_) (fun h => absurd h (by rw [hc]; decide))
  refine tv_aload_n (pc := 21) dD_newLine_21 (by rfl) ?_
  refine tv_getI (pc := 22) 0 tb_56 (by rfl) uwD_ (by decide) wm_662 (by rfl) dD_newLine_22 ?_
  refine tv_if_le (pc := 25) 30 dD_newLine_25 (by decide) (fun h => absurd h (by rw [hc]; decide)) (fun _ => ?_)
  refine tv_iconst (v := 0) (pc := 28) dD_newLine_28 (by decide) ?_
  exact tv_iret (pc := 29) dD_newLine_29 rfl (Nat.le_refl _) (Nat.le_refl _) ⟨rfl, rfl⟩
set_option maxRecDepth 100000 in
set_option maxHeartbeats 4000000 in
theorem c_D_newLine2 (l : Launch) (G : tc_G) (u : tc_S) (hc : u 56 0 = 0) (hs : u 56 1 = 16) (k a1 a2 a3 : Int32) : tc_C tcx G l yD_newLine wD_newLine r0D_newLine 0 0 [.ref (tc_ad G 56), .int k, .int a1, .int a2, .int a3] u (tc_Ki 0 (tc_up u 56 0 2)) := by
  refine tw_ofV (own := "TracedCodeModel") [some (.ref (tc_ad G 56)), some (.int k), some (.int a1), some (.int a2), some (.int a3)] (by decide +kernel) rfl (Nat.le_of_ble_eq_true rfl) (by rfl) (fun p e s m args below meth c => ?_)
  refine tv_aload_n (pc := 0) dD_newLine_0 (by rfl) ?_
  refine tv_getI (pc := 1) 0 tb_56 (by rfl) uwD_ (by decide) wm_662 (by rfl) dD_newLine_1 ?_
  refine tv_if_ne (pc := 4) 21 dD_newLine_4 (by decide) (fun h => absurd h (fun q => q hc)) (fun _ => ?_)
  refine tv_aload_n (pc := 7) dD_newLine_7 (by rfl) ?_
  refine tv_getI (pc := 8) 1 tb_56 (by rfl) uwD_ (by decide) wm_663 (by rfl) dD_newLine_8 ?_
  refine tv_bipush (v := 16) (pc := 11) dD_newLine_11 (by decide) ?_
  refine tv_icmp_ne (pc := 13) 21 dD_newLine_13 (by decide) (fun h => absurd h (fun q => q hs)) (fun _ => ?_)
  refine tv_aload_n (pc := 16) dD_newLine_16 (by rfl) ?_
  refine tv_iconst (v := 2) (pc := 17) dD_newLine_17 (by decide) ?_
  refine tv_putI (ty := .int) (pc := 18) 0 tyD_ tb_56 (by rfl) uwD_ (by decide) wm_662 okD_ nmD_ (by rfl) (by decide +kernel) (by rfl) (by rfl) (by rfl) dD_newLine_18 ?_
  refine tv_aload_n (pc := 21) dD_newLine_21 (by rfl) ?_
  refine tv_getI (pc := 22) 0 tb_56 (by rfl) uwD_ (by decide) wm_662 (by rfl) dD_newLine_22 ?_
  refine tv_if_le (pc := 25) 30 dD_newLine_25 (by decide) (fun h => absurd h (by rw [tc_up_self]; decide)) (fun _ => ?_)
  refine tv_iconst (v := 0) (pc := 28) dD_newLine_28 (by decide) ?_
  exact tv_iret (pc := 29) dD_newLine_29 rfl (Nat.le_refl _) (Nat.le_refl _) ⟨rfl, rfl⟩
set_option maxRecDepth 100000 in
set_option maxHeartbeats 4000000 in
theorem c_D_newLine (l : Launch) (G : tc_G) (u : tc_S) (hc : u 56 0 = 0) {n : Nat} (hs : u 56 1 = nI n) (hn : n < 16) (k a1 a2 a3 : Int32) : tc_C tcx G l yD_newLine wD_newLine r0D_newLine 0 0 [.ref (tc_ad G 56), .int k, .int a1, .int a2, .int a3] u (tc_Ki (nI n) (sd_app n k a1 a2 a3 u)) := by
  refine tw_ofV (own := "TracedCodeModel") [some (.ref (tc_ad G 56)), some (.int k), some (.int a1), some (.int a2), some (.int a3)] (by decide +kernel) rfl (Nat.le_of_ble_eq_true rfl) (by rfl) (fun p e s m args below meth c => ?_)
  have i32 : tc_ix (nI n) 32 n := ix32 hn
  have e1 : ∀ (w : tc_S) (q i : Nat) (x : Int32), q ≠ 56 → w 56 1 = nI n → tc_up w q i x 56 1 = nI n := fun w q i x hq h => by rw [tc_up_ne (fun e => hq e.symm)]; exact h
  have e0 : tc_up u 56 6 0 56 1 = nI n := by rw [tc_up_at (by decide)]; exact hs
  have e2 := e1 _ 57 n k (by decide) e0
  have e3 := e1 _ 58 n a1 (by decide) e2
  have e4 := e1 _ 59 n a2 (by decide) e3
  have e5 := e1 _ 60 n a3 (by decide) e4
  refine tv_aload_n (pc := 0) dD_newLine_0 (by rfl) ?_
  refine tv_getI (pc := 1) 0 tb_56 (by rfl) uwD_ (by decide) wm_662 (by rfl) dD_newLine_1 ?_
  refine tv_if_ne (pc := 4) 21 dD_newLine_4 (by decide) (fun h => absurd h (fun q => q hc)) (fun _ => ?_)
  refine tv_aload_n (pc := 7) dD_newLine_7 (by rfl) ?_
  refine tv_getI (pc := 8) 1 tb_56 (by rfl) uwD_ (by decide) wm_663 (by rfl) dD_newLine_8 ?_
  refine tv_bipush (v := 16) (pc := 11) dD_newLine_11 (by decide) ?_
  refine tv_icmp_ne (pc := 13) 21 dD_newLine_13 (by decide) (fun _ => ?_) (fun h => absurd h (by rw [hs]; intro z; exact absurd ((nI_eq (b := 16) (by omega) (by decide)).mp z) (by omega)))
  refine tv_aload_n (pc := 21) dD_newLine_21 (by rfl) ?_
  refine tv_getI (pc := 22) 0 tb_56 (by rfl) uwD_ (by decide) wm_662 (by rfl) dD_newLine_22 ?_
  refine tv_if_le (pc := 25) 30 dD_newLine_25 (by decide) (fun _ => ?_) (fun h => absurd (by rw [hc]; decide) h)
  refine tv_aload_n (pc := 30) dD_newLine_30 (by rfl) ?_
  refine tv_iconst (v := 0) (pc := 31) dD_newLine_31 (by decide) ?_
  refine tv_putI (ty := .boolean) (pc := 32) 6 tyD_ tb_56 (by rfl) uwD_ (by decide) wm_668 okD_ nmD_ (by rfl) (by decide +kernel) (by rfl) (by rfl) (by rfl) dD_newLine_32 ?_
  refine tv_aload_n (pc := 35) dD_newLine_35 (by rfl) ?_
  refine tv_getR (pc := 36) 2 tb_56 (by rfl) uwD_ (by decide) wm_664 (by rfl) dD_newLine_36 ?_
  refine tv_aload_n (pc := 39) dD_newLine_39 (by rfl) ?_
  refine tv_getI (pc := 40) 1 tb_56 (by rfl) uwD_ (by decide) wm_663 (by rfl) dD_newLine_40 ?_
  rw [e0]
  refine tv_iload_n (pc := 43) dD_newLine_43 (by rfl) ?_
  refine tv_iast (pc := 44) tb_57 (by assumption) dD_newLine_44 ?_
  refine tv_aload_n (pc := 45) dD_newLine_45 (by rfl) ?_
  refine tv_getR (pc := 46) 3 tb_56 (by rfl) uwD_ (by decide) wm_665 (by rfl) dD_newLine_46 ?_
  refine tv_aload_n (pc := 49) dD_newLine_49 (by rfl) ?_
  refine tv_getI (pc := 50) 1 tb_56 (by rfl) uwD_ (by decide) wm_663 (by rfl) dD_newLine_50 ?_
  rw [e2]
  refine tv_iload_n (pc := 53) dD_newLine_53 (by rfl) ?_
  refine tv_iast (pc := 54) tb_58 (by assumption) dD_newLine_54 ?_
  refine tv_aload_n (pc := 55) dD_newLine_55 (by rfl) ?_
  refine tv_getR (pc := 56) 4 tb_56 (by rfl) uwD_ (by decide) wm_666 (by rfl) dD_newLine_56 ?_
  refine tv_aload_n (pc := 59) dD_newLine_59 (by rfl) ?_
  refine tv_getI (pc := 60) 1 tb_56 (by rfl) uwD_ (by decide) wm_663 (by rfl) dD_newLine_60 ?_
  rw [e3]
  refine tv_iload_n (pc := 63) dD_newLine_63 (by rfl) ?_
  refine tv_iast (pc := 64) tb_59 (by assumption) dD_newLine_64 ?_
  refine tv_aload_n (pc := 65) dD_newLine_65 (by rfl) ?_
  refine tv_getR (pc := 66) 5 tb_56 (by rfl) uwD_ (by decide) wm_667 (by rfl) dD_newLine_66 ?_
  refine tv_aload_n (pc := 69) dD_newLine_69 (by rfl) ?_
  refine tv_getI (pc := 70) 1 tb_56 (by rfl) uwD_ (by decide) wm_663 (by rfl) dD_newLine_70 ?_
  rw [e4]
  refine tv_iload (pc := 73) dD_newLine_73 (by rfl) ?_
  refine tv_iast (pc := 75) tb_60 (by assumption) dD_newLine_75 ?_
  refine tv_aload_n (pc := 76) dD_newLine_76 (by rfl) ?_
  refine tv_dup (pc := 77) dD_newLine_77 (by rfl) ?_
  refine tv_getI (pc := 78) 1 tb_56 (by rfl) uwD_ (by decide) wm_663 (by rfl) dD_newLine_78 ?_
  rw [e5]
  refine tv_iconst (v := 1) (pc := 81) dD_newLine_81 (by decide) ?_
  refine tv_iadd (pc := 82) dD_newLine_82 ?_
  rw [nI_1]
  refine tv_putI (ty := .int) (pc := 83) 1 tyD_ tb_56 (by rfl) uwD_ (by decide) wm_663 okD_ nmD_ (by rfl) (by decide +kernel) (by rfl) (by rfl) (by rfl) dD_newLine_83 ?_
  refine tv_aload_n (pc := 86) dD_newLine_86 (by rfl) ?_
  refine tv_getI (pc := 87) 1 tb_56 (by rfl) uwD_ (by decide) wm_663 (by rfl) dD_newLine_87 ?_
  rw [tc_up_self]
  refine tv_iconst (v := 1) (pc := 90) dD_newLine_90 (by decide) ?_
  refine tv_isub (pc := 91) dD_newLine_91 ?_
  rw [nI_pred]
  exact tv_iret (pc := 92) dD_newLine_92 rfl (Nat.le_refl _) (Nat.le_refl _) ⟨rfl, rfl⟩
theorem le16 {x : Int32} : ¬ x ≤ 16 ↔ 17 ≤ x := by
  rw [Int32.le_iff_toInt_le, Int32.le_iff_toInt_le, show (16 : Int32).toInt = 16 from rfl, show (17 : Int32).toInt = 17 from rfl]; omega
theorem gt2 {x : Int32} : 2 < x ↔ 3 ≤ x := by
  rw [Int32.lt_iff_toInt_lt, Int32.le_iff_toInt_le, show (2 : Int32).toInt = 2 from rfl, show (3 : Int32).toInt = 3 from rfl]; omega
set_option maxRecDepth 100000 in
set_option maxHeartbeats 4000000 in
theorem c_D_set1 (l : Launch) (G : tc_G) (u : tc_S) (r c1 : Int32) (ho : ¬ (((¬ r < 0 ∧ ¬ 6 ≤ r)))) : tc_C tcx G l yD_set wD_set r0D_set 0 0 [.ref (tc_ad G 56), .int r, .int c1] u (tc_Ki 0 (tc_up u 56 0 1)) := by
  refine tw_ofV (own := "TracedCodeModel") [some (.ref (tc_ad G 56)), some (.int r), some (.int c1)] (by decide +kernel) rfl (Nat.le_of_ble_eq_true rfl) (by rfl) (fun p e s m args below meth c => ?_)
  refine tv_aload_n (pc := 0) dD_set_0 (by rfl) ?_
  refine tv_iload_n (pc := 1) dD_set_1 (by rfl) ?_
  refine tv_callSi (pc := 2) [_] (c_D_noRegister l G u _) (kSD_noRegister wm_752 ⟨by decide, by decide⟩) (by rfl) (Nat.le_of_ble_eq_true rfl) dD_set_2 ⟨by decide, by decide⟩ ?_
  refine tv_if_eq (pc := 5) 12 dD_set_5 (by decide) (fun h5 => ?_) (fun h5 => ?_)
  · skip
    exact absurd (Classical.byContradiction fun q => (tp_b_q (by assumption : tp_b (¬ (¬ r < 0 ∧ ¬ 6 ≤ r)) = 0)) q) ho
  · skip
    refine tv_iconst (v := 1) (pc := 8) dD_set_8 (by decide) ?_
    refine tv_goto (pc := 9) 13 dD_set_9 (by decide) ?_
    refine tv_putI (ty := .int) (pc := 13) 0 tyD_ tb_56 (by rfl) uwD_ (by decide) wm_662 okD_ nmD_ (by rfl) (by decide +kernel) (by rfl) (by rfl) (by rfl) dD_set_13 ?_
    refine tv_aload_n (pc := 16) dD_set_16 (by rfl) ?_
    refine tv_iconst (v := 0) (pc := 17) dD_set_17 (by decide) ?_
    refine tv_iload_n (pc := 18) dD_set_18 (by rfl) ?_
    refine tv_iload_n (pc := 19) dD_set_19 (by rfl) ?_
    refine tv_iconst (v := 0) (pc := 20) dD_set_20 (by decide) ?_
    refine tv_callVi (pc := 21) [_, _, _, _] tb_56 (by rfl) (c_D_newLine1 l G (tc_up u 56 0 1) tc_up_self 0 r c1 0) (kVD_newLine wm_755 ⟨by decide, by decide⟩) (by rfl) (Nat.le_of_ble_eq_true rfl) dD_set_21 ⟨by decide, by decide⟩ ?_
    exact tv_iret (pc := 24) dD_set_24 rfl (Nat.le_refl _) (Nat.le_refl _) ⟨rfl, rfl⟩
set_option maxRecDepth 100000 in
set_option maxHeartbeats 4000000 in
theorem c_D_set2 (l : Launch) (G : tc_G) (u : tc_S) (hs : u 56 1 = 16) (r c1 : Int32) (ho : ((¬ r < 0 ∧ ¬ 6 ≤ r))) : tc_C tcx G l yD_set wD_set r0D_set 0 0 [.ref (tc_ad G 56), .int r, .int c1] u (tc_Ki 0 (tc_up (tc_up u 56 0 0) 56 0 2)) := by
  refine tw_ofV (own := "TracedCodeModel") [some (.ref (tc_ad G 56)), some (.int r), some (.int c1)] (by decide +kernel) rfl (Nat.le_of_ble_eq_true rfl) (by rfl) (fun p e s m args below meth c => ?_)
  refine tv_aload_n (pc := 0) dD_set_0 (by rfl) ?_
  refine tv_iload_n (pc := 1) dD_set_1 (by rfl) ?_
  refine tv_callSi (pc := 2) [_] (c_D_noRegister l G u _) (kSD_noRegister wm_752 ⟨by decide, by decide⟩) (by rfl) (Nat.le_of_ble_eq_true rfl) dD_set_2 ⟨by decide, by decide⟩ ?_
  refine tv_if_eq (pc := 5) 12 dD_set_5 (by decide) (fun _ => ?_) (fun h => absurd (tp_b_f (fun z => z ho)) h)
  refine tv_iconst (v := 0) (pc := 12) dD_set_12 (by decide) ?_
  refine tv_putI (ty := .int) (pc := 13) 0 tyD_ tb_56 (by rfl) uwD_ (by decide) wm_662 okD_ nmD_ (by rfl) (by decide +kernel) (by rfl) (by rfl) (by rfl) dD_set_13 ?_
  refine tv_aload_n (pc := 16) dD_set_16 (by rfl) ?_
  refine tv_iconst (v := 0) (pc := 17) dD_set_17 (by decide) ?_
  refine tv_iload_n (pc := 18) dD_set_18 (by rfl) ?_
  refine tv_iload_n (pc := 19) dD_set_19 (by rfl) ?_
  refine tv_iconst (v := 0) (pc := 20) dD_set_20 (by decide) ?_
  refine tv_callVi (pc := 21) [_, _, _, _] tb_56 (by rfl) (c_D_newLine2 l G (tc_up u 56 0 0) tc_up_self (by rw [tc_up_at (by decide)]; exact hs) 0 r c1 0) (kVD_newLine wm_755 ⟨by decide, by decide⟩) (by rfl) (Nat.le_of_ble_eq_true rfl) dD_set_21 ⟨by decide, by decide⟩ ?_
  exact tv_iret (pc := 24) dD_set_24 rfl (Nat.le_refl _) (Nat.le_refl _) ⟨rfl, rfl⟩
set_option maxRecDepth 100000 in
set_option maxHeartbeats 4000000 in
theorem c_D_set (l : Launch) (G : tc_G) (u : tc_S) {n : Nat} (hs : u 56 1 = nI n) (hn : n < 16) (r c1 : Int32) (ho : ((¬ r < 0 ∧ ¬ 6 ≤ r))) : tc_C tcx G l yD_set wD_set r0D_set 0 0 [.ref (tc_ad G 56), .int r, .int c1] u (tc_Ki (nI n) (sd_app n 0 r c1 0 (tc_up u 56 0 0))) := by
  refine tw_ofV (own := "TracedCodeModel") [some (.ref (tc_ad G 56)), some (.int r), some (.int c1)] (by decide +kernel) rfl (Nat.le_of_ble_eq_true rfl) (by rfl) (fun p e s m args below meth c => ?_)
  refine tv_aload_n (pc := 0) dD_set_0 (by rfl) ?_
  refine tv_iload_n (pc := 1) dD_set_1 (by rfl) ?_
  refine tv_callSi (pc := 2) [_] (c_D_noRegister l G u _) (kSD_noRegister wm_752 ⟨by decide, by decide⟩) (by rfl) (Nat.le_of_ble_eq_true rfl) dD_set_2 ⟨by decide, by decide⟩ ?_
  refine tv_if_eq (pc := 5) 12 dD_set_5 (by decide) (fun _ => ?_) (fun h => absurd (tp_b_f (fun z => z ho)) h)
  refine tv_iconst (v := 0) (pc := 12) dD_set_12 (by decide) ?_
  refine tv_putI (ty := .int) (pc := 13) 0 tyD_ tb_56 (by rfl) uwD_ (by decide) wm_662 okD_ nmD_ (by rfl) (by decide +kernel) (by rfl) (by rfl) (by rfl) dD_set_13 ?_
  refine tv_aload_n (pc := 16) dD_set_16 (by rfl) ?_
  refine tv_iconst (v := 0) (pc := 17) dD_set_17 (by decide) ?_
  refine tv_iload_n (pc := 18) dD_set_18 (by rfl) ?_
  refine tv_iload_n (pc := 19) dD_set_19 (by rfl) ?_
  refine tv_iconst (v := 0) (pc := 20) dD_set_20 (by decide) ?_
  refine tv_callVi (pc := 21) [_, _, _, _] tb_56 (by rfl) (c_D_newLine l G (tc_up u 56 0 0) tc_up_self (by rw [tc_up_at (by decide)]; exact hs) hn 0 r c1 0) (kVD_newLine wm_755 ⟨by decide, by decide⟩) (by rfl) (Nat.le_of_ble_eq_true rfl) dD_set_21 ⟨by decide, by decide⟩ ?_
  exact tv_iret (pc := 24) dD_set_24 rfl (Nat.le_refl _) (Nat.le_refl _) ⟨rfl, rfl⟩
set_option maxRecDepth 100000 in
set_option maxHeartbeats 4000000 in
theorem c_D_copy1 (l : Launch) (G : tc_G) (u : tc_S) (r s1 : Int32) (ho : ¬ (((¬ r < 0 ∧ ¬ 6 ≤ r)) ∧ ((¬ s1 < 0 ∧ ¬ 6 ≤ s1)))) : tc_C tcx G l yD_copy wD_copy r0D_copy 0 0 [.ref (tc_ad G 56), .int r, .int s1] u (tc_Ki 0 (tc_up u 56 0 1)) := by
  refine tw_ofV (own := "TracedCodeModel") [some (.ref (tc_ad G 56)), some (.int r), some (.int s1)] (by decide +kernel) rfl (Nat.le_of_ble_eq_true rfl) (by rfl) (fun p e s m args below meth c => ?_)
  refine tv_aload_n (pc := 0) dD_copy_0 (by rfl) ?_
  refine tv_iload_n (pc := 1) dD_copy_1 (by rfl) ?_
  refine tv_callSi (pc := 2) [_] (c_D_noRegister l G u _) (kSD_noRegister wm_752 ⟨by decide, by decide⟩) (by rfl) (Nat.le_of_ble_eq_true rfl) dD_copy_2 ⟨by decide, by decide⟩ ?_
  refine tv_if_ne (pc := 5) 15 dD_copy_5 (by decide) (fun h5 => ?_) (fun h5 => ?_)
  · skip
    refine tv_iconst (v := 1) (pc := 15) dD_copy_15 (by decide) ?_
    refine tv_goto (pc := 16) 20 dD_copy_16 (by decide) ?_
    refine tv_putI (ty := .int) (pc := 20) 0 tyD_ tb_56 (by rfl) uwD_ (by decide) wm_662 okD_ nmD_ (by rfl) (by decide +kernel) (by rfl) (by rfl) (by rfl) dD_copy_20 ?_
    refine tv_aload_n (pc := 23) dD_copy_23 (by rfl) ?_
    refine tv_iconst (v := 1) (pc := 24) dD_copy_24 (by decide) ?_
    refine tv_iload_n (pc := 25) dD_copy_25 (by rfl) ?_
    refine tv_iload_n (pc := 26) dD_copy_26 (by rfl) ?_
    refine tv_iconst (v := 0) (pc := 27) dD_copy_27 (by decide) ?_
    refine tv_callVi (pc := 28) [_, _, _, _] tb_56 (by rfl) (c_D_newLine1 l G (tc_up u 56 0 1) tc_up_self 1 r s1 0) (kVD_newLine wm_755 ⟨by decide, by decide⟩) (by rfl) (Nat.le_of_ble_eq_true rfl) dD_copy_28 ⟨by decide, by decide⟩ ?_
    exact tv_iret (pc := 31) dD_copy_31 rfl (Nat.le_refl _) (Nat.le_refl _) ⟨rfl, rfl⟩
  · skip
    refine tv_iload_n (pc := 8) dD_copy_8 (by rfl) ?_
    refine tv_callSi (pc := 9) [_] (c_D_noRegister l G u _) (kSD_noRegister wm_752 ⟨by decide, by decide⟩) (by rfl) (Nat.le_of_ble_eq_true rfl) dD_copy_9 ⟨by decide, by decide⟩ ?_
    refine tv_if_eq (pc := 12) 19 dD_copy_12 (by decide) (fun h12 => ?_) (fun h12 => ?_)
    · skip
      exact absurd (⟨Classical.byContradiction fun q => (tp_b_q (by assumption : tp_b (¬ (¬ r < 0 ∧ ¬ 6 ≤ r)) = 0)) q, Classical.byContradiction fun q => (tp_b_q (by assumption : tp_b (¬ (¬ s1 < 0 ∧ ¬ 6 ≤ s1)) = 0)) q⟩) ho
    · skip
      refine tv_iconst (v := 1) (pc := 15) dD_copy_15 (by decide) ?_
      refine tv_goto (pc := 16) 20 dD_copy_16 (by decide) ?_
      refine tv_putI (ty := .int) (pc := 20) 0 tyD_ tb_56 (by rfl) uwD_ (by decide) wm_662 okD_ nmD_ (by rfl) (by decide +kernel) (by rfl) (by rfl) (by rfl) dD_copy_20 ?_
      refine tv_aload_n (pc := 23) dD_copy_23 (by rfl) ?_
      refine tv_iconst (v := 1) (pc := 24) dD_copy_24 (by decide) ?_
      refine tv_iload_n (pc := 25) dD_copy_25 (by rfl) ?_
      refine tv_iload_n (pc := 26) dD_copy_26 (by rfl) ?_
      refine tv_iconst (v := 0) (pc := 27) dD_copy_27 (by decide) ?_
      refine tv_callVi (pc := 28) [_, _, _, _] tb_56 (by rfl) (c_D_newLine1 l G (tc_up u 56 0 1) tc_up_self 1 r s1 0) (kVD_newLine wm_755 ⟨by decide, by decide⟩) (by rfl) (Nat.le_of_ble_eq_true rfl) dD_copy_28 ⟨by decide, by decide⟩ ?_
      exact tv_iret (pc := 31) dD_copy_31 rfl (Nat.le_refl _) (Nat.le_refl _) ⟨rfl, rfl⟩
set_option maxRecDepth 100000 in
set_option maxHeartbeats 4000000 in
theorem c_D_copy2 (l : Launch) (G : tc_G) (u : tc_S) (hs : u 56 1 = 16) (r s1 : Int32) (ho : ((¬ r < 0 ∧ ¬ 6 ≤ r)) ∧ ((¬ s1 < 0 ∧ ¬ 6 ≤ s1))) : tc_C tcx G l yD_copy wD_copy r0D_copy 0 0 [.ref (tc_ad G 56), .int r, .int s1] u (tc_Ki 0 (tc_up (tc_up u 56 0 0) 56 0 2)) := by
  refine tw_ofV (own := "TracedCodeModel") [some (.ref (tc_ad G 56)), some (.int r), some (.int s1)] (by decide +kernel) rfl (Nat.le_of_ble_eq_true rfl) (by rfl) (fun p e s m args below meth c => ?_)
  refine tv_aload_n (pc := 0) dD_copy_0 (by rfl) ?_
  refine tv_iload_n (pc := 1) dD_copy_1 (by rfl) ?_
  refine tv_callSi (pc := 2) [_] (c_D_noRegister l G u _) (kSD_noRegister wm_752 ⟨by decide, by decide⟩) (by rfl) (Nat.le_of_ble_eq_true rfl) dD_copy_2 ⟨by decide, by decide⟩ ?_
  refine tv_if_ne (pc := 5) 15 dD_copy_5 (by decide) (fun h => absurd h (fun q => q (tp_b_f (fun z => z ho.1)))) (fun _ => ?_)
  refine tv_iload_n (pc := 8) dD_copy_8 (by rfl) ?_
  refine tv_callSi (pc := 9) [_] (c_D_noRegister l G u _) (kSD_noRegister wm_752 ⟨by decide, by decide⟩) (by rfl) (Nat.le_of_ble_eq_true rfl) dD_copy_9 ⟨by decide, by decide⟩ ?_
  refine tv_if_eq (pc := 12) 19 dD_copy_12 (by decide) (fun _ => ?_) (fun h => absurd (tp_b_f (fun z => z ho.2)) h)
  refine tv_iconst (v := 0) (pc := 19) dD_copy_19 (by decide) ?_
  refine tv_putI (ty := .int) (pc := 20) 0 tyD_ tb_56 (by rfl) uwD_ (by decide) wm_662 okD_ nmD_ (by rfl) (by decide +kernel) (by rfl) (by rfl) (by rfl) dD_copy_20 ?_
  refine tv_aload_n (pc := 23) dD_copy_23 (by rfl) ?_
  refine tv_iconst (v := 1) (pc := 24) dD_copy_24 (by decide) ?_
  refine tv_iload_n (pc := 25) dD_copy_25 (by rfl) ?_
  refine tv_iload_n (pc := 26) dD_copy_26 (by rfl) ?_
  refine tv_iconst (v := 0) (pc := 27) dD_copy_27 (by decide) ?_
  refine tv_callVi (pc := 28) [_, _, _, _] tb_56 (by rfl) (c_D_newLine2 l G (tc_up u 56 0 0) tc_up_self (by rw [tc_up_at (by decide)]; exact hs) 1 r s1 0) (kVD_newLine wm_755 ⟨by decide, by decide⟩) (by rfl) (Nat.le_of_ble_eq_true rfl) dD_copy_28 ⟨by decide, by decide⟩ ?_
  exact tv_iret (pc := 31) dD_copy_31 rfl (Nat.le_refl _) (Nat.le_refl _) ⟨rfl, rfl⟩
set_option maxRecDepth 100000 in
set_option maxHeartbeats 4000000 in
theorem c_D_copy (l : Launch) (G : tc_G) (u : tc_S) {n : Nat} (hs : u 56 1 = nI n) (hn : n < 16) (r s1 : Int32) (ho : ((¬ r < 0 ∧ ¬ 6 ≤ r)) ∧ ((¬ s1 < 0 ∧ ¬ 6 ≤ s1))) : tc_C tcx G l yD_copy wD_copy r0D_copy 0 0 [.ref (tc_ad G 56), .int r, .int s1] u (tc_Ki (nI n) (sd_app n 1 r s1 0 (tc_up u 56 0 0))) := by
  refine tw_ofV (own := "TracedCodeModel") [some (.ref (tc_ad G 56)), some (.int r), some (.int s1)] (by decide +kernel) rfl (Nat.le_of_ble_eq_true rfl) (by rfl) (fun p e s m args below meth c => ?_)
  refine tv_aload_n (pc := 0) dD_copy_0 (by rfl) ?_
  refine tv_iload_n (pc := 1) dD_copy_1 (by rfl) ?_
  refine tv_callSi (pc := 2) [_] (c_D_noRegister l G u _) (kSD_noRegister wm_752 ⟨by decide, by decide⟩) (by rfl) (Nat.le_of_ble_eq_true rfl) dD_copy_2 ⟨by decide, by decide⟩ ?_
  refine tv_if_ne (pc := 5) 15 dD_copy_5 (by decide) (fun h => absurd h (fun q => q (tp_b_f (fun z => z ho.1)))) (fun _ => ?_)
  refine tv_iload_n (pc := 8) dD_copy_8 (by rfl) ?_
  refine tv_callSi (pc := 9) [_] (c_D_noRegister l G u _) (kSD_noRegister wm_752 ⟨by decide, by decide⟩) (by rfl) (Nat.le_of_ble_eq_true rfl) dD_copy_9 ⟨by decide, by decide⟩ ?_
  refine tv_if_eq (pc := 12) 19 dD_copy_12 (by decide) (fun _ => ?_) (fun h => absurd (tp_b_f (fun z => z ho.2)) h)
  refine tv_iconst (v := 0) (pc := 19) dD_copy_19 (by decide) ?_
  refine tv_putI (ty := .int) (pc := 20) 0 tyD_ tb_56 (by rfl) uwD_ (by decide) wm_662 okD_ nmD_ (by rfl) (by decide +kernel) (by rfl) (by rfl) (by rfl) dD_copy_20 ?_
  refine tv_aload_n (pc := 23) dD_copy_23 (by rfl) ?_
  refine tv_iconst (v := 1) (pc := 24) dD_copy_24 (by decide) ?_
  refine tv_iload_n (pc := 25) dD_copy_25 (by rfl) ?_
  refine tv_iload_n (pc := 26) dD_copy_26 (by rfl) ?_
  refine tv_iconst (v := 0) (pc := 27) dD_copy_27 (by decide) ?_
  refine tv_callVi (pc := 28) [_, _, _, _] tb_56 (by rfl) (c_D_newLine l G (tc_up u 56 0 0) tc_up_self (by rw [tc_up_at (by decide)]; exact hs) hn 1 r s1 0) (kVD_newLine wm_755 ⟨by decide, by decide⟩) (by rfl) (Nat.le_of_ble_eq_true rfl) dD_copy_28 ⟨by decide, by decide⟩ ?_
  exact tv_iret (pc := 31) dD_copy_31 rfl (Nat.le_refl _) (Nat.le_refl _) ⟨rfl, rfl⟩
set_option maxRecDepth 100000 in
set_option maxHeartbeats 4000000 in
theorem c_D_add1 (l : Launch) (G : tc_G) (u : tc_S) (r s1 t : Int32) (ho : ¬ (((¬ r < 0 ∧ ¬ 6 ≤ r)) ∧ ((¬ s1 < 0 ∧ ¬ 6 ≤ s1)) ∧ ((¬ t < 0 ∧ ¬ 6 ≤ t)))) : tc_C tcx G l yD_add wD_add r0D_add 0 0 [.ref (tc_ad G 56), .int r, .int s1, .int t] u (tc_Ki 0 (tc_up u 56 0 1)) := by
  refine tw_ofV (own := "TracedCodeModel") [some (.ref (tc_ad G 56)), some (.int r), some (.int s1), some (.int t)] (by decide +kernel) rfl (Nat.le_of_ble_eq_true rfl) (by rfl) (fun p e s m args below meth c => ?_)
  refine tv_aload_n (pc := 0) dD_add_0 (by rfl) ?_
  refine tv_iload_n (pc := 1) dD_add_1 (by rfl) ?_
  refine tv_callSi (pc := 2) [_] (c_D_noRegister l G u _) (kSD_noRegister wm_752 ⟨by decide, by decide⟩) (by rfl) (Nat.le_of_ble_eq_true rfl) dD_add_2 ⟨by decide, by decide⟩ ?_
  refine tv_if_ne (pc := 5) 22 dD_add_5 (by decide) (fun h5 => ?_) (fun h5 => ?_)
  · skip
    refine tv_iconst (v := 1) (pc := 22) dD_add_22 (by decide) ?_
    refine tv_goto (pc := 23) 27 dD_add_23 (by decide) ?_
    refine tv_putI (ty := .int) (pc := 27) 0 tyD_ tb_56 (by rfl) uwD_ (by decide) wm_662 okD_ nmD_ (by rfl) (by decide +kernel) (by rfl) (by rfl) (by rfl) dD_add_27 ?_
    refine tv_aload_n (pc := 30) dD_add_30 (by rfl) ?_
    refine tv_iconst (v := 2) (pc := 31) dD_add_31 (by decide) ?_
    refine tv_iload_n (pc := 32) dD_add_32 (by rfl) ?_
    refine tv_iload_n (pc := 33) dD_add_33 (by rfl) ?_
    refine tv_iload_n (pc := 34) dD_add_34 (by rfl) ?_
    refine tv_callVi (pc := 35) [_, _, _, _] tb_56 (by rfl) (c_D_newLine1 l G (tc_up u 56 0 1) tc_up_self 2 r s1 t) (kVD_newLine wm_755 ⟨by decide, by decide⟩) (by rfl) (Nat.le_of_ble_eq_true rfl) dD_add_35 ⟨by decide, by decide⟩ ?_
    exact tv_iret (pc := 38) dD_add_38 rfl (Nat.le_refl _) (Nat.le_refl _) ⟨rfl, rfl⟩
  · skip
    refine tv_iload_n (pc := 8) dD_add_8 (by rfl) ?_
    refine tv_callSi (pc := 9) [_] (c_D_noRegister l G u _) (kSD_noRegister wm_752 ⟨by decide, by decide⟩) (by rfl) (Nat.le_of_ble_eq_true rfl) dD_add_9 ⟨by decide, by decide⟩ ?_
    refine tv_if_ne (pc := 12) 22 dD_add_12 (by decide) (fun h12 => ?_) (fun h12 => ?_)
    · skip
      refine tv_iconst (v := 1) (pc := 22) dD_add_22 (by decide) ?_
      refine tv_goto (pc := 23) 27 dD_add_23 (by decide) ?_
      refine tv_putI (ty := .int) (pc := 27) 0 tyD_ tb_56 (by rfl) uwD_ (by decide) wm_662 okD_ nmD_ (by rfl) (by decide +kernel) (by rfl) (by rfl) (by rfl) dD_add_27 ?_
      refine tv_aload_n (pc := 30) dD_add_30 (by rfl) ?_
      refine tv_iconst (v := 2) (pc := 31) dD_add_31 (by decide) ?_
      refine tv_iload_n (pc := 32) dD_add_32 (by rfl) ?_
      refine tv_iload_n (pc := 33) dD_add_33 (by rfl) ?_
      refine tv_iload_n (pc := 34) dD_add_34 (by rfl) ?_
      refine tv_callVi (pc := 35) [_, _, _, _] tb_56 (by rfl) (c_D_newLine1 l G (tc_up u 56 0 1) tc_up_self 2 r s1 t) (kVD_newLine wm_755 ⟨by decide, by decide⟩) (by rfl) (Nat.le_of_ble_eq_true rfl) dD_add_35 ⟨by decide, by decide⟩ ?_
      exact tv_iret (pc := 38) dD_add_38 rfl (Nat.le_refl _) (Nat.le_refl _) ⟨rfl, rfl⟩
    · skip
      refine tv_iload_n (pc := 15) dD_add_15 (by rfl) ?_
      refine tv_callSi (pc := 16) [_] (c_D_noRegister l G u _) (kSD_noRegister wm_752 ⟨by decide, by decide⟩) (by rfl) (Nat.le_of_ble_eq_true rfl) dD_add_16 ⟨by decide, by decide⟩ ?_
      refine tv_if_eq (pc := 19) 26 dD_add_19 (by decide) (fun h19 => ?_) (fun h19 => ?_)
      · skip
        exact absurd (⟨Classical.byContradiction fun q => (tp_b_q (by assumption : tp_b (¬ (¬ r < 0 ∧ ¬ 6 ≤ r)) = 0)) q, Classical.byContradiction fun q => (tp_b_q (by assumption : tp_b (¬ (¬ s1 < 0 ∧ ¬ 6 ≤ s1)) = 0)) q, Classical.byContradiction fun q => (tp_b_q (by assumption : tp_b (¬ (¬ t < 0 ∧ ¬ 6 ≤ t)) = 0)) q⟩) ho
      · skip
        refine tv_iconst (v := 1) (pc := 22) dD_add_22 (by decide) ?_
        refine tv_goto (pc := 23) 27 dD_add_23 (by decide) ?_
        refine tv_putI (ty := .int) (pc := 27) 0 tyD_ tb_56 (by rfl) uwD_ (by decide) wm_662 okD_ nmD_ (by rfl) (by decide +kernel) (by rfl) (by rfl) (by rfl) dD_add_27 ?_
        refine tv_aload_n (pc := 30) dD_add_30 (by rfl) ?_
        refine tv_iconst (v := 2) (pc := 31) dD_add_31 (by decide) ?_
        refine tv_iload_n (pc := 32) dD_add_32 (by rfl) ?_
        refine tv_iload_n (pc := 33) dD_add_33 (by rfl) ?_
        refine tv_iload_n (pc := 34) dD_add_34 (by rfl) ?_
        refine tv_callVi (pc := 35) [_, _, _, _] tb_56 (by rfl) (c_D_newLine1 l G (tc_up u 56 0 1) tc_up_self 2 r s1 t) (kVD_newLine wm_755 ⟨by decide, by decide⟩) (by rfl) (Nat.le_of_ble_eq_true rfl) dD_add_35 ⟨by decide, by decide⟩ ?_
        exact tv_iret (pc := 38) dD_add_38 rfl (Nat.le_refl _) (Nat.le_refl _) ⟨rfl, rfl⟩
set_option maxRecDepth 100000 in
set_option maxHeartbeats 4000000 in
theorem c_D_add2 (l : Launch) (G : tc_G) (u : tc_S) (hs : u 56 1 = 16) (r s1 t : Int32) (ho : ((¬ r < 0 ∧ ¬ 6 ≤ r)) ∧ ((¬ s1 < 0 ∧ ¬ 6 ≤ s1)) ∧ ((¬ t < 0 ∧ ¬ 6 ≤ t))) : tc_C tcx G l yD_add wD_add r0D_add 0 0 [.ref (tc_ad G 56), .int r, .int s1, .int t] u (tc_Ki 0 (tc_up (tc_up u 56 0 0) 56 0 2)) := by
  refine tw_ofV (own := "TracedCodeModel") [some (.ref (tc_ad G 56)), some (.int r), some (.int s1), some (.int t)] (by decide +kernel) rfl (Nat.le_of_ble_eq_true rfl) (by rfl) (fun p e s m args below meth c => ?_)
  refine tv_aload_n (pc := 0) dD_add_0 (by rfl) ?_
  refine tv_iload_n (pc := 1) dD_add_1 (by rfl) ?_
  refine tv_callSi (pc := 2) [_] (c_D_noRegister l G u _) (kSD_noRegister wm_752 ⟨by decide, by decide⟩) (by rfl) (Nat.le_of_ble_eq_true rfl) dD_add_2 ⟨by decide, by decide⟩ ?_
  refine tv_if_ne (pc := 5) 22 dD_add_5 (by decide) (fun h => absurd h (fun q => q (tp_b_f (fun z => z ho.1)))) (fun _ => ?_)
  refine tv_iload_n (pc := 8) dD_add_8 (by rfl) ?_
  refine tv_callSi (pc := 9) [_] (c_D_noRegister l G u _) (kSD_noRegister wm_752 ⟨by decide, by decide⟩) (by rfl) (Nat.le_of_ble_eq_true rfl) dD_add_9 ⟨by decide, by decide⟩ ?_
  refine tv_if_ne (pc := 12) 22 dD_add_12 (by decide) (fun h => absurd h (fun q => q (tp_b_f (fun z => z ho.2.1)))) (fun _ => ?_)
  refine tv_iload_n (pc := 15) dD_add_15 (by rfl) ?_
  refine tv_callSi (pc := 16) [_] (c_D_noRegister l G u _) (kSD_noRegister wm_752 ⟨by decide, by decide⟩) (by rfl) (Nat.le_of_ble_eq_true rfl) dD_add_16 ⟨by decide, by decide⟩ ?_
  refine tv_if_eq (pc := 19) 26 dD_add_19 (by decide) (fun _ => ?_) (fun h => absurd (tp_b_f (fun z => z ho.2.2)) h)
  refine tv_iconst (v := 0) (pc := 26) dD_add_26 (by decide) ?_
  refine tv_putI (ty := .int) (pc := 27) 0 tyD_ tb_56 (by rfl) uwD_ (by decide) wm_662 okD_ nmD_ (by rfl) (by decide +kernel) (by rfl) (by rfl) (by rfl) dD_add_27 ?_
  refine tv_aload_n (pc := 30) dD_add_30 (by rfl) ?_
  refine tv_iconst (v := 2) (pc := 31) dD_add_31 (by decide) ?_
  refine tv_iload_n (pc := 32) dD_add_32 (by rfl) ?_
  refine tv_iload_n (pc := 33) dD_add_33 (by rfl) ?_
  refine tv_iload_n (pc := 34) dD_add_34 (by rfl) ?_
  refine tv_callVi (pc := 35) [_, _, _, _] tb_56 (by rfl) (c_D_newLine2 l G (tc_up u 56 0 0) tc_up_self (by rw [tc_up_at (by decide)]; exact hs) 2 r s1 t) (kVD_newLine wm_755 ⟨by decide, by decide⟩) (by rfl) (Nat.le_of_ble_eq_true rfl) dD_add_35 ⟨by decide, by decide⟩ ?_
  exact tv_iret (pc := 38) dD_add_38 rfl (Nat.le_refl _) (Nat.le_refl _) ⟨rfl, rfl⟩
set_option maxRecDepth 100000 in
set_option maxHeartbeats 4000000 in
theorem c_D_add (l : Launch) (G : tc_G) (u : tc_S) {n : Nat} (hs : u 56 1 = nI n) (hn : n < 16) (r s1 t : Int32) (ho : ((¬ r < 0 ∧ ¬ 6 ≤ r)) ∧ ((¬ s1 < 0 ∧ ¬ 6 ≤ s1)) ∧ ((¬ t < 0 ∧ ¬ 6 ≤ t))) : tc_C tcx G l yD_add wD_add r0D_add 0 0 [.ref (tc_ad G 56), .int r, .int s1, .int t] u (tc_Ki (nI n) (sd_app n 2 r s1 t (tc_up u 56 0 0))) := by
  refine tw_ofV (own := "TracedCodeModel") [some (.ref (tc_ad G 56)), some (.int r), some (.int s1), some (.int t)] (by decide +kernel) rfl (Nat.le_of_ble_eq_true rfl) (by rfl) (fun p e s m args below meth c => ?_)
  refine tv_aload_n (pc := 0) dD_add_0 (by rfl) ?_
  refine tv_iload_n (pc := 1) dD_add_1 (by rfl) ?_
  refine tv_callSi (pc := 2) [_] (c_D_noRegister l G u _) (kSD_noRegister wm_752 ⟨by decide, by decide⟩) (by rfl) (Nat.le_of_ble_eq_true rfl) dD_add_2 ⟨by decide, by decide⟩ ?_
  refine tv_if_ne (pc := 5) 22 dD_add_5 (by decide) (fun h => absurd h (fun q => q (tp_b_f (fun z => z ho.1)))) (fun _ => ?_)
  refine tv_iload_n (pc := 8) dD_add_8 (by rfl) ?_
  refine tv_callSi (pc := 9) [_] (c_D_noRegister l G u _) (kSD_noRegister wm_752 ⟨by decide, by decide⟩) (by rfl) (Nat.le_of_ble_eq_true rfl) dD_add_9 ⟨by decide, by decide⟩ ?_
  refine tv_if_ne (pc := 12) 22 dD_add_12 (by decide) (fun h => absurd h (fun q => q (tp_b_f (fun z => z ho.2.1)))) (fun _ => ?_)
  refine tv_iload_n (pc := 15) dD_add_15 (by rfl) ?_
  refine tv_callSi (pc := 16) [_] (c_D_noRegister l G u _) (kSD_noRegister wm_752 ⟨by decide, by decide⟩) (by rfl) (Nat.le_of_ble_eq_true rfl) dD_add_16 ⟨by decide, by decide⟩ ?_
  refine tv_if_eq (pc := 19) 26 dD_add_19 (by decide) (fun _ => ?_) (fun h => absurd (tp_b_f (fun z => z ho.2.2)) h)
  refine tv_iconst (v := 0) (pc := 26) dD_add_26 (by decide) ?_
  refine tv_putI (ty := .int) (pc := 27) 0 tyD_ tb_56 (by rfl) uwD_ (by decide) wm_662 okD_ nmD_ (by rfl) (by decide +kernel) (by rfl) (by rfl) (by rfl) dD_add_27 ?_
  refine tv_aload_n (pc := 30) dD_add_30 (by rfl) ?_
  refine tv_iconst (v := 2) (pc := 31) dD_add_31 (by decide) ?_
  refine tv_iload_n (pc := 32) dD_add_32 (by rfl) ?_
  refine tv_iload_n (pc := 33) dD_add_33 (by rfl) ?_
  refine tv_iload_n (pc := 34) dD_add_34 (by rfl) ?_
  refine tv_callVi (pc := 35) [_, _, _, _] tb_56 (by rfl) (c_D_newLine l G (tc_up u 56 0 0) tc_up_self (by rw [tc_up_at (by decide)]; exact hs) hn 2 r s1 t) (kVD_newLine wm_755 ⟨by decide, by decide⟩) (by rfl) (Nat.le_of_ble_eq_true rfl) dD_add_35 ⟨by decide, by decide⟩ ?_
  exact tv_iret (pc := 38) dD_add_38 rfl (Nat.le_refl _) (Nat.le_refl _) ⟨rfl, rfl⟩
set_option maxRecDepth 100000 in
set_option maxHeartbeats 4000000 in
theorem c_D_out1 (l : Launch) (G : tc_G) (u : tc_S) (r : Int32) (ho : ¬ (((¬ r < 0 ∧ ¬ 6 ≤ r)))) : tc_C tcx G l yD_out wD_out r0D_out 0 0 [.ref (tc_ad G 56), .int r] u (tc_Ki 0 (tc_up u 56 0 1)) := by
  refine tw_ofV (own := "TracedCodeModel") [some (.ref (tc_ad G 56)), some (.int r)] (by decide +kernel) rfl (Nat.le_of_ble_eq_true rfl) (by rfl) (fun p e s m args below meth c => ?_)
  refine tv_aload_n (pc := 0) dD_out_0 (by rfl) ?_
  refine tv_iload_n (pc := 1) dD_out_1 (by rfl) ?_
  refine tv_callSi (pc := 2) [_] (c_D_noRegister l G u _) (kSD_noRegister wm_752 ⟨by decide, by decide⟩) (by rfl) (Nat.le_of_ble_eq_true rfl) dD_out_2 ⟨by decide, by decide⟩ ?_
  refine tv_if_eq (pc := 5) 12 dD_out_5 (by decide) (fun h5 => ?_) (fun h5 => ?_)
  · skip
    exact absurd (Classical.byContradiction fun q => (tp_b_q (by assumption : tp_b (¬ (¬ r < 0 ∧ ¬ 6 ≤ r)) = 0)) q) ho
  · skip
    refine tv_iconst (v := 1) (pc := 8) dD_out_8 (by decide) ?_
    refine tv_goto (pc := 9) 13 dD_out_9 (by decide) ?_
    refine tv_putI (ty := .int) (pc := 13) 0 tyD_ tb_56 (by rfl) uwD_ (by decide) wm_662 okD_ nmD_ (by rfl) (by decide +kernel) (by rfl) (by rfl) (by rfl) dD_out_13 ?_
    refine tv_aload_n (pc := 16) dD_out_16 (by rfl) ?_
    refine tv_iconst (v := 3) (pc := 17) dD_out_17 (by decide) ?_
    refine tv_iload_n (pc := 18) dD_out_18 (by rfl) ?_
    refine tv_iconst (v := 0) (pc := 19) dD_out_19 (by decide) ?_
    refine tv_iconst (v := 0) (pc := 20) dD_out_20 (by decide) ?_
    refine tv_callVi (pc := 21) [_, _, _, _] tb_56 (by rfl) (c_D_newLine1 l G (tc_up u 56 0 1) tc_up_self 3 r 0 0) (kVD_newLine wm_755 ⟨by decide, by decide⟩) (by rfl) (Nat.le_of_ble_eq_true rfl) dD_out_21 ⟨by decide, by decide⟩ ?_
    exact tv_iret (pc := 24) dD_out_24 rfl (Nat.le_refl _) (Nat.le_refl _) ⟨rfl, rfl⟩
set_option maxRecDepth 100000 in
set_option maxHeartbeats 4000000 in
theorem c_D_out2 (l : Launch) (G : tc_G) (u : tc_S) (hs : u 56 1 = 16) (r : Int32) (ho : ((¬ r < 0 ∧ ¬ 6 ≤ r))) : tc_C tcx G l yD_out wD_out r0D_out 0 0 [.ref (tc_ad G 56), .int r] u (tc_Ki 0 (tc_up (tc_up u 56 0 0) 56 0 2)) := by
  refine tw_ofV (own := "TracedCodeModel") [some (.ref (tc_ad G 56)), some (.int r)] (by decide +kernel) rfl (Nat.le_of_ble_eq_true rfl) (by rfl) (fun p e s m args below meth c => ?_)
  refine tv_aload_n (pc := 0) dD_out_0 (by rfl) ?_
  refine tv_iload_n (pc := 1) dD_out_1 (by rfl) ?_
  refine tv_callSi (pc := 2) [_] (c_D_noRegister l G u _) (kSD_noRegister wm_752 ⟨by decide, by decide⟩) (by rfl) (Nat.le_of_ble_eq_true rfl) dD_out_2 ⟨by decide, by decide⟩ ?_
  refine tv_if_eq (pc := 5) 12 dD_out_5 (by decide) (fun _ => ?_) (fun h => absurd (tp_b_f (fun z => z ho)) h)
  refine tv_iconst (v := 0) (pc := 12) dD_out_12 (by decide) ?_
  refine tv_putI (ty := .int) (pc := 13) 0 tyD_ tb_56 (by rfl) uwD_ (by decide) wm_662 okD_ nmD_ (by rfl) (by decide +kernel) (by rfl) (by rfl) (by rfl) dD_out_13 ?_
  refine tv_aload_n (pc := 16) dD_out_16 (by rfl) ?_
  refine tv_iconst (v := 3) (pc := 17) dD_out_17 (by decide) ?_
  refine tv_iload_n (pc := 18) dD_out_18 (by rfl) ?_
  refine tv_iconst (v := 0) (pc := 19) dD_out_19 (by decide) ?_
  refine tv_iconst (v := 0) (pc := 20) dD_out_20 (by decide) ?_
  refine tv_callVi (pc := 21) [_, _, _, _] tb_56 (by rfl) (c_D_newLine2 l G (tc_up u 56 0 0) tc_up_self (by rw [tc_up_at (by decide)]; exact hs) 3 r 0 0) (kVD_newLine wm_755 ⟨by decide, by decide⟩) (by rfl) (Nat.le_of_ble_eq_true rfl) dD_out_21 ⟨by decide, by decide⟩ ?_
  exact tv_iret (pc := 24) dD_out_24 rfl (Nat.le_refl _) (Nat.le_refl _) ⟨rfl, rfl⟩
set_option maxRecDepth 100000 in
set_option maxHeartbeats 4000000 in
theorem c_D_out (l : Launch) (G : tc_G) (u : tc_S) {n : Nat} (hs : u 56 1 = nI n) (hn : n < 16) (r : Int32) (ho : ((¬ r < 0 ∧ ¬ 6 ≤ r))) : tc_C tcx G l yD_out wD_out r0D_out 0 0 [.ref (tc_ad G 56), .int r] u (tc_Ki (nI n) (sd_app n 3 r 0 0 (tc_up u 56 0 0))) := by
  refine tw_ofV (own := "TracedCodeModel") [some (.ref (tc_ad G 56)), some (.int r)] (by decide +kernel) rfl (Nat.le_of_ble_eq_true rfl) (by rfl) (fun p e s m args below meth c => ?_)
  refine tv_aload_n (pc := 0) dD_out_0 (by rfl) ?_
  refine tv_iload_n (pc := 1) dD_out_1 (by rfl) ?_
  refine tv_callSi (pc := 2) [_] (c_D_noRegister l G u _) (kSD_noRegister wm_752 ⟨by decide, by decide⟩) (by rfl) (Nat.le_of_ble_eq_true rfl) dD_out_2 ⟨by decide, by decide⟩ ?_
  refine tv_if_eq (pc := 5) 12 dD_out_5 (by decide) (fun _ => ?_) (fun h => absurd (tp_b_f (fun z => z ho)) h)
  refine tv_iconst (v := 0) (pc := 12) dD_out_12 (by decide) ?_
  refine tv_putI (ty := .int) (pc := 13) 0 tyD_ tb_56 (by rfl) uwD_ (by decide) wm_662 okD_ nmD_ (by rfl) (by decide +kernel) (by rfl) (by rfl) (by rfl) dD_out_13 ?_
  refine tv_aload_n (pc := 16) dD_out_16 (by rfl) ?_
  refine tv_iconst (v := 3) (pc := 17) dD_out_17 (by decide) ?_
  refine tv_iload_n (pc := 18) dD_out_18 (by rfl) ?_
  refine tv_iconst (v := 0) (pc := 19) dD_out_19 (by decide) ?_
  refine tv_iconst (v := 0) (pc := 20) dD_out_20 (by decide) ?_
  refine tv_callVi (pc := 21) [_, _, _, _] tb_56 (by rfl) (c_D_newLine l G (tc_up u 56 0 0) tc_up_self (by rw [tc_up_at (by decide)]; exact hs) hn 3 r 0 0) (kVD_newLine wm_755 ⟨by decide, by decide⟩) (by rfl) (Nat.le_of_ble_eq_true rfl) dD_out_21 ⟨by decide, by decide⟩ ?_
  exact tv_iret (pc := 24) dD_out_24 rfl (Nat.le_refl _) (Nat.le_refl _) ⟨rfl, rfl⟩
set_option maxRecDepth 100000 in
set_option maxHeartbeats 4000000 in
theorem c_D_jump1 (l : Launch) (G : tc_G) (u : tc_S) (r s1 : Int32) (ho : ¬ (((¬ r < 0 ∧ ¬ 6 ≤ r)) ∧ ((¬ s1 < 0 ∧ ¬ 17 ≤ s1)))) : tc_C tcx G l yD_jump wD_jump r0D_jump 0 0 [.ref (tc_ad G 56), .int r, .int s1] u (tc_Ki 0 (tc_up u 56 0 1)) := by
  refine tw_ofV (own := "TracedCodeModel") [some (.ref (tc_ad G 56)), some (.int r), some (.int s1)] (by decide +kernel) rfl (Nat.le_of_ble_eq_true rfl) (by rfl) (fun p e s m args below meth c => ?_)
  refine tv_aload_n (pc := 0) dD_jump_0 (by rfl) ?_
  refine tv_iload_n (pc := 1) dD_jump_1 (by rfl) ?_
  refine tv_callSi (pc := 2) [_] (c_D_noRegister l G u _) (kSD_noRegister wm_752 ⟨by decide, by decide⟩) (by rfl) (Nat.le_of_ble_eq_true rfl) dD_jump_2 ⟨by decide, by decide⟩ ?_
  refine tv_if_ne (pc := 5) 18 dD_jump_5 (by decide) (fun h5 => ?_) (fun h5 => ?_)
  · skip
    refine tv_iconst (v := 1) (pc := 18) dD_jump_18 (by decide) ?_
    refine tv_goto (pc := 19) 23 dD_jump_19 (by decide) ?_
    refine tv_putI (ty := .int) (pc := 23) 0 tyD_ tb_56 (by rfl) uwD_ (by decide) wm_662 okD_ nmD_ (by rfl) (by decide +kernel) (by rfl) (by rfl) (by rfl) dD_jump_23 ?_
    refine tv_aload_n (pc := 26) dD_jump_26 (by rfl) ?_
    refine tv_iconst (v := 4) (pc := 27) dD_jump_27 (by decide) ?_
    refine tv_iload_n (pc := 28) dD_jump_28 (by rfl) ?_
    refine tv_iload_n (pc := 29) dD_jump_29 (by rfl) ?_
    refine tv_iconst (v := 0) (pc := 30) dD_jump_30 (by decide) ?_
    refine tv_callVi (pc := 31) [_, _, _, _] tb_56 (by rfl) (c_D_newLine1 l G (tc_up u 56 0 1) tc_up_self 4 r s1 0) (kVD_newLine wm_755 ⟨by decide, by decide⟩) (by rfl) (Nat.le_of_ble_eq_true rfl) dD_jump_31 ⟨by decide, by decide⟩ ?_
    exact tv_iret (pc := 34) dD_jump_34 rfl (Nat.le_refl _) (Nat.le_refl _) ⟨rfl, rfl⟩
  · skip
    refine tv_iload_n (pc := 8) dD_jump_8 (by rfl) ?_
    refine tv_if_lt (pc := 9) 18 dD_jump_9 (by decide) (fun h9 => ?_) (fun h9 => ?_)
    · skip
      refine tv_iconst (v := 1) (pc := 18) dD_jump_18 (by decide) ?_
      refine tv_goto (pc := 19) 23 dD_jump_19 (by decide) ?_
      refine tv_putI (ty := .int) (pc := 23) 0 tyD_ tb_56 (by rfl) uwD_ (by decide) wm_662 okD_ nmD_ (by rfl) (by decide +kernel) (by rfl) (by rfl) (by rfl) dD_jump_23 ?_
      refine tv_aload_n (pc := 26) dD_jump_26 (by rfl) ?_
      refine tv_iconst (v := 4) (pc := 27) dD_jump_27 (by decide) ?_
      refine tv_iload_n (pc := 28) dD_jump_28 (by rfl) ?_
      refine tv_iload_n (pc := 29) dD_jump_29 (by rfl) ?_
      refine tv_iconst (v := 0) (pc := 30) dD_jump_30 (by decide) ?_
      refine tv_callVi (pc := 31) [_, _, _, _] tb_56 (by rfl) (c_D_newLine1 l G (tc_up u 56 0 1) tc_up_self 4 r s1 0) (kVD_newLine wm_755 ⟨by decide, by decide⟩) (by rfl) (Nat.le_of_ble_eq_true rfl) dD_jump_31 ⟨by decide, by decide⟩ ?_
      exact tv_iret (pc := 34) dD_jump_34 rfl (Nat.le_refl _) (Nat.le_refl _) ⟨rfl, rfl⟩
    · skip
      refine tv_iload_n (pc := 12) dD_jump_12 (by rfl) ?_
      refine tv_bipush (v := 16) (pc := 13) dD_jump_13 (by decide) ?_
      refine tv_icmp_le (pc := 15) 22 dD_jump_15 (by decide) (fun h15 => ?_) (fun h15 => ?_)
      · skip
        exact absurd (⟨Classical.byContradiction fun q => (tp_b_q (by assumption : tp_b (¬ (¬ r < 0 ∧ ¬ 6 ≤ r)) = 0)) q, ⟨by assumption, fun z => le16.mpr z (by assumption)⟩⟩) ho
      · skip
        refine tv_iconst (v := 1) (pc := 18) dD_jump_18 (by decide) ?_
        refine tv_goto (pc := 19) 23 dD_jump_19 (by decide) ?_
        refine tv_putI (ty := .int) (pc := 23) 0 tyD_ tb_56 (by rfl) uwD_ (by decide) wm_662 okD_ nmD_ (by rfl) (by decide +kernel) (by rfl) (by rfl) (by rfl) dD_jump_23 ?_
        refine tv_aload_n (pc := 26) dD_jump_26 (by rfl) ?_
        refine tv_iconst (v := 4) (pc := 27) dD_jump_27 (by decide) ?_
        refine tv_iload_n (pc := 28) dD_jump_28 (by rfl) ?_
        refine tv_iload_n (pc := 29) dD_jump_29 (by rfl) ?_
        refine tv_iconst (v := 0) (pc := 30) dD_jump_30 (by decide) ?_
        refine tv_callVi (pc := 31) [_, _, _, _] tb_56 (by rfl) (c_D_newLine1 l G (tc_up u 56 0 1) tc_up_self 4 r s1 0) (kVD_newLine wm_755 ⟨by decide, by decide⟩) (by rfl) (Nat.le_of_ble_eq_true rfl) dD_jump_31 ⟨by decide, by decide⟩ ?_
        exact tv_iret (pc := 34) dD_jump_34 rfl (Nat.le_refl _) (Nat.le_refl _) ⟨rfl, rfl⟩
set_option maxRecDepth 100000 in
set_option maxHeartbeats 4000000 in
theorem c_D_jump2 (l : Launch) (G : tc_G) (u : tc_S) (hs : u 56 1 = 16) (r s1 : Int32) (ho : ((¬ r < 0 ∧ ¬ 6 ≤ r)) ∧ ((¬ s1 < 0 ∧ ¬ 17 ≤ s1))) : tc_C tcx G l yD_jump wD_jump r0D_jump 0 0 [.ref (tc_ad G 56), .int r, .int s1] u (tc_Ki 0 (tc_up (tc_up u 56 0 0) 56 0 2)) := by
  refine tw_ofV (own := "TracedCodeModel") [some (.ref (tc_ad G 56)), some (.int r), some (.int s1)] (by decide +kernel) rfl (Nat.le_of_ble_eq_true rfl) (by rfl) (fun p e s m args below meth c => ?_)
  refine tv_aload_n (pc := 0) dD_jump_0 (by rfl) ?_
  refine tv_iload_n (pc := 1) dD_jump_1 (by rfl) ?_
  refine tv_callSi (pc := 2) [_] (c_D_noRegister l G u _) (kSD_noRegister wm_752 ⟨by decide, by decide⟩) (by rfl) (Nat.le_of_ble_eq_true rfl) dD_jump_2 ⟨by decide, by decide⟩ ?_
  refine tv_if_ne (pc := 5) 18 dD_jump_5 (by decide) (fun h => absurd h (fun q => q (tp_b_f (fun z => z ho.1)))) (fun _ => ?_)
  refine tv_iload_n (pc := 8) dD_jump_8 (by rfl) ?_
  refine tv_if_lt (pc := 9) 18 dD_jump_9 (by decide) (fun h => absurd h ho.2.1) (fun _ => ?_)
  refine tv_iload_n (pc := 12) dD_jump_12 (by rfl) ?_
  refine tv_bipush (v := 16) (pc := 13) dD_jump_13 (by decide) ?_
  refine tv_icmp_le (pc := 15) 22 dD_jump_15 (by decide) (fun _ => ?_) (fun h => absurd (Classical.byContradiction fun z => ho.2.2 (le16.mp z)) h)
  refine tv_iconst (v := 0) (pc := 22) dD_jump_22 (by decide) ?_
  refine tv_putI (ty := .int) (pc := 23) 0 tyD_ tb_56 (by rfl) uwD_ (by decide) wm_662 okD_ nmD_ (by rfl) (by decide +kernel) (by rfl) (by rfl) (by rfl) dD_jump_23 ?_
  refine tv_aload_n (pc := 26) dD_jump_26 (by rfl) ?_
  refine tv_iconst (v := 4) (pc := 27) dD_jump_27 (by decide) ?_
  refine tv_iload_n (pc := 28) dD_jump_28 (by rfl) ?_
  refine tv_iload_n (pc := 29) dD_jump_29 (by rfl) ?_
  refine tv_iconst (v := 0) (pc := 30) dD_jump_30 (by decide) ?_
  refine tv_callVi (pc := 31) [_, _, _, _] tb_56 (by rfl) (c_D_newLine2 l G (tc_up u 56 0 0) tc_up_self (by rw [tc_up_at (by decide)]; exact hs) 4 r s1 0) (kVD_newLine wm_755 ⟨by decide, by decide⟩) (by rfl) (Nat.le_of_ble_eq_true rfl) dD_jump_31 ⟨by decide, by decide⟩ ?_
  exact tv_iret (pc := 34) dD_jump_34 rfl (Nat.le_refl _) (Nat.le_refl _) ⟨rfl, rfl⟩
set_option maxRecDepth 100000 in
set_option maxHeartbeats 4000000 in
theorem c_D_jump (l : Launch) (G : tc_G) (u : tc_S) {n : Nat} (hs : u 56 1 = nI n) (hn : n < 16) (r s1 : Int32) (ho : ((¬ r < 0 ∧ ¬ 6 ≤ r)) ∧ ((¬ s1 < 0 ∧ ¬ 17 ≤ s1))) : tc_C tcx G l yD_jump wD_jump r0D_jump 0 0 [.ref (tc_ad G 56), .int r, .int s1] u (tc_Ki (nI n) (sd_app n 4 r s1 0 (tc_up u 56 0 0))) := by
  refine tw_ofV (own := "TracedCodeModel") [some (.ref (tc_ad G 56)), some (.int r), some (.int s1)] (by decide +kernel) rfl (Nat.le_of_ble_eq_true rfl) (by rfl) (fun p e s m args below meth c => ?_)
  refine tv_aload_n (pc := 0) dD_jump_0 (by rfl) ?_
  refine tv_iload_n (pc := 1) dD_jump_1 (by rfl) ?_
  refine tv_callSi (pc := 2) [_] (c_D_noRegister l G u _) (kSD_noRegister wm_752 ⟨by decide, by decide⟩) (by rfl) (Nat.le_of_ble_eq_true rfl) dD_jump_2 ⟨by decide, by decide⟩ ?_
  refine tv_if_ne (pc := 5) 18 dD_jump_5 (by decide) (fun h => absurd h (fun q => q (tp_b_f (fun z => z ho.1)))) (fun _ => ?_)
  refine tv_iload_n (pc := 8) dD_jump_8 (by rfl) ?_
  refine tv_if_lt (pc := 9) 18 dD_jump_9 (by decide) (fun h => absurd h ho.2.1) (fun _ => ?_)
  refine tv_iload_n (pc := 12) dD_jump_12 (by rfl) ?_
  refine tv_bipush (v := 16) (pc := 13) dD_jump_13 (by decide) ?_
  refine tv_icmp_le (pc := 15) 22 dD_jump_15 (by decide) (fun _ => ?_) (fun h => absurd (Classical.byContradiction fun z => ho.2.2 (le16.mp z)) h)
  refine tv_iconst (v := 0) (pc := 22) dD_jump_22 (by decide) ?_
  refine tv_putI (ty := .int) (pc := 23) 0 tyD_ tb_56 (by rfl) uwD_ (by decide) wm_662 okD_ nmD_ (by rfl) (by decide +kernel) (by rfl) (by rfl) (by rfl) dD_jump_23 ?_
  refine tv_aload_n (pc := 26) dD_jump_26 (by rfl) ?_
  refine tv_iconst (v := 4) (pc := 27) dD_jump_27 (by decide) ?_
  refine tv_iload_n (pc := 28) dD_jump_28 (by rfl) ?_
  refine tv_iload_n (pc := 29) dD_jump_29 (by rfl) ?_
  refine tv_iconst (v := 0) (pc := 30) dD_jump_30 (by decide) ?_
  refine tv_callVi (pc := 31) [_, _, _, _] tb_56 (by rfl) (c_D_newLine l G (tc_up u 56 0 0) tc_up_self (by rw [tc_up_at (by decide)]; exact hs) hn 4 r s1 0) (kVD_newLine wm_755 ⟨by decide, by decide⟩) (by rfl) (Nat.le_of_ble_eq_true rfl) dD_jump_31 ⟨by decide, by decide⟩ ?_
  exact tv_iret (pc := 34) dD_jump_34 rfl (Nat.le_refl _) (Nat.le_refl _) ⟨rfl, rfl⟩
set_option maxRecDepth 100000 in
set_option maxHeartbeats 4000000 in
theorem c_D_name1 (l : Launch) (G : tc_G) (u : tc_S) (v r : Int32) (ho : ¬ (((¬ v < 0 ∧ ¬ 3 ≤ v)) ∧ ((¬ r < 0 ∧ ¬ 6 ≤ r)))) : tc_C tcx G l yD_name wD_name r0D_name 0 0 [.ref (tc_ad G 56), .int v, .int r] u (tc_Ki 0 (tc_up u 56 0 1)) := by
  refine tw_ofV (own := "TracedCodeModel") [some (.ref (tc_ad G 56)), some (.int v), some (.int r)] (by decide +kernel) rfl (Nat.le_of_ble_eq_true rfl) (by rfl) (fun p e s m args below meth c => ?_)
  refine tv_aload_n (pc := 0) dD_name_0 (by rfl) ?_
  refine tv_iload_n (pc := 1) dD_name_1 (by rfl) ?_
  refine tv_if_lt (pc := 2) 17 dD_name_2 (by decide) (fun h2 => ?_) (fun h2 => ?_)
  · skip
    refine tv_iconst (v := 1) (pc := 17) dD_name_17 (by decide) ?_
    refine tv_goto (pc := 18) 22 dD_name_18 (by decide) ?_
    refine tv_putI (ty := .int) (pc := 22) 0 tyD_ tb_56 (by rfl) uwD_ (by decide) wm_662 okD_ nmD_ (by rfl) (by decide +kernel) (by rfl) (by rfl) (by rfl) dD_name_22 ?_
    refine tv_aload_n (pc := 25) dD_name_25 (by rfl) ?_
    refine tv_iconst (v := 5) (pc := 26) dD_name_26 (by decide) ?_
    refine tv_iload_n (pc := 27) dD_name_27 (by rfl) ?_
    refine tv_iload_n (pc := 28) dD_name_28 (by rfl) ?_
    refine tv_iconst (v := 0) (pc := 29) dD_name_29 (by decide) ?_
    refine tv_callVi (pc := 30) [_, _, _, _] tb_56 (by rfl) (c_D_newLine1 l G (tc_up u 56 0 1) tc_up_self 5 v r 0) (kVD_newLine wm_755 ⟨by decide, by decide⟩) (by rfl) (Nat.le_of_ble_eq_true rfl) dD_name_30 ⟨by decide, by decide⟩ ?_
    exact tv_iret (pc := 33) dD_name_33 rfl (Nat.le_refl _) (Nat.le_refl _) ⟨rfl, rfl⟩
  · skip
    refine tv_iload_n (pc := 5) dD_name_5 (by rfl) ?_
    refine tv_iconst (v := 2) (pc := 6) dD_name_6 (by decide) ?_
    refine tv_icmp_gt (pc := 7) 17 dD_name_7 (by decide) (fun h7 => ?_) (fun h7 => ?_)
    · skip
      refine tv_iconst (v := 1) (pc := 17) dD_name_17 (by decide) ?_
      refine tv_goto (pc := 18) 22 dD_name_18 (by decide) ?_
      refine tv_putI (ty := .int) (pc := 22) 0 tyD_ tb_56 (by rfl) uwD_ (by decide) wm_662 okD_ nmD_ (by rfl) (by decide +kernel) (by rfl) (by rfl) (by rfl) dD_name_22 ?_
      refine tv_aload_n (pc := 25) dD_name_25 (by rfl) ?_
      refine tv_iconst (v := 5) (pc := 26) dD_name_26 (by decide) ?_
      refine tv_iload_n (pc := 27) dD_name_27 (by rfl) ?_
      refine tv_iload_n (pc := 28) dD_name_28 (by rfl) ?_
      refine tv_iconst (v := 0) (pc := 29) dD_name_29 (by decide) ?_
      refine tv_callVi (pc := 30) [_, _, _, _] tb_56 (by rfl) (c_D_newLine1 l G (tc_up u 56 0 1) tc_up_self 5 v r 0) (kVD_newLine wm_755 ⟨by decide, by decide⟩) (by rfl) (Nat.le_of_ble_eq_true rfl) dD_name_30 ⟨by decide, by decide⟩ ?_
      exact tv_iret (pc := 33) dD_name_33 rfl (Nat.le_refl _) (Nat.le_refl _) ⟨rfl, rfl⟩
    · skip
      refine tv_iload_n (pc := 10) dD_name_10 (by rfl) ?_
      refine tv_callSi (pc := 11) [_] (c_D_noRegister l G u _) (kSD_noRegister wm_752 ⟨by decide, by decide⟩) (by rfl) (Nat.le_of_ble_eq_true rfl) dD_name_11 ⟨by decide, by decide⟩ ?_
      refine tv_if_eq (pc := 14) 21 dD_name_14 (by decide) (fun h14 => ?_) (fun h14 => ?_)
      · skip
        exact absurd (⟨⟨by assumption, fun z => absurd (gt2.mpr z) (by assumption)⟩, Classical.byContradiction fun q => (tp_b_q (by assumption : tp_b (¬ (¬ r < 0 ∧ ¬ 6 ≤ r)) = 0)) q⟩) ho
      · skip
        refine tv_iconst (v := 1) (pc := 17) dD_name_17 (by decide) ?_
        refine tv_goto (pc := 18) 22 dD_name_18 (by decide) ?_
        refine tv_putI (ty := .int) (pc := 22) 0 tyD_ tb_56 (by rfl) uwD_ (by decide) wm_662 okD_ nmD_ (by rfl) (by decide +kernel) (by rfl) (by rfl) (by rfl) dD_name_22 ?_
        refine tv_aload_n (pc := 25) dD_name_25 (by rfl) ?_
        refine tv_iconst (v := 5) (pc := 26) dD_name_26 (by decide) ?_
        refine tv_iload_n (pc := 27) dD_name_27 (by rfl) ?_
        refine tv_iload_n (pc := 28) dD_name_28 (by rfl) ?_
        refine tv_iconst (v := 0) (pc := 29) dD_name_29 (by decide) ?_
        refine tv_callVi (pc := 30) [_, _, _, _] tb_56 (by rfl) (c_D_newLine1 l G (tc_up u 56 0 1) tc_up_self 5 v r 0) (kVD_newLine wm_755 ⟨by decide, by decide⟩) (by rfl) (Nat.le_of_ble_eq_true rfl) dD_name_30 ⟨by decide, by decide⟩ ?_
        exact tv_iret (pc := 33) dD_name_33 rfl (Nat.le_refl _) (Nat.le_refl _) ⟨rfl, rfl⟩
set_option maxRecDepth 100000 in
set_option maxHeartbeats 4000000 in
theorem c_D_name2 (l : Launch) (G : tc_G) (u : tc_S) (hs : u 56 1 = 16) (v r : Int32) (ho : ((¬ v < 0 ∧ ¬ 3 ≤ v)) ∧ ((¬ r < 0 ∧ ¬ 6 ≤ r))) : tc_C tcx G l yD_name wD_name r0D_name 0 0 [.ref (tc_ad G 56), .int v, .int r] u (tc_Ki 0 (tc_up (tc_up u 56 0 0) 56 0 2)) := by
  refine tw_ofV (own := "TracedCodeModel") [some (.ref (tc_ad G 56)), some (.int v), some (.int r)] (by decide +kernel) rfl (Nat.le_of_ble_eq_true rfl) (by rfl) (fun p e s m args below meth c => ?_)
  refine tv_aload_n (pc := 0) dD_name_0 (by rfl) ?_
  refine tv_iload_n (pc := 1) dD_name_1 (by rfl) ?_
  refine tv_if_lt (pc := 2) 17 dD_name_2 (by decide) (fun h => absurd h ho.1.1) (fun _ => ?_)
  refine tv_iload_n (pc := 5) dD_name_5 (by rfl) ?_
  refine tv_iconst (v := 2) (pc := 6) dD_name_6 (by decide) ?_
  refine tv_icmp_gt (pc := 7) 17 dD_name_7 (by decide) (fun h => absurd h (fun z => ho.1.2 (gt2.mp z))) (fun _ => ?_)
  refine tv_iload_n (pc := 10) dD_name_10 (by rfl) ?_
  refine tv_callSi (pc := 11) [_] (c_D_noRegister l G u _) (kSD_noRegister wm_752 ⟨by decide, by decide⟩) (by rfl) (Nat.le_of_ble_eq_true rfl) dD_name_11 ⟨by decide, by decide⟩ ?_
  refine tv_if_eq (pc := 14) 21 dD_name_14 (by decide) (fun _ => ?_) (fun h => absurd (tp_b_f (fun z => z ho.2)) h)
  refine tv_iconst (v := 0) (pc := 21) dD_name_21 (by decide) ?_
  refine tv_putI (ty := .int) (pc := 22) 0 tyD_ tb_56 (by rfl) uwD_ (by decide) wm_662 okD_ nmD_ (by rfl) (by decide +kernel) (by rfl) (by rfl) (by rfl) dD_name_22 ?_
  refine tv_aload_n (pc := 25) dD_name_25 (by rfl) ?_
  refine tv_iconst (v := 5) (pc := 26) dD_name_26 (by decide) ?_
  refine tv_iload_n (pc := 27) dD_name_27 (by rfl) ?_
  refine tv_iload_n (pc := 28) dD_name_28 (by rfl) ?_
  refine tv_iconst (v := 0) (pc := 29) dD_name_29 (by decide) ?_
  refine tv_callVi (pc := 30) [_, _, _, _] tb_56 (by rfl) (c_D_newLine2 l G (tc_up u 56 0 0) tc_up_self (by rw [tc_up_at (by decide)]; exact hs) 5 v r 0) (kVD_newLine wm_755 ⟨by decide, by decide⟩) (by rfl) (Nat.le_of_ble_eq_true rfl) dD_name_30 ⟨by decide, by decide⟩ ?_
  exact tv_iret (pc := 33) dD_name_33 rfl (Nat.le_refl _) (Nat.le_refl _) ⟨rfl, rfl⟩
set_option maxRecDepth 100000 in
set_option maxHeartbeats 4000000 in
theorem c_D_name (l : Launch) (G : tc_G) (u : tc_S) {n : Nat} (hs : u 56 1 = nI n) (hn : n < 16) (v r : Int32) (ho : ((¬ v < 0 ∧ ¬ 3 ≤ v)) ∧ ((¬ r < 0 ∧ ¬ 6 ≤ r))) : tc_C tcx G l yD_name wD_name r0D_name 0 0 [.ref (tc_ad G 56), .int v, .int r] u (tc_Ki (nI n) (sd_app n 5 v r 0 (tc_up u 56 0 0))) := by
  refine tw_ofV (own := "TracedCodeModel") [some (.ref (tc_ad G 56)), some (.int v), some (.int r)] (by decide +kernel) rfl (Nat.le_of_ble_eq_true rfl) (by rfl) (fun p e s m args below meth c => ?_)
  refine tv_aload_n (pc := 0) dD_name_0 (by rfl) ?_
  refine tv_iload_n (pc := 1) dD_name_1 (by rfl) ?_
  refine tv_if_lt (pc := 2) 17 dD_name_2 (by decide) (fun h => absurd h ho.1.1) (fun _ => ?_)
  refine tv_iload_n (pc := 5) dD_name_5 (by rfl) ?_
  refine tv_iconst (v := 2) (pc := 6) dD_name_6 (by decide) ?_
  refine tv_icmp_gt (pc := 7) 17 dD_name_7 (by decide) (fun h => absurd h (fun z => ho.1.2 (gt2.mp z))) (fun _ => ?_)
  refine tv_iload_n (pc := 10) dD_name_10 (by rfl) ?_
  refine tv_callSi (pc := 11) [_] (c_D_noRegister l G u _) (kSD_noRegister wm_752 ⟨by decide, by decide⟩) (by rfl) (Nat.le_of_ble_eq_true rfl) dD_name_11 ⟨by decide, by decide⟩ ?_
  refine tv_if_eq (pc := 14) 21 dD_name_14 (by decide) (fun _ => ?_) (fun h => absurd (tp_b_f (fun z => z ho.2)) h)
  refine tv_iconst (v := 0) (pc := 21) dD_name_21 (by decide) ?_
  refine tv_putI (ty := .int) (pc := 22) 0 tyD_ tb_56 (by rfl) uwD_ (by decide) wm_662 okD_ nmD_ (by rfl) (by decide +kernel) (by rfl) (by rfl) (by rfl) dD_name_22 ?_
  refine tv_aload_n (pc := 25) dD_name_25 (by rfl) ?_
  refine tv_iconst (v := 5) (pc := 26) dD_name_26 (by decide) ?_
  refine tv_iload_n (pc := 27) dD_name_27 (by rfl) ?_
  refine tv_iload_n (pc := 28) dD_name_28 (by rfl) ?_
  refine tv_iconst (v := 0) (pc := 29) dD_name_29 (by decide) ?_
  refine tv_callVi (pc := 30) [_, _, _, _] tb_56 (by rfl) (c_D_newLine l G (tc_up u 56 0 0) tc_up_self (by rw [tc_up_at (by decide)]; exact hs) hn 5 v r 0) (kVD_newLine wm_755 ⟨by decide, by decide⟩) (by rfl) (Nat.le_of_ble_eq_true rfl) dD_name_30 ⟨by decide, by decide⟩ ?_
  exact tv_iret (pc := 33) dD_name_33 rfl (Nat.le_refl _) (Nat.le_refl _) ⟨rfl, rfl⟩
set_option maxRecDepth 100000 in
set_option maxHeartbeats 4000000 in
theorem c_D_clear (l : Launch) (G : tc_G) (u : tc_S)  : tc_C tcx G l yD_clear wD_clear r0D_clear 0 0 [.ref (tc_ad G 56)] u (tc_Kv (tc_up (tc_up (tc_up u 56 0 0) 56 1 0) 56 6 0)) := by
  refine tw_ofV (own := "TracedCodeModel") [some (.ref (tc_ad G 56))] (by decide +kernel) rfl (Nat.le_of_ble_eq_true rfl) (by rfl) (fun p e s m args below meth c => ?_)
  refine tv_aload_n (pc := 0) dD_clear_0 (by rfl) ?_
  refine tv_iconst (v := 0) (pc := 1) dD_clear_1 (by decide) ?_
  refine tv_putI (ty := .int) (pc := 2) 0 tyD_ tb_56 (by rfl) uwD_ (by decide) wm_662 okD_ nmD_ (by rfl) (by decide +kernel) (by rfl) (by rfl) (by rfl) dD_clear_2 ?_
  refine tv_aload_n (pc := 5) dD_clear_5 (by rfl) ?_
  refine tv_iconst (v := 0) (pc := 6) dD_clear_6 (by decide) ?_
  refine tv_putI (ty := .int) (pc := 7) 1 tyD_ tb_56 (by rfl) uwD_ (by decide) wm_663 okD_ nmD_ (by rfl) (by decide +kernel) (by rfl) (by rfl) (by rfl) dD_clear_7 ?_
  refine tv_aload_n (pc := 10) dD_clear_10 (by rfl) ?_
  refine tv_iconst (v := 0) (pc := 11) dD_clear_11 (by decide) ?_
  refine tv_putI (ty := .boolean) (pc := 12) 6 tyD_ tb_56 (by rfl) uwD_ (by decide) wm_668 okD_ nmD_ (by rfl) (by decide +kernel) (by rfl) (by rfl) (by rfl) dD_clear_12 ?_
  exact tv_vret (pc := 15) dD_clear_15 rfl (Nat.le_refl _) (Nat.le_refl _) ⟨rfl, rfl⟩
set_option maxRecDepth 100000 in
set_option maxHeartbeats 4000000 in
theorem c_D_targetOf (l : Launch) (G : tc_G) (u : tc_S) {n i : Nat} (hs : u 56 1 = nI n) (hn : n ≤ 16) (hi : i < 16) (h4 : pm u 0 0 i = 4 → ∃ a, a < 17 ∧ pm u 0 2 i = nI a) : tc_C tcx G l yD_targetOf wD_targetOf r0D_targetOf 0 0 [.ref (tc_ad G 56), .int (nI i)] u (tc_Ki (nI (tp_tg n (pm u 0) i)) u) := by
  refine tw_ofV (own := "TracedCodeModel") [some (.ref (tc_ad G 56)), some (.int (nI i))] (by decide +kernel) rfl (Nat.le_of_ble_eq_true rfl) (by rfl) (fun p e s m args below meth c => ?_)
  have i32 : tc_ix (nI i) 32 i := ix32 hi
  have e0 : pm u 0 0 i = u 57 i := by rw [pm_of (by decide), Nat.zero_add]
  have e2 : pm u 0 2 i = u 59 i := by rw [pm_of (by decide), Nat.zero_add]
  refine tv_aload_n (pc := 0) dD_targetOf_0 (by rfl) ?_
  refine tv_getR (pc := 1) 2 tb_56 (by rfl) uwD_ (by decide) wm_664 (by rfl) dD_targetOf_1 ?_
  refine tv_iload_n (pc := 4) dD_targetOf_4 (by rfl) ?_
  refine tv_iald (pc := 5) tb_57 (by assumption) dD_targetOf_5 ?_
  refine tv_iconst (v := 4) (pc := 6) dD_targetOf_6 (by decide) ?_
  refine tv_icmp_eq (pc := 7) 14 dD_targetOf_7 (by decide) (fun h7 => ?_) (fun h7 => ?_)
  · skip
    refine tv_aload_n (pc := 14) dD_targetOf_14 (by rfl) ?_
    refine tv_getR (pc := 15) 4 tb_56 (by rfl) uwD_ (by decide) wm_666 (by rfl) dD_targetOf_15 ?_
    refine tv_iload_n (pc := 18) dD_targetOf_18 (by rfl) ?_
    refine tv_iald (pc := 19) tb_59 (by assumption) dD_targetOf_19 ?_
    refine tv_aload_n (pc := 20) dD_targetOf_20 (by rfl) ?_
    refine tv_getI (pc := 21) 1 tb_56 (by rfl) uwD_ (by decide) wm_663 (by rfl) dD_targetOf_21 ?_
    refine tv_icmp_le (pc := 24) 34 dD_targetOf_24 (by decide) (fun h24 => ?_) (fun h24 => ?_)
    · skip
      refine tv_aload_n (pc := 34) dD_targetOf_34 (by rfl) ?_
      refine tv_getR (pc := 35) 4 tb_56 (by rfl) uwD_ (by decide) wm_666 (by rfl) dD_targetOf_35 ?_
      refine tv_iload_n (pc := 38) dD_targetOf_38 (by rfl) ?_
      refine tv_iald (pc := 39) tb_59 (by assumption) dD_targetOf_39 ?_
      exact tv_iret (pc := 40) dD_targetOf_40 rfl (Nat.le_refl _) (Nat.le_refl _) (by
      have k4 : pm u 0 0 i = 4 := by rw [e0]; assumption
      obtain ⟨a, ha, ea⟩ := h4 k4
      have ea2 : u 59 i = nI a := e2 ▸ ea
      refine ⟨?_, rfl⟩
      unfold tp_tg
      rw [if_pos k4, ea, show tp_n (nI a) = a from nI_clamp (by omega)]
      first
        | (have h : ¬ u 59 i ≤ u 56 1 := by assumption
           rw [hs, ea2, nI_leI (by omega) (by omega)] at h
           rw [hs, if_neg (by omega)])
        | (have h : u 59 i ≤ u 56 1 := by assumption
           rw [hs, ea2, nI_leI (by omega) (by omega)] at h
           rw [ea2]
           by_cases q : a < n
           · rw [if_pos q]
           · rw [if_neg q, show a = n by omega]))
    · skip
      refine tv_aload_n (pc := 27) dD_targetOf_27 (by rfl) ?_
      refine tv_getI (pc := 28) 1 tb_56 (by rfl) uwD_ (by decide) wm_663 (by rfl) dD_targetOf_28 ?_
      refine tv_goto (pc := 31) 40 dD_targetOf_31 (by decide) ?_
      exact tv_iret (pc := 40) dD_targetOf_40 rfl (Nat.le_refl _) (Nat.le_refl _) (by
      have k4 : pm u 0 0 i = 4 := by rw [e0]; assumption
      obtain ⟨a, ha, ea⟩ := h4 k4
      have ea2 : u 59 i = nI a := e2 ▸ ea
      refine ⟨?_, rfl⟩
      unfold tp_tg
      rw [if_pos k4, ea, show tp_n (nI a) = a from nI_clamp (by omega)]
      first
        | (have h : ¬ u 59 i ≤ u 56 1 := by assumption
           rw [hs, ea2, nI_leI (by omega) (by omega)] at h
           rw [hs, if_neg (by omega)])
        | (have h : u 59 i ≤ u 56 1 := by assumption
           rw [hs, ea2, nI_leI (by omega) (by omega)] at h
           rw [ea2]
           by_cases q : a < n
           · rw [if_pos q]
           · rw [if_neg q, show a = n by omega]))
  · skip
    refine tv_iload_n (pc := 10) dD_targetOf_10 (by rfl) ?_
    refine tv_iconst (v := 1) (pc := 11) dD_targetOf_11 (by decide) ?_
    refine tv_iadd (pc := 12) dD_targetOf_12 ?_
    exact tv_iret (pc := 13) dD_targetOf_13 rfl (Nat.le_refl _) (Nat.le_refl _) ⟨by unfold tp_tg; rw [if_neg (by rw [e0]; assumption), nI_1], rfl⟩
/-- a node is met -/
def sd_meet (x k : Nat) (u : tc_S) : tc_S := if u 66 x = 0 then tc_up (tc_up (tc_up u 66 x 1) 67 k (nI x)) 56 14 (nI (k + 1)) else u
set_option maxRecDepth 100000 in
set_option maxHeartbeats 4000000 in
theorem c_D_meet (l : Launch) (G : tc_G) (u : tc_S) {x k : Nat} (hx : x < 34) (hk : u 56 14 = nI k) (hk34 : u 66 x = 0 → k < 34) : tc_C tcx G l yD_meet wD_meet r0D_meet 0 0 [.ref (tc_ad G 56), .int (nI x)] u (tc_Kv (sd_meet x k u)) := by
  refine tw_ofV (own := "TracedCodeModel") [some (.ref (tc_ad G 56)), some (.int (nI x))] (by decide +kernel) rfl (Nat.le_of_ble_eq_true rfl) (by rfl) (fun p e s m args below meth c => ?_)
  have i34 : tc_ix (nI x) 34 x := tc_ixN hx (by decide)
  have e1 : tc_up u 66 x 1 56 14 = nI k := by rw [tc_up_ne (by decide)]; exact hk
  have e2 : tc_up (tc_up u 66 x 1) 67 k (nI x) 56 14 = nI k := by rw [tc_up_ne (by decide)]; exact e1
  refine tv_aload_n (pc := 0) dD_meet_0 (by rfl) ?_
  refine tv_getR (pc := 1) 12 tb_56 (by rfl) uwD_ (by decide) wm_674 (by rfl) dD_meet_1 ?_
  refine tv_iload_n (pc := 4) dD_meet_4 (by rfl) ?_
  refine tv_zald (pc := 5) tb_66 (by assumption) dD_meet_5 ?_
  refine tv_if_ne (pc := 6) 36 dD_meet_6 (by decide) (fun h6 => ?_) (fun h6 => ?_)
  · skip
    exact tv_vret (pc := 36) dD_meet_36 rfl (Nat.le_refl _) (Nat.le_refl _) (by first | (have h0 : u 66 x = 0 := (by assumption); exact ⟨rfl, by unfold sd_meet; rw [if_pos h0]⟩) | (have h0 : ¬ u 66 x = 0 := (by assumption); exact ⟨rfl, by unfold sd_meet; rw [if_neg h0]⟩))
  · skip
    have h0 : u 66 x = 0 := by assumption
    have k34 : tc_ix (nI k) 34 k := tc_ixN (hk34 h0) (by decide)
    refine tv_aload_n (pc := 9) dD_meet_9 (by rfl) ?_
    refine tv_getR (pc := 10) 12 tb_56 (by rfl) uwD_ (by decide) wm_674 (by rfl) dD_meet_10 ?_
    refine tv_iload_n (pc := 13) dD_meet_13 (by rfl) ?_
    refine tv_iconst (v := 1) (pc := 14) dD_meet_14 (by decide) ?_
    refine tv_zast (pc := 15) tb_66 (by assumption) (by rfl) dD_meet_15 ?_
    refine tv_aload_n (pc := 16) dD_meet_16 (by rfl) ?_
    refine tv_getR (pc := 17) 13 tb_56 (by rfl) uwD_ (by decide) wm_675 (by rfl) dD_meet_17 ?_
    refine tv_aload_n (pc := 20) dD_meet_20 (by rfl) ?_
    refine tv_getI (pc := 21) 14 tb_56 (by rfl) uwD_ (by decide) wm_676 (by rfl) dD_meet_21 ?_
    rw [e1]
    refine tv_iload_n (pc := 24) dD_meet_24 (by rfl) ?_
    refine tv_iast (pc := 25) tb_67 (by assumption) dD_meet_25 ?_
    refine tv_aload_n (pc := 26) dD_meet_26 (by rfl) ?_
    refine tv_dup (pc := 27) dD_meet_27 (by rfl) ?_
    refine tv_getI (pc := 28) 14 tb_56 (by rfl) uwD_ (by decide) wm_676 (by rfl) dD_meet_28 ?_
    rw [e2]
    refine tv_iconst (v := 1) (pc := 31) dD_meet_31 (by decide) ?_
    refine tv_iadd (pc := 32) dD_meet_32 ?_
    rw [nI_1]
    refine tv_putI (ty := .int) (pc := 33) 14 tyD_ tb_56 (by rfl) uwD_ (by decide) wm_676 okD_ nmD_ (by rfl) (by decide +kernel) (by rfl) (by rfl) (by rfl) dD_meet_33 ?_
    exact tv_vret (pc := 36) dD_meet_36 rfl (Nat.le_refl _) (Nat.le_refl _) (by first | (have h0 : u 66 x = 0 := (by assumption); exact ⟨rfl, by unfold sd_meet; rw [if_pos h0]⟩) | (have h0 : ¬ u 66 x = 0 := (by assumption); exact ⟨rfl, by unfold sd_meet; rw [if_neg h0]⟩))
set_option maxRecDepth 100000 in
set_option maxHeartbeats 4000000 in
theorem c_D_forget (l : Launch) (G : tc_G) (u : tc_S)  : tc_C tcx G l yD_forget wD_forget r0D_forget 0 0 [.ref (tc_ad G 56)] u (tc_Kv (tc_up (tc_row u 66 (fun _ => 0) 34) 56 14 0)) := by
  refine tw_ofV (own := "TracedCodeModel") [some (.ref (tc_ad G 56)), none] (by decide +kernel) rfl (Nat.le_of_ble_eq_true rfl) (by rfl) (fun p e s m args below meth c => ?_)
  have loop : tc_V tcx G p l e r0D_forget s m args below meth c bD_forget 2 tw "TracedCodeModel" none [] (MQ below (tc_Qc tcx G (tc_Kv (tc_up (tc_row u 66 (fun _ => 0) 34) 56 14 0)) s.heap.size) args s 0 0 (tc_A tcx G s.heap.size)) 0 0 (tc_row u 66 (fun _ => 0) 0) 2 [some (.ref (tc_ad G 56)), some (.int (nI 0))] [] := by
    refine tv_down (P := fun i => tc_V tcx G p l e r0D_forget s m args below meth c bD_forget 2 tw "TracedCodeModel" none [] (MQ below (tc_Qc tcx G (tc_Kv (tc_up (tc_row u 66 (fun _ => 0) 34) 56 14 0)) s.heap.size) args s 0 0 (tc_A tcx G s.heap.size)) 0 0 (tc_row u 66 (fun _ => 0) i) 2 [some (.ref (tc_ad G 56)), some (.int (nI i))] []) 34 ?_ ?_
    · skip
      refine tv_iload_n (pc := 2) dD_forget_2 (by rfl) ?_
      refine tv_bipush (v := 34) (pc := 3) dD_forget_3 (by decide) ?_
      refine tv_icmp_ge (pc := 5) 21 dD_forget_5 (by decide) (fun _ => ?_) (fun h => absurd (by decide) h)
      refine tv_aload_n (pc := 21) dD_forget_21 (by rfl) ?_
      refine tv_iconst (v := 0) (pc := 22) dD_forget_22 (by decide) ?_
      refine tv_putI (ty := .int) (pc := 23) 14 tyD_ tb_56 (by rfl) uwD_ (by decide) wm_676 okD_ nmD_ (by rfl) (by decide +kernel) (by rfl) (by rfl) (by rfl) dD_forget_23 ?_
      exact tv_vret (pc := 26) dD_forget_26 rfl (Nat.le_refl _) (Nat.le_refl _) ⟨rfl, rfl⟩
    · intro i hiN ih
      have hi34 : tc_ix (nI i) 34 i := tc_ixN hiN (by decide)
      rw [← tc_row_s (i := i) (f := fun _ => 0), ← nI_1] at ih
      refine tv_iload_n (pc := 2) dD_forget_2 (by rfl) ?_
      refine tv_bipush (v := 34) (pc := 3) dD_forget_3 (by decide) ?_
      refine tv_icmp_ge (pc := 5) 21 dD_forget_5 (by decide) (fun h => absurd h (nI_ge (b := 34) hiN (by decide))) (fun _ => ?_)
      refine tv_aload_n (pc := 8) dD_forget_8 (by rfl) ?_
      refine tv_getR (pc := 9) 12 tb_56 (by rfl) uwD_ (by decide) wm_674 (by rfl) dD_forget_9 ?_
      refine tv_iload_n (pc := 12) dD_forget_12 (by rfl) ?_
      refine tv_iconst (v := 0) (pc := 13) dD_forget_13 (by decide) ?_
      refine tv_zast (pc := 14) tb_66 hi34 (by rfl) dD_forget_14 ?_
      refine tv_iinc1 (v := 1) (pc := 15) dD_forget_15 (by decide) (by rfl) ?_
      refine tv_goto (pc := 18) 2 dD_forget_18 (by decide) ?_
      exact ih
  rw [tc_row_0] at loop
  refine tv_iconst (v := 0) (pc := 0) dD_forget_0 (by decide) ?_
  refine tv_istore1 (pc := 1) dD_forget_1 (by rfl) ?_
  exact loop
