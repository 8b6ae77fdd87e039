theorem le3 {x : Int32} : ¬ x ≤ 3 ↔ 4 ≤ x := by
  rw [Int32.le_iff_toInt_le, Int32.le_iff_toInt_le, show (3 : Int32).toInt = 3 from rfl, show (4 : Int32).toInt = 4 from rfl]; omega
theorem le2 {x : Int32} : ¬ x ≤ 2 ↔ 3 ≤ x := by
  rw [Int32.le_iff_toInt_le, Int32.le_iff_toInt_le, show (2 : Int32).toInt = 2 from rfl, show (3 : Int32).toInt = 3 from rfl]; omega
theorem gtn {x : Int32} {n : Nat} (hn : n ≤ 16) : nI n < x ↔ nI (n + 1) ≤ x := by
  rw [Int32.lt_iff_toInt_lt, Int32.le_iff_toInt_le, nI_toInt (by omega), nI_toInt (by omega)]; omega
theorem ltn {x y : Int32} : ¬ x < y ↔ y ≤ x := by
  rw [Int32.lt_iff_toInt_lt, Int32.le_iff_toInt_le]; omega
set_option maxRecDepth 100000 in
set_option maxHeartbeats 4000000 in
theorem c_D_keptM (l : Launch) (G : tc_G) (u : tc_S) (hm : u 56 6 = 0)  : tc_C tcx G l yD_kept wD_kept r0D_kept 0 0 [.ref (tc_ad G 56)] u (tc_Ki 0 (tc_up u 56 0 1)) := by
  refine tw_ofV (own := "TracedCodeModel") [some (.ref (tc_ad G 56)), none, none] (by decide +kernel) rfl (Nat.le_of_ble_eq_true rfl) (by rfl) (fun p e s m args below meth c => ?_)
  have e6 : (tc_up u 56 0 1) 56 6 = 0 := by rw [tc_up_at (by decide)]; exact hm
  refine tv_aload_n (pc := 0) dD_kept_0 (by rfl) ?_
  refine tv_aload_n (pc := 1) dD_kept_1 (by rfl) ?_
  refine tv_getI (pc := 2) 6 tb_56 (by rfl) uwD_ (by decide) wm_668 (by rfl) dD_kept_2 ?_
  refine tv_if_eq (pc := 5) 12 dD_kept_5 (by decide) (fun _ => ?_) (fun h => absurd hm h)
  refine tv_iconst (v := 1) (pc := 12) dD_kept_12 (by decide) ?_
  refine tv_putI (ty := .int) (pc := 13) 0 tyD_ tb_56 (by rfl) uwD_ (by decide) wm_662 okD_ nmD_ (by rfl) (by decide +kernel) (by rfl) (by rfl) (by rfl) dD_kept_13 ?_
  refine tv_iconst (v := 0) (pc := 16) dD_kept_16 (by decide) ?_
  refine tv_istore1 (pc := 17) dD_kept_17 (by rfl) ?_
  refine tv_iconst (v := 0) (pc := 18) dD_kept_18 (by decide) ?_
  refine tv_istore2 (pc := 19) dD_kept_19 (by rfl) ?_
  refine tv_iload_n (pc := 20) dD_kept_20 (by rfl) ?_
  refine tv_aload_n (pc := 21) dD_kept_21 (by rfl) ?_
  refine tv_getI (pc := 22) 1 tb_56 (by rfl) uwD_ (by decide) wm_663 (by rfl) dD_kept_22 ?_
  refine tv_icmp_ge (pc := 25) 62 dD_kept_25 (by decide) (fun _ => ?_) (fun _ => ?_)
  · refine tv_iload_n (pc := 62) dD_kept_62 (by rfl) ?_
    exact tv_iret (pc := 63) dD_kept_63 rfl (Nat.le_refl _) (Nat.le_refl _) ⟨rfl, rfl⟩
  · refine tv_aload_n (pc := 28) dD_kept_28 (by rfl) ?_
    refine tv_getI (pc := 29) 6 tb_56 (by rfl) uwD_ (by decide) wm_668 (by rfl) dD_kept_29 ?_
    refine tv_if_eq (pc := 32) 62 dD_kept_32 (by decide) (fun _ => ?_) (fun h => absurd e6 h)
    refine tv_iload_n (pc := 62) dD_kept_62 (by rfl) ?_
    exact tv_iret (pc := 63) dD_kept_63 rfl (Nat.le_refl _) (Nat.le_refl _) ⟨rfl, rfl⟩
set_option maxRecDepth 100000 in
set_option maxHeartbeats 4000000 in
theorem c_D_kept (l : Launch) (G : tc_G) (u : tc_S) (hm : u 56 6 = 1) {n : Nat} (hs : u 56 1 = nI n) (hn : n ≤ 16) : tc_C tcx G l yD_kept wD_kept r0D_kept 0 0 [.ref (tc_ad G 56)] u (tc_Ki (nI (tp_cn (pm u 16) n)) (tc_up u 56 0 0)) := by
  refine tw_ofV (own := "TracedCodeModel") [some (.ref (tc_ad G 56)), none, none] (by decide +kernel) rfl (Nat.le_of_ble_eq_true rfl) (by rfl) (fun p e s m args below meth c => ?_)
  have e6 : (tc_up u 56 0 0) 56 6 = 1 := by rw [tc_up_at (by decide)]; exact hm
  have e1 : (tc_up u 56 0 0) 56 1 = nI n := by rw [tc_up_at (by decide)]; exact hs
  have loop : tc_V tcx G p l e r0D_kept s m args below meth c bD_kept 3 tw "TracedCodeModel" (some .int) [] (MQ below (tc_Qc tcx G (tc_Ki (nI (tp_cn (pm u 16) n)) (tc_up u 56 0 0)) s.heap.size) args s 0 0 (tc_A tcx G s.heap.size)) 0 0 (tc_up u 56 0 0) 20 [some (.ref (tc_ad G 56)), some (.int (nI (tp_cn (pm u 16) 0))), some (.int (nI 0))] [] := by
    refine tv_down (P := fun i => tc_V tcx G p l e r0D_kept s m args below meth c bD_kept 3 tw "TracedCodeModel" (some .int) [] (MQ below (tc_Qc tcx G (tc_Ki (nI (tp_cn (pm u 16) n)) (tc_up u 56 0 0)) s.heap.size) args s 0 0 (tc_A tcx G s.heap.size)) 0 0 (tc_up u 56 0 0) 20 [some (.ref (tc_ad G 56)), some (.int (nI (tp_cn (pm u 16) i))), some (.int (nI i))] []) n ?_ ?_
    · skip
      refine tv_iload_n (pc := 20) dD_kept_20 (by rfl) ?_
      refine tv_aload_n (pc := 21) dD_kept_21 (by rfl) ?_
      refine tv_getI (pc := 22) 1 tb_56 (by rfl) uwD_ (by decide) wm_663 (by rfl) dD_kept_22 ?_
      refine tv_icmp_ge (pc := 25) 62 dD_kept_25 (by decide) (fun _ => ?_) (fun h => absurd (by rw [e1]; exact Int32.le_refl _) h)
      refine tv_iload_n (pc := 62) dD_kept_62 (by rfl) ?_
      exact tv_iret (pc := 63) dD_kept_63 rfl (Nat.le_refl _) (Nat.le_refl _) ⟨rfl, rfl⟩
    · intro i hi ih
      have i32 : tc_ix (16 + nI i) 32 (16 + i) := ix16 (by omega)
      have ek : (tc_up u 56 0 0) 57 (16 + i) = pm u 16 0 i := by rw [tc_up_ne (by decide), pm_of (by decide)]
      rw [tp_cn_s, ← nI_1 i] at ih
      refine tv_iload_n (pc := 20) dD_kept_20 (by rfl) ?_
      refine tv_aload_n (pc := 21) dD_kept_21 (by rfl) ?_
      refine tv_getI (pc := 22) 1 tb_56 (by rfl) uwD_ (by decide) wm_663 (by rfl) dD_kept_22 ?_
      refine tv_icmp_ge (pc := 25) 62 dD_kept_25 (by decide) (fun h => absurd h (by rw [e1]; exact nI_ge hi (by omega))) (fun _ => ?_)
      refine tv_aload_n (pc := 28) dD_kept_28 (by rfl) ?_
      refine tv_getI (pc := 29) 6 tb_56 (by rfl) uwD_ (by decide) wm_668 (by rfl) dD_kept_29 ?_
      refine tv_if_eq (pc := 32) 62 dD_kept_32 (by decide) (fun h => absurd h (by rw [e6]; decide)) (fun _ => ?_)
      refine tv_aload_n (pc := 35) dD_kept_35 (by rfl) ?_
      refine tv_getR (pc := 36) 2 tb_56 (by rfl) uwD_ (by decide) wm_664 (by rfl) dD_kept_36 ?_
      refine tv_bipush (v := 16) (pc := 39) dD_kept_39 (by decide) ?_
      refine tv_iload_n (pc := 41) dD_kept_41 (by rfl) ?_
      refine tv_iadd (pc := 42) dD_kept_42 ?_
      refine tv_iald (pc := 43) tb_57 (by assumption) dD_kept_43 ?_
      rw [ek]
      refine tv_iconst (v := (-1)) (pc := 44) dD_kept_44 (by decide) ?_
      refine tv_icmp_ne (pc := 45) 52 dD_kept_45 (by decide) (fun h45 => ?_) (fun h45 => ?_)
      · skip
        refine tv_iload_n (pc := 52) dD_kept_52 (by rfl) ?_
        refine tv_iconst (v := 1) (pc := 53) dD_kept_53 (by decide) ?_
        refine tv_iadd (pc := 54) dD_kept_54 ?_
        first
        | (have hx : pm u 16 0 i = -1 := (by assumption)
           rw [if_pos hx] at ih)
        | (have hx : ¬ pm u 16 0 i = -1 := (by assumption)
           rw [if_neg hx, ← nI_1 (tp_cn (pm u 16) i)] at ih)
        refine tv_istore1 (pc := 55) dD_kept_55 (by rfl) ?_
        refine tv_iinc2 (v := 1) (pc := 56) dD_kept_56 (by decide) (by rfl) ?_
        refine tv_goto (pc := 59) 20 dD_kept_59 (by decide) ?_
        exact ih
      · skip
        refine tv_iload_n (pc := 48) dD_kept_48 (by rfl) ?_
        refine tv_goto (pc := 49) 55 dD_kept_49 (by decide) ?_
        first
        | (have hx : pm u 16 0 i = -1 := (by assumption)
           rw [if_pos hx] at ih)
        | (have hx : ¬ pm u 16 0 i = -1 := (by assumption)
           rw [if_neg hx, ← nI_1 (tp_cn (pm u 16) i)] at ih)
        refine tv_istore1 (pc := 55) dD_kept_55 (by rfl) ?_
        refine tv_iinc2 (v := 1) (pc := 56) dD_kept_56 (by decide) (by rfl) ?_
        refine tv_goto (pc := 59) 20 dD_kept_59 (by decide) ?_
        exact ih
  refine tv_aload_n (pc := 0) dD_kept_0 (by rfl) ?_
  refine tv_aload_n (pc := 1) dD_kept_1 (by rfl) ?_
  refine tv_getI (pc := 2) 6 tb_56 (by rfl) uwD_ (by decide) wm_668 (by rfl) dD_kept_2 ?_
  refine tv_if_eq (pc := 5) 12 dD_kept_5 (by decide) (fun h => absurd h (by rw [hm]; decide)) (fun _ => ?_)
  refine tv_iconst (v := 0) (pc := 8) dD_kept_8 (by decide) ?_
  refine tv_goto (pc := 9) 13 dD_kept_9 (by decide) ?_
  refine tv_putI (ty := .int) (pc := 13) 0 tyD_ tb_56 (by rfl) uwD_ (by decide) wm_662 okD_ nmD_ (by rfl) (by decide +kernel) (by rfl) (by rfl) (by rfl) dD_kept_13 ?_
  refine tv_iconst (v := 0) (pc := 16) dD_kept_16 (by decide) ?_
  refine tv_istore1 (pc := 17) dD_kept_17 (by rfl) ?_
  refine tv_iconst (v := 0) (pc := 18) dD_kept_18 (by decide) ?_
  refine tv_istore2 (pc := 19) dD_kept_19 (by rfl) ?_
  exact loop
set_option maxRecDepth 100000 in
set_option maxHeartbeats 4000000 in
theorem c_D_partM (l : Launch) (G : tc_G) (u : tc_S) (hm : u 56 6 = 0) (x y : Int32) : tc_C tcx G l yD_part wD_part r0D_part 0 0 [.ref (tc_ad G 56), .int x, .int y] u (tc_Ki 0 (tc_up u 56 0 1)) := by
  refine tw_ofV (own := "TracedCodeModel") [some (.ref (tc_ad G 56)), some (.int x), some (.int y), none] (by decide +kernel) rfl (Nat.le_of_ble_eq_true rfl) (by rfl) (fun p e s m args below meth c => ?_)
  refine tv_aload_n (pc := 0) dD_part_0 (by rfl) ?_
  refine tv_aload_n (pc := 1) dD_part_1 (by rfl) ?_
  refine tv_getI (pc := 2) 6 tb_56 (by rfl) uwD_ (by decide) wm_668 (by rfl) dD_part_2 ?_
  refine tv_if_ne (pc := 5) 12 dD_part_5 (by decide) (fun h => absurd h (fun z => z hm)) (fun _ => ?_)
  refine tv_iconst (v := 1) (pc := 8) dD_part_8 (by decide) ?_
  refine tv_goto (pc := 9) 38 dD_part_9 (by decide) ?_
  refine tv_putI (ty := .int) (pc := 38) 0 tyD_ tb_56 (by rfl) uwD_ (by decide) wm_662 okD_ nmD_ (by rfl) (by decide +kernel) (by rfl) (by rfl) (by rfl) dD_part_38 ?_
  refine tv_aload_n (pc := 41) dD_part_41 (by rfl) ?_
  refine tv_getI (pc := 42) 0 tb_56 (by rfl) uwD_ (by decide) wm_662 (by rfl) dD_part_42 ?_
  refine tv_if_le (pc := 45) 50 dD_part_45 (by decide) (fun h => absurd h (by rw [tc_up_self]; decide)) (fun _ => ?_)
  refine tv_iconst (v := 0) (pc := 48) dD_part_48 (by decide) ?_
  exact tv_iret (pc := 49) dD_part_49 rfl (Nat.le_refl _) (Nat.le_refl _) ⟨rfl, rfl⟩
set_option maxRecDepth 100000 in
set_option maxHeartbeats 4000000 in
theorem c_D_part2 (l : Launch) (G : tc_G) (u : tc_S) (hm : u 56 6 = 1) {n : Nat} (hs : u 56 1 = nI n) (x y : Int32) (ho : ¬ ((¬ x < 0 ∧ ¬ nI n ≤ x) ∧ (¬ y < 0 ∧ ¬ 4 ≤ y))) : tc_C tcx G l yD_part wD_part r0D_part 0 0 [.ref (tc_ad G 56), .int x, .int y] u (tc_Ki 0 (tc_up u 56 0 2)) := by
  refine tw_ofV (own := "TracedCodeModel") [some (.ref (tc_ad G 56)), some (.int x), some (.int y), none] (by decide +kernel) rfl (Nat.le_of_ble_eq_true rfl) (by rfl) (fun p e s m args below meth c => ?_)
  refine tv_aload_n (pc := 0) dD_part_0 (by rfl) ?_
  refine tv_aload_n (pc := 1) dD_part_1 (by rfl) ?_
  refine tv_getI (pc := 2) 6 tb_56 (by rfl) uwD_ (by decide) wm_668 (by rfl) dD_part_2 ?_
  refine tv_if_ne (pc := 5) 12 dD_part_5 (by decide) (fun _ => ?_) (fun h => absurd h (by rw [hm]; decide))
  refine tv_iload_n (pc := 12) dD_part_12 (by rfl) ?_
  refine tv_if_lt (pc := 13) 33 dD_part_13 (by decide) (fun h13 => ?_) (fun h13 => ?_)
  · skip
    refine tv_iconst (v := 2) (pc := 33) dD_part_33 (by decide) ?_
    refine tv_goto (pc := 34) 38 dD_part_34 (by decide) ?_
    refine tv_putI (ty := .int) (pc := 38) 0 tyD_ tb_56 (by rfl) uwD_ (by decide) wm_662 okD_ nmD_ (by rfl) (by decide +kernel) (by rfl) (by rfl) (by rfl) dD_part_38 ?_
    refine tv_aload_n (pc := 41) dD_part_41 (by rfl) ?_
    refine tv_getI (pc := 42) 0 tb_56 (by rfl) uwD_ (by decide) wm_662 (by rfl) dD_part_42 ?_
    refine tv_if_le (pc := 45) 50 dD_part_45 (by decide) (fun h => absurd h (by rw [tc_up_self]; decide)) (fun _ => ?_)
    refine tv_iconst (v := 0) (pc := 48) dD_part_48 (by decide) ?_
    exact tv_iret (pc := 49) dD_part_49 rfl (Nat.le_refl _) (Nat.le_refl _) ⟨rfl, rfl⟩
  · skip
    refine tv_iload_n (pc := 16) dD_part_16 (by rfl) ?_
    refine tv_aload_n (pc := 17) dD_part_17 (by rfl) ?_
    refine tv_getI (pc := 18) 1 tb_56 (by rfl) uwD_ (by decide) wm_663 (by rfl) dD_part_18 ?_
    rw [hs]
    refine tv_icmp_ge (pc := 21) 33 dD_part_21 (by decide) (fun h21 => ?_) (fun h21 => ?_)
    · skip
      refine tv_iconst (v := 2) (pc := 33) dD_part_33 (by decide) ?_
      refine tv_goto (pc := 34) 38 dD_part_34 (by decide) ?_
      refine tv_putI (ty := .int) (pc := 38) 0 tyD_ tb_56 (by rfl) uwD_ (by decide) wm_662 okD_ nmD_ (by rfl) (by decide +kernel) (by rfl) (by rfl) (by rfl) dD_part_38 ?_
      refine tv_aload_n (pc := 41) dD_part_41 (by rfl) ?_
      refine tv_getI (pc := 42) 0 tb_56 (by rfl) uwD_ (by decide) wm_662 (by rfl) dD_part_42 ?_
      refine tv_if_le (pc := 45) 50 dD_part_45 (by decide) (fun h => absurd h (by rw [tc_up_self]; decide)) (fun _ => ?_)
      refine tv_iconst (v := 0) (pc := 48) dD_part_48 (by decide) ?_
      exact tv_iret (pc := 49) dD_part_49 rfl (Nat.le_refl _) (Nat.le_refl _) ⟨rfl, rfl⟩
    · skip
      refine tv_iload_n (pc := 24) dD_part_24 (by rfl) ?_
      refine tv_if_lt (pc := 25) 33 dD_part_25 (by decide) (fun h25 => ?_) (fun h25 => ?_)
      · skip
        refine tv_iconst (v := 2) (pc := 33) dD_part_33 (by decide) ?_
        refine tv_goto (pc := 34) 38 dD_part_34 (by decide) ?_
        refine tv_putI (ty := .int) (pc := 38) 0 tyD_ tb_56 (by rfl) uwD_ (by decide) wm_662 okD_ nmD_ (by rfl) (by decide +kernel) (by rfl) (by rfl) (by rfl) dD_part_38 ?_
        refine tv_aload_n (pc := 41) dD_part_41 (by rfl) ?_
        refine tv_getI (pc := 42) 0 tb_56 (by rfl) uwD_ (by decide) wm_662 (by rfl) dD_part_42 ?_
        refine tv_if_le (pc := 45) 50 dD_part_45 (by decide) (fun h => absurd h (by rw [tc_up_self]; decide)) (fun _ => ?_)
        refine tv_iconst (v := 0) (pc := 48) dD_part_48 (by decide) ?_
        exact tv_iret (pc := 49) dD_part_49 rfl (Nat.le_refl _) (Nat.le_refl _) ⟨rfl, rfl⟩
      · skip
        refine tv_iload_n (pc := 28) dD_part_28 (by rfl) ?_
        refine tv_iconst (v := 3) (pc := 29) dD_part_29 (by decide) ?_
        refine tv_icmp_le (pc := 30) 37 dD_part_30 (by decide) (fun h30 => ?_) (fun h30 => ?_)
        · skip
          exact absurd ⟨⟨by assumption, by assumption⟩, by assumption, fun z => absurd (by assumption) (le3.mpr z)⟩ ho
        · skip
          refine tv_iconst (v := 2) (pc := 33) dD_part_33 (by decide) ?_
          refine tv_goto (pc := 34) 38 dD_part_34 (by decide) ?_
          refine tv_putI (ty := .int) (pc := 38) 0 tyD_ tb_56 (by rfl) uwD_ (by decide) wm_662 okD_ nmD_ (by rfl) (by decide +kernel) (by rfl) (by rfl) (by rfl) dD_part_38 ?_
          refine tv_aload_n (pc := 41) dD_part_41 (by rfl) ?_
          refine tv_getI (pc := 42) 0 tb_56 (by rfl) uwD_ (by decide) wm_662 (by rfl) dD_part_42 ?_
          refine tv_if_le (pc := 45) 50 dD_part_45 (by decide) (fun h => absurd h (by rw [tc_up_self]; decide)) (fun _ => ?_)
          refine tv_iconst (v := 0) (pc := 48) dD_part_48 (by decide) ?_
          exact tv_iret (pc := 49) dD_part_49 rfl (Nat.le_refl _) (Nat.le_refl _) ⟨rfl, rfl⟩
set_option maxRecDepth 100000 in
set_option maxHeartbeats 4000000 in
theorem c_D_part (l : Launch) (G : tc_G) (u : tc_S) (hm : u 56 6 = 1) {n : Nat} (hs : u 56 1 = nI n) (hn : n ≤ 16) {i j : Nat} (hi : i < n) (hj : j < 4) : tc_C tcx G l yD_part wD_part r0D_part 0 0 [.ref (tc_ad G 56), .int (nI i), .int (nI j)] u (tc_Ki (pm u 16 j i) (tc_up u 56 0 0)) := by
  refine tw_ofV (own := "TracedCodeModel") [some (.ref (tc_ad G 56)), some (.int (nI i)), some (.int (nI j)), none] (by decide +kernel) rfl (Nat.le_of_ble_eq_true rfl) (by rfl) (fun p e s m args below meth c => ?_)
  have i32 : tc_ix (16 + nI i) 32 (16 + i) := ix16 (by omega)
  have hj4 : j = 0 ∨ j = 1 ∨ j = 2 ∨ j = 3 := by omega
  rcases hj4 with rfl | rfl | rfl | rfl
  · skip
    refine tv_aload_n (pc := 0) dD_part_0 (by rfl) ?_
    refine tv_aload_n (pc := 1) dD_part_1 (by rfl) ?_
    refine tv_getI (pc := 2) 6 tb_56 (by rfl) uwD_ (by decide) wm_668 (by rfl) dD_part_2 ?_
    refine tv_if_ne (pc := 5) 12 dD_part_5 (by decide) (fun _ => ?_) (fun h => absurd h (by rw [hm]; decide))
    refine tv_iload_n (pc := 12) dD_part_12 (by rfl) ?_
    refine tv_if_lt (pc := 13) 33 dD_part_13 (by decide) (fun h => absurd h (nI_pos (by omega))) (fun _ => ?_)
    refine tv_iload_n (pc := 16) dD_part_16 (by rfl) ?_
    refine tv_aload_n (pc := 17) dD_part_17 (by rfl) ?_
    refine tv_getI (pc := 18) 1 tb_56 (by rfl) uwD_ (by decide) wm_663 (by rfl) dD_part_18 ?_
    refine tv_icmp_ge (pc := 21) 33 dD_part_21 (by decide) (fun h => absurd h (by rw [hs]; exact nI_ge hi (by omega))) (fun _ => ?_)
    refine tv_iload_n (pc := 24) dD_part_24 (by rfl) ?_
    refine tv_if_lt (pc := 25) 33 dD_part_25 (by decide) (fun h => absurd h (nI_pos (by omega))) (fun _ => ?_)
    refine tv_iload_n (pc := 28) dD_part_28 (by rfl) ?_
    refine tv_iconst (v := 3) (pc := 29) dD_part_29 (by decide) ?_
    refine tv_icmp_le (pc := 30) 37 dD_part_30 (by decide) (fun _ => ?_) (fun h => absurd (nI_le (b := 3) (by omega) (by decide)) h)
    refine tv_iconst (v := 0) (pc := 37) dD_part_37 (by decide) ?_
    refine tv_putI (ty := .int) (pc := 38) 0 tyD_ tb_56 (by rfl) uwD_ (by decide) wm_662 okD_ nmD_ (by rfl) (by decide +kernel) (by rfl) (by rfl) (by rfl) dD_part_38 ?_
    refine tv_aload_n (pc := 41) dD_part_41 (by rfl) ?_
    refine tv_getI (pc := 42) 0 tb_56 (by rfl) uwD_ (by decide) wm_662 (by rfl) dD_part_42 ?_
    refine tv_if_le (pc := 45) 50 dD_part_45 (by decide) (fun _ => ?_) (fun h => absurd (by rw [tc_up_self]; decide) h)
    refine tv_bipush (v := 16) (pc := 50) dD_part_50 (by decide) ?_
    refine tv_iload_n (pc := 52) dD_part_52 (by rfl) ?_
    refine tv_iadd (pc := 53) dD_part_53 ?_
    refine tv_istore3 (pc := 54) dD_part_54 (by rfl) ?_
    refine tv_iload_n (pc := 55) dD_part_55 (by rfl) ?_
    refine tv_if_ne (pc := 56) 68 dD_part_56 (by decide) (fun h => absurd h (fun z => z rfl)) (fun _ => ?_)
    refine tv_aload_n (pc := 59) dD_part_59 (by rfl) ?_
    refine tv_getR (pc := 60) 2 tb_56 (by rfl) uwD_ (by decide) wm_664 (by rfl) dD_part_60 ?_
    refine tv_iload_n (pc := 63) dD_part_63 (by rfl) ?_
    refine tv_iald (pc := 64) tb_57 (by assumption) dD_part_64 ?_
    refine tv_goto (pc := 65) 102 dD_part_65 (by decide) ?_
    exact tv_iret (pc := 102) dD_part_102 rfl (Nat.le_refl _) (Nat.le_refl _) ⟨by rw [tc_up_ne (by decide), pm_of (by decide)], rfl⟩
  · skip
    refine tv_aload_n (pc := 0) dD_part_0 (by rfl) ?_
    refine tv_aload_n (pc := 1) dD_part_1 (by rfl) ?_
    refine tv_getI (pc := 2) 6 tb_56 (by rfl) uwD_ (by decide) wm_668 (by rfl) dD_part_2 ?_
    refine tv_if_ne (pc := 5) 12 dD_part_5 (by decide) (fun _ => ?_) (fun h => absurd h (by rw [hm]; decide))
    refine tv_iload_n (pc := 12) dD_part_12 (by rfl) ?_
    refine tv_if_lt (pc := 13) 33 dD_part_13 (by decide) (fun h => absurd h (nI_pos (by omega))) (fun _ => ?_)
    refine tv_iload_n (pc := 16) dD_part_16 (by rfl) ?_
    refine tv_aload_n (pc := 17) dD_part_17 (by rfl) ?_
    refine tv_getI (pc := 18) 1 tb_56 (by rfl) uwD_ (by decide) wm_663 (by rfl) dD_part_18 ?_
    refine tv_icmp_ge (pc := 21) 33 dD_part_21 (by decide) (fun h => absurd h (by rw [hs]; exact nI_ge hi (by omega))) (fun _ => ?_)
    refine tv_iload_n (pc := 24) dD_part_24 (by rfl) ?_
    refine tv_if_lt (pc := 25) 33 dD_part_25 (by decide) (fun h => absurd h (nI_pos (by omega))) (fun _ => ?_)
    refine tv_iload_n (pc := 28) dD_part_28 (by rfl) ?_
    refine tv_iconst (v := 3) (pc := 29) dD_part_29 (by decide) ?_
    refine tv_icmp_le (pc := 30) 37 dD_part_30 (by decide) (fun _ => ?_) (fun h => absurd (nI_le (b := 3) (by omega) (by decide)) h)
    refine tv_iconst (v := 0) (pc := 37) dD_part_37 (by decide) ?_
    refine tv_putI (ty := .int) (pc := 38) 0 tyD_ tb_56 (by rfl) uwD_ (by decide) wm_662 okD_ nmD_ (by rfl) (by decide +kernel) (by rfl) (by rfl) (by rfl) dD_part_38 ?_
    refine tv_aload_n (pc := 41) dD_part_41 (by rfl) ?_
    refine tv_getI (pc := 42) 0 tb_56 (by rfl) uwD_ (by decide) wm_662 (by rfl) dD_part_42 ?_
    refine tv_if_le (pc := 45) 50 dD_part_45 (by decide) (fun _ => ?_) (fun h => absurd (by rw [tc_up_self]; decide) h)
    refine tv_bipush (v := 16) (pc := 50) dD_part_50 (by decide) ?_
    refine tv_iload_n (pc := 52) dD_part_52 (by rfl) ?_
    refine tv_iadd (pc := 53) dD_part_53 ?_
    refine tv_istore3 (pc := 54) dD_part_54 (by rfl) ?_
    refine tv_iload_n (pc := 55) dD_part_55 (by rfl) ?_
    refine tv_if_ne (pc := 56) 68 dD_part_56 (by decide) (fun _ => ?_) (fun h => absurd h (by decide))
    refine tv_iload_n (pc := 68) dD_part_68 (by rfl) ?_
    refine tv_iconst (v := 1) (pc := 69) dD_part_69 (by decide) ?_
    refine tv_icmp_ne (pc := 70) 82 dD_part_70 (by decide) (fun h => absurd h (fun z => z rfl)) (fun _ => ?_)
    refine tv_aload_n (pc := 73) dD_part_73 (by rfl) ?_
    refine tv_getR (pc := 74) 3 tb_56 (by rfl) uwD_ (by decide) wm_665 (by rfl) dD_part_74 ?_
    refine tv_iload_n (pc := 77) dD_part_77 (by rfl) ?_
    refine tv_iald (pc := 78) tb_58 (by assumption) dD_part_78 ?_
    refine tv_goto (pc := 79) 102 dD_part_79 (by decide) ?_
    exact tv_iret (pc := 102) dD_part_102 rfl (Nat.le_refl _) (Nat.le_refl _) ⟨by rw [tc_up_ne (by decide), pm_of (by decide)], rfl⟩
  · skip
    refine tv_aload_n (pc := 0) dD_part_0 (by rfl) ?_
    refine tv_aload_n (pc := 1) dD_part_1 (by rfl) ?_
    refine tv_getI (pc := 2) 6 tb_56 (by rfl) uwD_ (by decide) wm_668 (by rfl) dD_part_2 ?_
    refine tv_if_ne (pc := 5) 12 dD_part_5 (by decide) (fun _ => ?_) (fun h => absurd h (by rw [hm]; decide))
    refine tv_iload_n (pc := 12) dD_part_12 (by rfl) ?_
    refine tv_if_lt (pc := 13) 33 dD_part_13 (by decide) (fun h => absurd h (nI_pos (by omega))) (fun _ => ?_)
    refine tv_iload_n (pc := 16) dD_part_16 (by rfl) ?_
    refine tv_aload_n (pc := 17) dD_part_17 (by rfl) ?_
    refine tv_getI (pc := 18) 1 tb_56 (by rfl) uwD_ (by decide) wm_663 (by rfl) dD_part_18 ?_
    refine tv_icmp_ge (pc := 21) 33 dD_part_21 (by decide) (fun h => absurd h (by rw [hs]; exact nI_ge hi (by omega))) (fun _ => ?_)
    refine tv_iload_n (pc := 24) dD_part_24 (by rfl) ?_
    refine tv_if_lt (pc := 25) 33 dD_part_25 (by decide) (fun h => absurd h (nI_pos (by omega))) (fun _ => ?_)
    refine tv_iload_n (pc := 28) dD_part_28 (by rfl) ?_
    refine tv_iconst (v := 3) (pc := 29) dD_part_29 (by decide) ?_
    refine tv_icmp_le (pc := 30) 37 dD_part_30 (by decide) (fun _ => ?_) (fun h => absurd (nI_le (b := 3) (by omega) (by decide)) h)
    refine tv_iconst (v := 0) (pc := 37) dD_part_37 (by decide) ?_
    refine tv_putI (ty := .int) (pc := 38) 0 tyD_ tb_56 (by rfl) uwD_ (by decide) wm_662 okD_ nmD_ (by rfl) (by decide +kernel) (by rfl) (by rfl) (by rfl) dD_part_38 ?_
    refine tv_aload_n (pc := 41) dD_part_41 (by rfl) ?_
    refine tv_getI (pc := 42) 0 tb_56 (by rfl) uwD_ (by decide) wm_662 (by rfl) dD_part_42 ?_
    refine tv_if_le (pc := 45) 50 dD_part_45 (by decide) (fun _ => ?_) (fun h => absurd (by rw [tc_up_self]; decide) h)
    refine tv_bipush (v := 16) (pc := 50) dD_part_50 (by decide) ?_
    refine tv_iload_n (pc := 52) dD_part_52 (by rfl) ?_
    refine tv_iadd (pc := 53) dD_part_53 ?_
    refine tv_istore3 (pc := 54) dD_part_54 (by rfl) ?_
    refine tv_iload_n (pc := 55) dD_part_55 (by rfl) ?_
    refine tv_if_ne (pc := 56) 68 dD_part_56 (by decide) (fun _ => ?_) (fun h => absurd h (by decide))
    refine tv_iload_n (pc := 68) dD_part_68 (by rfl) ?_
    refine tv_iconst (v := 1) (pc := 69) dD_part_69 (by decide) ?_
    refine tv_icmp_ne (pc := 70) 82 dD_part_70 (by decide) (fun _ => ?_) (fun h => absurd h (by decide))
    refine tv_iload_n (pc := 82) dD_part_82 (by rfl) ?_
    refine tv_iconst (v := 2) (pc := 83) dD_part_83 (by decide) ?_
    refine tv_icmp_ne (pc := 84) 96 dD_part_84 (by decide) (fun h => absurd h (fun z => z rfl)) (fun _ => ?_)
    refine tv_aload_n (pc := 87) dD_part_87 (by rfl) ?_
    refine tv_getR (pc := 88) 4 tb_56 (by rfl) uwD_ (by decide) wm_666 (by rfl) dD_part_88 ?_
    refine tv_iload_n (pc := 91) dD_part_91 (by rfl) ?_
    refine tv_iald (pc := 92) tb_59 (by assumption) dD_part_92 ?_
    refine tv_goto (pc := 93) 102 dD_part_93 (by decide) ?_
    exact tv_iret (pc := 102) dD_part_102 rfl (Nat.le_refl _) (Nat.le_refl _) ⟨by rw [tc_up_ne (by decide), pm_of (by decide)], rfl⟩
  · skip
    refine tv_aload_n (pc := 0) dD_part_0 (by rfl) ?_
    refine tv_aload_n (pc := 1) dD_part_1 (by rfl) ?_
    refine tv_getI (pc := 2) 6 tb_56 (by rfl) uwD_ (by decide) wm_668 (by rfl) dD_part_2 ?_
    refine tv_if_ne (pc := 5) 12 dD_part_5 (by decide) (fun _ => ?_) (fun h => absurd h (by rw [hm]; decide))
    refine tv_iload_n (pc := 12) dD_part_12 (by rfl) ?_
    refine tv_if_lt (pc := 13) 33 dD_part_13 (by decide) (fun h => absurd h (nI_pos (by omega))) (fun _ => ?_)
    refine tv_iload_n (pc := 16) dD_part_16 (by rfl) ?_
    refine tv_aload_n (pc := 17) dD_part_17 (by rfl) ?_
    refine tv_getI (pc := 18) 1 tb_56 (by rfl) uwD_ (by decide) wm_663 (by rfl) dD_part_18 ?_
    refine tv_icmp_ge (pc := 21) 33 dD_part_21 (by decide) (fun h => absurd h (by rw [hs]; exact nI_ge hi (by omega))) (fun _ => ?_)
    refine tv_iload_n (pc := 24) dD_part_24 (by rfl) ?_
    refine tv_if_lt (pc := 25) 33 dD_part_25 (by decide) (fun h => absurd h (nI_pos (by omega))) (fun _ => ?_)
    refine tv_iload_n (pc := 28) dD_part_28 (by rfl) ?_
    refine tv_iconst (v := 3) (pc := 29) dD_part_29 (by decide) ?_
    refine tv_icmp_le (pc := 30) 37 dD_part_30 (by decide) (fun _ => ?_) (fun h => absurd (nI_le (b := 3) (by omega) (by decide)) h)
    refine tv_iconst (v := 0) (pc := 37) dD_part_37 (by decide) ?_
    refine tv_putI (ty := .int) (pc := 38) 0 tyD_ tb_56 (by rfl) uwD_ (by decide) wm_662 okD_ nmD_ (by rfl) (by decide +kernel) (by rfl) (by rfl) (by rfl) dD_part_38 ?_
    refine tv_aload_n (pc := 41) dD_part_41 (by rfl) ?_
    refine tv_getI (pc := 42) 0 tb_56 (by rfl) uwD_ (by decide) wm_662 (by rfl) dD_part_42 ?_
    refine tv_if_le (pc := 45) 50 dD_part_45 (by decide) (fun _ => ?_) (fun h => absurd (by rw [tc_up_self]; decide) h)
    refine tv_bipush (v := 16) (pc := 50) dD_part_50 (by decide) ?_
    refine tv_iload_n (pc := 52) dD_part_52 (by rfl) ?_
    refine tv_iadd (pc := 53) dD_part_53 ?_
    refine tv_istore3 (pc := 54) dD_part_54 (by rfl) ?_
    refine tv_iload_n (pc := 55) dD_part_55 (by rfl) ?_
    refine tv_if_ne (pc := 56) 68 dD_part_56 (by decide) (fun _ => ?_) (fun h => absurd h (by decide))
    refine tv_iload_n (pc := 68) dD_part_68 (by rfl) ?_
    refine tv_iconst (v := 1) (pc := 69) dD_part_69 (by decide) ?_
    refine tv_icmp_ne (pc := 70) 82 dD_part_70 (by decide) (fun _ => ?_) (fun h => absurd h (by decide))
    refine tv_iload_n (pc := 82) dD_part_82 (by rfl) ?_
    refine tv_iconst (v := 2) (pc := 83) dD_part_83 (by decide) ?_
    refine tv_icmp_ne (pc := 84) 96 dD_part_84 (by decide) (fun _ => ?_) (fun h => absurd h (by decide))
    refine tv_aload_n (pc := 96) dD_part_96 (by rfl) ?_
    refine tv_getR (pc := 97) 5 tb_56 (by rfl) uwD_ (by decide) wm_667 (by rfl) dD_part_97 ?_
    refine tv_iload_n (pc := 100) dD_part_100 (by rfl) ?_
    refine tv_iald (pc := 101) tb_60 (by assumption) dD_part_101 ?_
    exact tv_iret (pc := 102) dD_part_102 rfl (Nat.le_refl _) (Nat.le_refl _) ⟨by rw [tc_up_ne (by decide), pm_of (by decide)], rfl⟩
theorem og_one {P : tp_P} {b : Nat} {c d : Int32} (h : og_v P b c) (h2 : og_v P b d) : c = d := by
  rcases h with ⟨e1, e2⟩ | ⟨e1, e2, e3⟩ <;> rcases h2 with ⟨f1, f2⟩ | ⟨f1, f2, f3⟩
  · rw [e2, f2]
  · omega
  · omega
  · rw [e3, f3]
theorem gt0_F {x : Int32} : x &&& 65536 ≤ 0 ↔ bq x 16 = false := by
  have h : x &&& 65536 = if bq x 16 = true then 65536 else 0 := by
    apply bq_ext
    intro i hi
    rw [bq_and, bq_F i hi]
    by_cases e : i = 16
    · subst e; rw [decide_eq_true rfl, Bool.and_true]; cases z : bq x 16
      · rw [if_neg (by decide), bq_0]
      · rw [if_pos rfl, bq_F 16 (by omega)]; rfl
    · rw [decide_eq_false e, Bool.and_false]; split
      · rw [bq_F i hi, decide_eq_false e]
      · rw [bq_0]
  rw [h]
  cases z : bq x 16
  · rw [if_neg (by decide)]; exact ⟨fun _ => rfl, fun _ => Int32.le_refl _⟩
  · rw [if_pos rfl]; exact ⟨fun q => absurd q (by decide), fun q => absurd q (by decide)⟩
theorem gt0_U {x : Int32} : x &&& 131072 ≤ 0 ↔ bq x 17 = false := by
  have h : x &&& 131072 = if bq x 17 = true then 131072 else 0 := by
    apply bq_ext
    intro i hi
    rw [bq_and, bq_U i hi]
    by_cases e : i = 17
    · subst e; rw [decide_eq_true rfl, Bool.and_true]; cases z : bq x 17
      · rw [if_neg (by decide), bq_0]
      · rw [if_pos rfl, bq_U 17 (by omega)]; rfl
    · rw [decide_eq_false e, Bool.and_false]; split
      · rw [bq_U i hi, decide_eq_false e]
      · rw [bq_0]
  rw [h]
  cases z : bq x 17
  · rw [if_neg (by decide)]; exact ⟨fun _ => rfl, fun _ => Int32.le_refl _⟩
  · rw [if_pos rfl]; exact ⟨fun q => absurd q (by decide), fun q => absurd q (by decide)⟩
def ic_F (u v : tc_S) : Prop := (∀ q, q ≠ 56 → v q = u q) ∧ ∀ j, j ≠ 26 → v 56 j = u 56 j
theorem ic_F.rf {u : tc_S} : ic_F u u := ⟨fun _ _ => rfl, fun _ _ => rfl⟩
theorem ic_up {u v : tc_S} {x : Int32} (h : ic_F u v) : ic_F u (tc_up v 56 26 x) := ⟨fun q hq => (tc_up_ne hq).trans (h.1 q hq), fun j hj => (tc_up_at hj).trans (h.2 j hj)⟩
/-- origins that were looked at before line p -/
def ic_S (x : Int32) (p b : Nat) : Prop := bq x b = true ∧ (b = 16 ∨ b < p)
/-- the least place of a holder -/
def tp_pl (n : Nat) (P P1 : tp_P) (q x : Nat) (r : Int32) : Prop := (∃ a, a < 6 ∧ r = nI a ∧ tp_k n P P1 q x a ∧ ∀ b, b < a → ¬ tp_k n P P1 q x b) ∨ ((∀ b, b < 6 → ¬ tp_k n P P1 q x b) ∧ (((∃ c, tp_v n P q x c) ∧ r = 6) ∨ ((¬ ∃ c, tp_v n P q x c) ∧ r = -1)))
theorem tp_pl_one {n : Nat} {P P1 : tp_P} {q x : Nat} {r r' : Int32} (h : tp_pl n P P1 q x r) (h2 : tp_pl n P P1 q x r') : r = r' := by
  rcases h with ⟨a, ha, e, hk, hb⟩ | ⟨hb, h⟩ <;> rcases h2 with ⟨a', ha', e', hk', hb'⟩ | ⟨hb', h'⟩
  · have : a = a' := by
      rcases Nat.lt_trichotomy a a' with z | z | z
      · exact absurd hk (hb' a z)
      · exact z
      · exact absurd hk' (hb a' z)
    rw [e, e', this]
  · exact absurd hk (hb' a ha)
  · exact absurd hk' (hb a' ha')
  · rcases h with h | h <;> rcases h' with h' | h'
    · rw [h.2, h'.2]
    · exact absurd h.1 h'.1
    · exact absurd h'.1 h.1
    · rw [h.2, h'.2]
set_option maxRecDepth 100000 in
set_option maxHeartbeats 4000000 in
theorem c_D_isConstant (l : Launch) (G : tc_G) (u : tc_S) {n q x : Nat} (hs : u 56 1 = nI n) (hn : n ≤ 16) (hq : q ≤ n) (hx : x < 9) (hR : fc_R n (pm u 0) (pm u 16) (u 68) (u 69)) {X : Int32} (hX : tc_ix X 153 (9 * q + x)) : tc_C tcx G l yD_isConstant wD_isConstant r0D_isConstant 0 0 [.ref (tc_ad G 56), .int X] u (tc_KI (fun r0 v => r0 = tp_b (∃ c, tp_v n (pm u 0) q x c) ∧ ic_F u v ∧ ∀ c, tp_v n (pm u 0) q x c → v 56 26 = c)) := by
  refine tw_ofV (own := "TracedCodeModel") [some (.ref (tc_ad G 56)), some (.int X), none, none, none] (by decide +kernel) rfl (Nat.le_of_ble_eq_true rfl) (by rfl) (fun p e s m args below meth c => ?_)
  have hv := hR.2.1 q hq x hx
  have hsome := hR.2.2.1 q hq x hx
  have hlt := hR.2.2.2.2 q hq x hx
  have loop : bq (u 69 (9 * q + x)) 17 = false → ∀ (d i : Nat) (v : tc_S) (s0 : Int32), i + d = n → ic_F u v → ((s0 = 0 ∧ (∀ b, ¬ ic_S (u 69 (9 * q + x)) i b)) ∨ (s0 = 1 ∧ (∃ b, b < 32 ∧ ic_S (u 69 (9 * q + x)) i b) ∧ ∀ b, b < 32 → ic_S (u 69 (9 * q + x)) i b → og_v (pm u 0) b (v 56 26))) → tc_V tcx G p l e r0D_isConstant s m args below meth c bD_isConstant 5 tw "TracedCodeModel" (some .boolean) [] (MQ below (tc_Qc tcx G (tc_KI (fun r0 v => r0 = tp_b (∃ c, tp_v n (pm u 0) q x c) ∧ ic_F u v ∧ ∀ c, tp_v n (pm u 0) q x c → v 56 26 = c)) s.heap.size) args s 0 0 (tc_A tcx G s.heap.size)) 0 0 v 37 [some (.ref (tc_ad G 56)), some (.int X), some (.int (u 69 (9 * q + x))), some (.int s0), some (.int (nI i))] [] := by
    intro h17 d
    induction d with
    | zero =>
      intro i v s0 hd hF hS
      have hi : i = n := by omega
      subst hi
      have hv1 : v 56 1 = nI i := by rw [hF.2 1 (by decide)]; exact hs
      have hyes : s0 = 1 ∧ ∀ b, b < 32 → bq (u 69 (9 * q + x)) b = true → og_v (pm u 0) b (v 56 26) := by
        have hin : ∀ b, b < 32 → bq (u 69 (9 * q + x)) b = true → ic_S (u 69 (9 * q + x)) i b := fun b hb hz => ⟨hz, by
          rcases hlt b hb hz with z | z | z
          · exact Or.inr z
          · exact Or.inl z
          · subst z; rw [h17] at hz; exact absurd hz (by decide)⟩
        rcases hS with ⟨-, h⟩ | ⟨h1, -, h⟩
        · obtain ⟨b, hb, hz⟩ := hsome
          exact absurd (hin b hb hz) (h b)
        · exact ⟨h1, fun b hb hz => h b hb (hin b hb hz)⟩
      have hc := (hv (v 56 26)).mpr hyes.2
      refine tv_iload (pc := 37) dD_isConstant_37 (by rfl) ?_
      refine tv_aload_n (pc := 39) dD_isConstant_39 (by rfl) ?_
      refine tv_getI (pc := 40) 1 tb_56 (by rfl) uwD_ (by decide) wm_663 (by rfl) dD_isConstant_40 ?_
      refine tv_icmp_ge (pc := 43) 105 dD_isConstant_43 (by decide) (fun _ => ?_) (fun h => absurd (by rw [hv1]; exact Int32.le_refl _) h)
      refine tv_iload_n (pc := 105) dD_isConstant_105 (by rfl) ?_
      exact tv_zret (pc := 106) dD_isConstant_106 rfl (Nat.le_refl _) (Nat.le_refl _) (by rw [hyes.1]; rfl) ⟨_, rfl, by rw [hyes.1, tp_b_t ⟨_, hc⟩], hF, fun c hc' => by
        obtain ⟨b, hb, hz⟩ := hsome
        exact og_one (hyes.2 b hb hz) ((hv c).mp hc' b hb hz)⟩
    | succ d ih =>
      intro i v s0 hd hF hS
      have hin : i < n := by omega
      have hv1 : v 56 1 = nI n := by rw [hF.2 1 (by decide)]; exact hs
      have i32 : tc_ix (nI i) 32 i := ix32 (by omega)
      have z57 : v 57 i = pm u 0 0 i := by rw [hF.1 57 (by decide), pm_of (by decide), Nat.zero_add]
      have z59 : v 59 i = pm u 0 2 i := by rw [hF.1 59 (by decide), pm_of (by decide), Nat.zero_add]
      have bitI := bq_shr1 (a := i) (by omega) (u 69 (9 * q + x))
      have more : ∀ b, ic_S (u 69 (9 * q + x)) (i + 1) b → b = i ∨ ic_S (u 69 (9 * q + x)) i b := fun b hb => by
        rcases hb with ⟨h1, h2 | h2⟩
        · exact Or.inr ⟨h1, Or.inl h2⟩
        · by_cases e : b = i
          · exact Or.inl e
          · exact Or.inr ⟨h1, Or.inr (by omega)⟩
      have less : ∀ b, ic_S (u 69 (9 * q + x)) i b → ic_S (u 69 (9 * q + x)) (i + 1) b := fun b hb => ⟨hb.1, hb.2.imp id (fun z => by omega)⟩
      refine tv_iload (pc := 37) dD_isConstant_37 (by rfl) ?_
      refine tv_aload_n (pc := 39) dD_isConstant_39 (by rfl) ?_
      refine tv_getI (pc := 40) 1 tb_56 (by rfl) uwD_ (by decide) wm_663 (by rfl) dD_isConstant_40 ?_
      refine tv_icmp_ge (pc := 43) 105 dD_isConstant_43 (by decide) (fun h => absurd h (by rw [hv1]; exact nI_ge hin (by omega))) (fun _ => ?_)
      refine tv_iload_n (pc := 46) dD_isConstant_46 (by rfl) ?_
      refine tv_iload (pc := 47) dD_isConstant_47 (by rfl) ?_
      refine tv_ishr (pc := 49) dD_isConstant_49 ?_
      refine tv_iconst (v := 1) (pc := 50) dD_isConstant_50 (by decide) ?_
      refine tv_iand (pc := 51) dD_isConstant_51 ?_
      refine tv_iconst (v := 1) (pc := 52) dD_isConstant_52 (by decide) ?_
      refine tv_icmp_ne (pc := 53) 99 dD_isConstant_53 (by decide) (fun h53 => ?_) (fun h53 => ?_)
      · skip
        first
        | (have hz : ¬ ((u 69 (9 * q + x)) >>> (nI i &&& 31)) &&& 1 = 1 := (by assumption)
           have hnb : ¬ bq (u 69 (9 * q + x)) i = true := fun q => hz (bitI.mpr q)
           have ha := ih (i + 1) v s0 (by omega) hF (hS.imp (fun h => ⟨h.1, fun b hb => (more b hb).elim (fun e => hnb (e ▸ hb.1)) (h.2 b)⟩) (fun h => ⟨h.1, h.2.1.imp (fun b hb => ⟨hb.1, less b hb.2⟩), fun b hb hSb => (more b hSb).elim (fun e => absurd (e ▸ hSb.1) hnb) (h.2.2 b hb)⟩))
           rw [← nI_1] at ha)
        | (have hbit : bq (u 69 (9 * q + x)) i = true := bitI.mp (by assumption)
           have hk : pm u 0 0 i = 0 := (by assumption)
           have ogi : og_v (pm u 0) i (pm u 0 2 i) := Or.inr ⟨by omega, hk, rfl⟩
           have ha := ih (i + 1) (tc_up v 56 26 (pm u 0 2 i)) 1 (by omega) (ic_up hF) (Or.inr ⟨rfl, ⟨i, by omega, hbit, Or.inr (by omega)⟩, fun b hb hSb => by
             rw [tc_up_self]
             rcases more b hSb with e | e
             · rw [e]; exact ogi
             · rcases hS with ⟨-, h⟩ | ⟨h1, -, h⟩
               · exact absurd e (h b)
               · first
                   | (have he : pm u 0 2 i = v 56 26 := (by assumption)
                      rw [he]; exact h b hb e)
                   | (have he : s0 = 0 := (by assumption)
                      rw [h1] at he; exact absurd he (by decide))⟩)
           rw [← nI_1] at ha)
        refine tv_iinc4 (v := 1) (pc := 99) dD_isConstant_99 (by decide) (by rfl) ?_
        refine tv_goto (pc := 102) 37 dD_isConstant_102 (by decide) ?_
        exact ha
      · skip
        refine tv_aload_n (pc := 56) dD_isConstant_56 (by rfl) ?_
        refine tv_getR (pc := 57) 2 tb_56 (by rfl) uwD_ (by decide) wm_664 (by rfl) dD_isConstant_57 ?_
        refine tv_iload (pc := 60) dD_isConstant_60 (by rfl) ?_
        refine tv_iald (pc := 62) tb_57 i32 dD_isConstant_62 ?_
        rw [z57]
        refine tv_if_ne (pc := 63) 84 dD_isConstant_63 (by decide) (fun h63 => ?_) (fun h63 => ?_)
        · skip
          have hbit : bq (u 69 (9 * q + x)) i = true := bitI.mp (by assumption)
          have hno : ¬ ∃ c, tp_v n (pm u 0) q x c := by
            rintro ⟨c, hc⟩
            rcases (hv c).mp hc i (by omega) hbit with z | z
            · omega
            · first
                | (have hk : ¬ pm u 0 0 i = 0 := (by assumption)
                   exact hk z.2.1)
                | (have hne : ¬ pm u 0 2 i = v 56 26 := (by assumption)
                   rcases hS with ⟨h0, -⟩ | ⟨-, ⟨b, hb, hSb⟩, h⟩
                   · exact absurd h0 (by assumption)
                   · exact hne (by rw [← z.2.2]; exact og_one ((hv c).mp hc b hb hSb.1) (h b hb hSb)))
          refine tv_iconst (v := 0) (pc := 84) dD_isConstant_84 (by decide) ?_
          exact tv_zret (pc := 85) dD_isConstant_85 rfl (Nat.le_refl _) (Nat.le_refl _) (by rfl) ⟨_, rfl, by rw [tp_b_f hno], hF, fun c hc => absurd ⟨c, hc⟩ hno⟩
        · skip
          refine tv_iload_n (pc := 66) dD_isConstant_66 (by rfl) ?_
          refine tv_if_eq (pc := 67) 86 dD_isConstant_67 (by decide) (fun h67 => ?_) (fun h67 => ?_)
          · skip
            refine tv_aload_n (pc := 86) dD_isConstant_86 (by rfl) ?_
            refine tv_aload_n (pc := 87) dD_isConstant_87 (by rfl) ?_
            refine tv_getR (pc := 88) 4 tb_56 (by rfl) uwD_ (by decide) wm_666 (by rfl) dD_isConstant_88 ?_
            refine tv_iload (pc := 91) dD_isConstant_91 (by rfl) ?_
            refine tv_iald (pc := 93) tb_59 i32 dD_isConstant_93 ?_
            rw [z59]
            refine tv_putI (ty := .int) (pc := 94) 26 tyD_ tb_56 (by rfl) uwD_ (by decide) wm_688 okD_ nmD_ (by rfl) (by decide +kernel) (by rfl) (by rfl) (by rfl) dD_isConstant_94 ?_
            refine tv_iconst (v := 1) (pc := 97) dD_isConstant_97 (by decide) ?_
            refine tv_istore3 (pc := 98) dD_isConstant_98 (by rfl) ?_
            first
            | (have hz : ¬ ((u 69 (9 * q + x)) >>> (nI i &&& 31)) &&& 1 = 1 := (by assumption)
               have hnb : ¬ bq (u 69 (9 * q + x)) i = true := fun q => hz (bitI.mpr q)
               have ha := ih (i + 1) v s0 (by omega) hF (hS.imp (fun h => ⟨h.1, fun b hb => (more b hb).elim (fun e => hnb (e ▸ hb.1)) (h.2 b)⟩) (fun h => ⟨h.1, h.2.1.imp (fun b hb => ⟨hb.1, less b hb.2⟩), fun b hb hSb => (more b hSb).elim (fun e => absurd (e ▸ hSb.1) hnb) (h.2.2 b hb)⟩))
               rw [← nI_1] at ha)
            | (have hbit : bq (u 69 (9 * q + x)) i = true := bitI.mp (by assumption)
               have hk : pm u 0 0 i = 0 := (by assumption)
               have ogi : og_v (pm u 0) i (pm u 0 2 i) := Or.inr ⟨by omega, hk, rfl⟩
               have ha := ih (i + 1) (tc_up v 56 26 (pm u 0 2 i)) 1 (by omega) (ic_up hF) (Or.inr ⟨rfl, ⟨i, by omega, hbit, Or.inr (by omega)⟩, fun b hb hSb => by
                 rw [tc_up_self]
                 rcases more b hSb with e | e
                 · rw [e]; exact ogi
                 · rcases hS with ⟨-, h⟩ | ⟨h1, -, h⟩
                   · exact absurd e (h b)
                   · first
                       | (have he : pm u 0 2 i = v 56 26 := (by assumption)
                          rw [he]; exact h b hb e)
                       | (have he : s0 = 0 := (by assumption)
                          rw [h1] at he; exact absurd he (by decide))⟩)
               rw [← nI_1] at ha)
            refine tv_iinc4 (v := 1) (pc := 99) dD_isConstant_99 (by decide) (by rfl) ?_
            refine tv_goto (pc := 102) 37 dD_isConstant_102 (by decide) ?_
            exact ha
          · skip
            refine tv_aload_n (pc := 70) dD_isConstant_70 (by rfl) ?_
            refine tv_getR (pc := 71) 4 tb_56 (by rfl) uwD_ (by decide) wm_666 (by rfl) dD_isConstant_71 ?_
            refine tv_iload (pc := 74) dD_isConstant_74 (by rfl) ?_
            refine tv_iald (pc := 76) tb_59 i32 dD_isConstant_76 ?_
            rw [z59]
            refine tv_aload_n (pc := 77) dD_isConstant_77 (by rfl) ?_
            refine tv_getI (pc := 78) 26 tb_56 (by rfl) uwD_ (by decide) wm_688 (by rfl) dD_isConstant_78 ?_
            refine tv_icmp_eq (pc := 81) 86 dD_isConstant_81 (by decide) (fun h81 => ?_) (fun h81 => ?_)
            · skip
              refine tv_aload_n (pc := 86) dD_isConstant_86 (by rfl) ?_
              refine tv_aload_n (pc := 87) dD_isConstant_87 (by rfl) ?_
              refine tv_getR (pc := 88) 4 tb_56 (by rfl) uwD_ (by decide) wm_666 (by rfl) dD_isConstant_88 ?_
              refine tv_iload (pc := 91) dD_isConstant_91 (by rfl) ?_
              refine tv_iald (pc := 93) tb_59 i32 dD_isConstant_93 ?_
              rw [z59]
              refine tv_putI (ty := .int) (pc := 94) 26 tyD_ tb_56 (by rfl) uwD_ (by decide) wm_688 okD_ nmD_ (by rfl) (by decide +kernel) (by rfl) (by rfl) (by rfl) dD_isConstant_94 ?_
              refine tv_iconst (v := 1) (pc := 97) dD_isConstant_97 (by decide) ?_
              refine tv_istore3 (pc := 98) dD_isConstant_98 (by rfl) ?_
              first
              | (have hz : ¬ ((u 69 (9 * q + x)) >>> (nI i &&& 31)) &&& 1 = 1 := (by assumption)
                 have hnb : ¬ bq (u 69 (9 * q + x)) i = true := fun q => hz (bitI.mpr q)
                 have ha := ih (i + 1) v s0 (by omega) hF (hS.imp (fun h => ⟨h.1, fun b hb => (more b hb).elim (fun e => hnb (e ▸ hb.1)) (h.2 b)⟩) (fun h => ⟨h.1, h.2.1.imp (fun b hb => ⟨hb.1, less b hb.2⟩), fun b hb hSb => (more b hSb).elim (fun e => absurd (e ▸ hSb.1) hnb) (h.2.2 b hb)⟩))
                 rw [← nI_1] at ha)
              | (have hbit : bq (u 69 (9 * q + x)) i = true := bitI.mp (by assumption)
                 have hk : pm u 0 0 i = 0 := (by assumption)
                 have ogi : og_v (pm u 0) i (pm u 0 2 i) := Or.inr ⟨by omega, hk, rfl⟩
                 have ha := ih (i + 1) (tc_up v 56 26 (pm u 0 2 i)) 1 (by omega) (ic_up hF) (Or.inr ⟨rfl, ⟨i, by omega, hbit, Or.inr (by omega)⟩, fun b hb hSb => by
                   rw [tc_up_self]
                   rcases more b hSb with e | e
                   · rw [e]; exact ogi
                   · rcases hS with ⟨-, h⟩ | ⟨h1, -, h⟩
                     · exact absurd e (h b)
                     · first
                         | (have he : pm u 0 2 i = v 56 26 := (by assumption)
                            rw [he]; exact h b hb e)
                         | (have he : s0 = 0 := (by assumption)
                            rw [h1] at he; exact absurd he (by decide))⟩)
                 rw [← nI_1] at ha)
              refine tv_iinc4 (v := 1) (pc := 99) dD_isConstant_99 (by decide) (by rfl) ?_
              refine tv_goto (pc := 102) 37 dD_isConstant_102 (by decide) ?_
              exact ha
            · skip
              have hbit : bq (u 69 (9 * q + x)) i = true := bitI.mp (by assumption)
              have hno : ¬ ∃ c, tp_v n (pm u 0) q x c := by
                rintro ⟨c, hc⟩
                rcases (hv c).mp hc i (by omega) hbit with z | z
                · omega
                · first
                    | (have hk : ¬ pm u 0 0 i = 0 := (by assumption)
                       exact hk z.2.1)
                    | (have hne : ¬ pm u 0 2 i = v 56 26 := (by assumption)
                       rcases hS with ⟨h0, -⟩ | ⟨-, ⟨b, hb, hSb⟩, h⟩
                       · exact absurd h0 (by assumption)
                       · exact hne (by rw [← z.2.2]; exact og_one ((hv c).mp hc b hb hSb.1) (h b hb hSb)))
              refine tv_iconst (v := 0) (pc := 84) dD_isConstant_84 (by decide) ?_
              exact tv_zret (pc := 85) dD_isConstant_85 rfl (Nat.le_refl _) (Nat.le_refl _) (by rfl) ⟨_, rfl, by rw [tp_b_f hno], hF, fun c hc => absurd ⟨c, hc⟩ hno⟩
  have hF0 : ic_F u (tc_up u 56 26 0) := ic_up ic_F.rf
  refine tv_aload_n (pc := 0) dD_isConstant_0 (by rfl) ?_
  refine tv_getR (pc := 1) 16 tb_56 (by rfl) uwD_ (by decide) wm_678 (by rfl) dD_isConstant_1 ?_
  refine tv_iload_n (pc := 4) dD_isConstant_4 (by rfl) ?_
  refine tv_iald (pc := 5) tb_69 hX dD_isConstant_5 ?_
  refine tv_istore2 (pc := 6) dD_isConstant_6 (by rfl) ?_
  refine tv_iload_n (pc := 7) dD_isConstant_7 (by rfl) ?_
  refine tv_ldc (pc := 8)  wm_839 dD_isConstant_8 ?_
  refine tv_iand (pc := 10) dD_isConstant_10 ?_
  refine tv_if_le (pc := 11) 18 dD_isConstant_11 (by decide) (fun h11 => ?_) (fun h11 => ?_)
  · skip
    refine tv_iconst (v := 0) (pc := 18) dD_isConstant_18 (by decide) ?_
    refine tv_istore3 (pc := 19) dD_isConstant_19 (by rfl) ?_
    refine tv_aload_n (pc := 20) dD_isConstant_20 (by rfl) ?_
    refine tv_iconst (v := 0) (pc := 21) dD_isConstant_21 (by decide) ?_
    refine tv_putI (ty := .int) (pc := 22) 26 tyD_ tb_56 (by rfl) uwD_ (by decide) wm_688 okD_ nmD_ (by rfl) (by decide +kernel) (by rfl) (by rfl) (by rfl) dD_isConstant_22 ?_
    refine tv_iload_n (pc := 25) dD_isConstant_25 (by rfl) ?_
    refine tv_ldc (pc := 26)  wm_840 dD_isConstant_26 ?_
    refine tv_iand (pc := 28) dD_isConstant_28 ?_
    refine tv_if_le (pc := 29) 34 dD_isConstant_29 (by decide) (fun h29 => ?_) (fun h29 => ?_)
    · skip
      refine tv_iconst (v := 0) (pc := 34) dD_isConstant_34 (by decide) ?_
      refine tv_istore4 (pc := 35) dD_isConstant_35 (by rfl) ?_
      have h17 : bq (u 69 (9 * q + x)) 17 = false := gt0_U.mp (by assumption)
      first
      | (have hz : (u 69 (9 * q + x)) &&& 65536 ≤ 0 := (by assumption)
         have h16 := gt0_F.mp hz
         exact loop h17 n 0 _ 0 (by omega) hF0 (Or.inl ⟨rfl, fun b hb => by
           rcases hb with ⟨h1, h2 | h2⟩
           · subst h2; rw [h16] at h1; exact absurd h1 (by decide)
           · omega⟩))
      | (have hz : ¬ (u 69 (9 * q + x)) &&& 65536 ≤ 0 := (by assumption)
         have h16 : bq (u 69 (9 * q + x)) 16 = true := bq_t (fun z => hz (gt0_F.mpr z))
         exact loop h17 n 0 _ 1 (by omega) hF0 (Or.inr ⟨rfl, ⟨16, by omega, h16, Or.inl rfl⟩, fun b hb hSb => by
           rcases hSb with ⟨h1, h2 | h2⟩
           · subst h2; exact Or.inl ⟨rfl, tc_up_self⟩
           · omega⟩))
    · skip
      refine tv_iconst (v := 0) (pc := 32) dD_isConstant_32 (by decide) ?_
      exact tv_zret (pc := 33) dD_isConstant_33 rfl (Nat.le_refl _) (Nat.le_refl _) (by rfl) (by
      have h17 : bq (u 69 (9 * q + x)) 17 = true := bq_t (fun z => absurd (gt0_U.mpr z) (by assumption))
      have hno : ¬ ∃ c, tp_v n (pm u 0) q x c := by
        rintro ⟨c, hc⟩
        rcases (hv c).mp hc 17 (by omega) h17 with z | z <;> omega
      exact ⟨_, rfl, by rw [tp_b_f hno], hF0, fun c hc => absurd ⟨c, hc⟩ hno⟩)
  · skip
    refine tv_iconst (v := 1) (pc := 14) dD_isConstant_14 (by decide) ?_
    refine tv_goto (pc := 15) 19 dD_isConstant_15 (by decide) ?_
    refine tv_istore3 (pc := 19) dD_isConstant_19 (by rfl) ?_
    refine tv_aload_n (pc := 20) dD_isConstant_20 (by rfl) ?_
    refine tv_iconst (v := 0) (pc := 21) dD_isConstant_21 (by decide) ?_
    refine tv_putI (ty := .int) (pc := 22) 26 tyD_ tb_56 (by rfl) uwD_ (by decide) wm_688 okD_ nmD_ (by rfl) (by decide +kernel) (by rfl) (by rfl) (by rfl) dD_isConstant_22 ?_
    refine tv_iload_n (pc := 25) dD_isConstant_25 (by rfl) ?_
    refine tv_ldc (pc := 26)  wm_840 dD_isConstant_26 ?_
    refine tv_iand (pc := 28) dD_isConstant_28 ?_
    refine tv_if_le (pc := 29) 34 dD_isConstant_29 (by decide) (fun h29 => ?_) (fun h29 => ?_)
    · skip
      refine tv_iconst (v := 0) (pc := 34) dD_isConstant_34 (by decide) ?_
      refine tv_istore4 (pc := 35) dD_isConstant_35 (by rfl) ?_
      have h17 : bq (u 69 (9 * q + x)) 17 = false := gt0_U.mp (by assumption)
      first
      | (have hz : (u 69 (9 * q + x)) &&& 65536 ≤ 0 := (by assumption)
         have h16 := gt0_F.mp hz
         exact loop h17 n 0 _ 0 (by omega) hF0 (Or.inl ⟨rfl, fun b hb => by
           rcases hb with ⟨h1, h2 | h2⟩
           · subst h2; rw [h16] at h1; exact absurd h1 (by decide)
           · omega⟩))
      | (have hz : ¬ (u 69 (9 * q + x)) &&& 65536 ≤ 0 := (by assumption)
         have h16 : bq (u 69 (9 * q + x)) 16 = true := bq_t (fun z => hz (gt0_F.mpr z))
         exact loop h17 n 0 _ 1 (by omega) hF0 (Or.inr ⟨rfl, ⟨16, by omega, h16, Or.inl rfl⟩, fun b hb hSb => by
           rcases hSb with ⟨h1, h2 | h2⟩
           · subst h2; exact Or.inl ⟨rfl, tc_up_self⟩
           · omega⟩))
    · skip
      refine tv_iconst (v := 0) (pc := 32) dD_isConstant_32 (by decide) ?_
      exact tv_zret (pc := 33) dD_isConstant_33 rfl (Nat.le_refl _) (Nat.le_refl _) (by rfl) (by
      have h17 : bq (u 69 (9 * q + x)) 17 = true := bq_t (fun z => absurd (gt0_U.mpr z) (by assumption))
      have hno : ¬ ∃ c, tp_v n (pm u 0) q x c := by
        rintro ⟨c, hc⟩
        rcases (hv c).mp hc 17 (by omega) h17 with z | z <;> omega
      exact ⟨_, rfl, by rw [tp_b_f hno], hF0, fun c hc => absurd ⟨c, hc⟩ hno⟩)
set_option maxRecDepth 100000 in
set_option maxHeartbeats 4000000 in
theorem c_D_placeOf (l : Launch) (G : tc_G) (u : tc_S) {n q x : Nat} (hs : u 56 1 = nI n) (hn : n ≤ 16) (hq : q ≤ n) (hx : x < 3) (hR : fc_R n (pm u 0) (pm u 16) (u 68) (u 69)) (hre : ∀ i, i ≤ n → u 65 i = 1) : tc_C tcx G l yD_placeOf wD_placeOf r0D_placeOf 0 0 [.ref (tc_ad G 56), .int (nI q), .int (nI x)] u (tc_KI (fun r0 v => tp_pl n (pm u 0) (pm u 16) q (6 + x) r0 ∧ ic_F u v)) := by
  refine tw_ofV (own := "TracedCodeModel") [some (.ref (tc_ad G 56)), some (.int (nI q)), some (.int (nI x)), none, none] (by decide +kernel) rfl (Nat.le_of_ble_eq_true rfl) (by rfl) (fun p e s m args below meth c => ?_)
  have hX : tc_ix (9 * nI q + 6 + nI x) 153 (9 * q + (6 + x)) := by
    have h9 : (9 : Int32) * nI q = nI (9 * q) := by
      rw [show (9 : Int32) = nI 9 from rfl]
      exact (by decide +kernel : ∀ i : Fin 17, nI 9 * nI i.1 = nI (9 * i.1)) ⟨q, by omega⟩
    rw [h9, show (6 : Int32) = nI 6 from rfl, nI_add, nI_add, show 9 * q + 6 + x = 9 * q + (6 + x) by omega]
    exact tc_ixN (by omega) (by decide)
  have i17 : tc_ix (nI q) 17 q := tc_ixN (by omega) (by decide)
  have z65 := hre q hq
  have hk := fun r hr => hR.1 q hq (6 + x) (by omega) r hr
  have hv := hR.2.1 q hq (6 + x) (by omega)
  have ic := c_D_isConstant l G u hs hn hq (x := 6 + x) (by omega) hR hX
  have loop : ∀ (d r : Nat), r + d = 6 → (∀ b, b < r → ¬ tp_k n (pm u 0) (pm u 16) q (6 + x) b) → tc_V tcx G p l e r0D_placeOf s m args below meth c bD_placeOf 5 tw "TracedCodeModel" (some .int) [] (MQ below (tc_Qc tcx G (tc_KI (fun r0 v => tp_pl n (pm u 0) (pm u 16) q (6 + x) r0 ∧ ic_F u v)) s.heap.size) args s 0 0 (tc_A tcx G s.heap.size)) 0 0 u 36 [some (.ref (tc_ad G 56)), some (.int (nI q)), some (.int (nI x)), some (.int (9 * nI q + 6 + nI x)), some (.int (nI r))] [] := by
    intro d
    induction d with
    | zero =>
      intro r hd hb
      have hr : r = 6 := by omega
      subst hr
      refine tv_iload (pc := 36) dD_placeOf_36 (by rfl) ?_
      refine tv_bipush (v := 6) (pc := 38) dD_placeOf_38 (by decide) ?_
      refine tv_icmp_ge (pc := 40) 66 dD_placeOf_40 (by decide) (fun _ => ?_) (fun h => absurd (by decide) h)
      refine tv_aload_n (pc := 66) dD_placeOf_66 (by rfl) ?_
      refine tv_iload_n (pc := 67) dD_placeOf_67 (by rfl) ?_
      refine tv_callVI (pc := 68) [_] tb_56 (by rfl) ic (kVD_isConstant wm_869 ⟨by decide, by decide⟩) (by rfl) (Nat.le_of_ble_eq_true rfl) dD_placeOf_68 ⟨by decide, by decide⟩ (fun r0 w hw => ?_)
      obtain ⟨er, hwF, hwc⟩ := hw
      rw [er]
      refine tv_if_eq (pc := 71) 79 dD_placeOf_71 (by decide) (fun h71 => ?_) (fun h71 => ?_)
      · skip
        refine tv_iconst (v := (-1)) (pc := 79) dD_placeOf_79 (by decide) ?_
        exact tv_iret (pc := 80) dD_placeOf_80 rfl (Nat.le_refl _) (Nat.le_refl _) (by
        first
          | (have hz : tp_b (∃ c, tp_v n (pm u 0) q (6 + x) c) = 0 := (by assumption)
             exact ⟨_, rfl, Or.inr ⟨hb, Or.inr ⟨tp_b_q hz, rfl⟩⟩, hwF⟩)
          | (have hz : ¬ tp_b (∃ c, tp_v n (pm u 0) q (6 + x) c) = 0 := (by assumption)
             exact ⟨_, rfl, Or.inr ⟨hb, Or.inl ⟨tp_b_p hz, rfl⟩⟩, hwF⟩))
      · skip
        refine tv_bipush (v := 6) (pc := 74) dD_placeOf_74 (by decide) ?_
        refine tv_goto (pc := 76) 80 dD_placeOf_76 (by decide) ?_
        exact tv_iret (pc := 80) dD_placeOf_80 rfl (Nat.le_refl _) (Nat.le_refl _) (by
        first
          | (have hz : tp_b (∃ c, tp_v n (pm u 0) q (6 + x) c) = 0 := (by assumption)
             exact ⟨_, rfl, Or.inr ⟨hb, Or.inr ⟨tp_b_q hz, rfl⟩⟩, hwF⟩)
          | (have hz : ¬ tp_b (∃ c, tp_v n (pm u 0) q (6 + x) c) = 0 := (by assumption)
             exact ⟨_, rfl, Or.inr ⟨hb, Or.inl ⟨tp_b_p hz, rfl⟩⟩, hwF⟩))
    | succ d ih =>
      intro r hd hb
      have hr6 : r < 6 := by omega
      have bit := bq_shr0 (a := r) (by omega) (u 68 (9 * q + (6 + x)))
      refine tv_iload (pc := 36) dD_placeOf_36 (by rfl) ?_
      refine tv_bipush (v := 6) (pc := 38) dD_placeOf_38 (by decide) ?_
      refine tv_icmp_ge (pc := 40) 66 dD_placeOf_40 (by decide) (fun h => absurd h (nI_lt6 hr6)) (fun _ => ?_)
      refine tv_aload_n (pc := 43) dD_placeOf_43 (by rfl) ?_
      refine tv_getR (pc := 44) 15 tb_56 (by rfl) uwD_ (by decide) wm_677 (by rfl) dD_placeOf_44 ?_
      refine tv_iload_n (pc := 47) dD_placeOf_47 (by rfl) ?_
      refine tv_iald (pc := 48) tb_68 hX dD_placeOf_48 ?_
      refine tv_iload (pc := 49) dD_placeOf_49 (by rfl) ?_
      refine tv_ishr (pc := 51) dD_placeOf_51 ?_
      refine tv_iconst (v := 1) (pc := 52) dD_placeOf_52 (by decide) ?_
      refine tv_iand (pc := 53) dD_placeOf_53 ?_
      refine tv_if_ne (pc := 54) 60 dD_placeOf_54 (by decide) (fun h54 => ?_) (fun h54 => ?_)
      · skip
        have hnb : ¬ tp_k n (pm u 0) (pm u 16) q (6 + x) r := fun z => absurd (bit.mpr ((hk r hr6).mp z)) (by assumption)
        have ha := ih (r + 1) (by omega) (fun b hb' => by
          by_cases e : b = r
          · rw [e]; exact hnb
          · exact hb b (by omega))
        rw [← nI_1] at ha
        refine tv_iinc4 (v := 1) (pc := 60) dD_placeOf_60 (by decide) (by rfl) ?_
        refine tv_goto (pc := 63) 36 dD_placeOf_63 (by decide) ?_
        exact ha
      · skip
        refine tv_iload (pc := 57) dD_placeOf_57 (by rfl) ?_
        exact tv_iret (pc := 59) dD_placeOf_59 rfl (Nat.le_refl _) (Nat.le_refl _) ⟨_, rfl, Or.inl ⟨r, hr6, rfl, (hk r hr6).mpr (bit.mp (by assumption)), hb⟩, ic_F.rf⟩
  refine tv_bipush (v := 9) (pc := 0) dD_placeOf_0 (by decide) ?_
  refine tv_iload_n (pc := 2) dD_placeOf_2 (by rfl) ?_
  refine tv_imul (pc := 3) dD_placeOf_3 ?_
  refine tv_bipush (v := 6) (pc := 4) dD_placeOf_4 (by decide) ?_
  refine tv_iadd (pc := 6) dD_placeOf_6 ?_
  refine tv_iload_n (pc := 7) dD_placeOf_7 (by rfl) ?_
  refine tv_iadd (pc := 8) dD_placeOf_8 ?_
  refine tv_istore3 (pc := 9) dD_placeOf_9 (by rfl) ?_
  refine tv_aload_n (pc := 10) dD_placeOf_10 (by rfl) ?_
  refine tv_getR (pc := 11) 11 tb_56 (by rfl) uwD_ (by decide) wm_673 (by rfl) dD_placeOf_11 ?_
  refine tv_iload_n (pc := 14) dD_placeOf_14 (by rfl) ?_
  refine tv_zald (pc := 15) tb_65 i17 dD_placeOf_15 ?_
  refine tv_if_eq (pc := 16) 31 dD_placeOf_16 (by decide) (fun h => absurd h (by rw [z65]; decide)) (fun _ => ?_)
  refine tv_aload_n (pc := 19) dD_placeOf_19 (by rfl) ?_
  refine tv_getR (pc := 20) 16 tb_56 (by rfl) uwD_ (by decide) wm_678 (by rfl) dD_placeOf_20 ?_
  refine tv_iload_n (pc := 23) dD_placeOf_23 (by rfl) ?_
  refine tv_iald (pc := 24) tb_69 hX dD_placeOf_24 ?_
  refine tv_ldc (pc := 25)  wm_840 dD_placeOf_25 ?_
  refine tv_iand (pc := 27) dD_placeOf_27 ?_
  refine tv_if_le (pc := 28) 33 dD_placeOf_28 (by decide) (fun h28 => ?_) (fun h28 => ?_)
  · skip
    refine tv_iconst (v := 0) (pc := 33) dD_placeOf_33 (by decide) ?_
    refine tv_istore4 (pc := 34) dD_placeOf_34 (by rfl) ?_
    exact loop 6 0 (by omega) (fun b hb => absurd hb (by omega))
  · skip
    refine tv_iconst (v := (-1)) (pc := 31) dD_placeOf_31 (by decide) ?_
    exact tv_iret (pc := 32) dD_placeOf_32 rfl (Nat.le_refl _) (Nat.le_refl _) (by
      have h17 : bq (u 69 (9 * q + (6 + x))) 17 = true := bq_t (fun z => absurd (gt0_U.mpr z) (by assumption))
      refine ⟨_, rfl, Or.inr ⟨fun b hb z => ?_, Or.inr ⟨?_, rfl⟩⟩, ic_F.rf⟩
      · have h1 := hR.2.2.2.1 q hq (6 + x) (by omega) h17 b hb
        have h2 := (hk b hb).mp z
        rw [h1] at h2; exact absurd h2 (by decide)
      · rintro ⟨c, hc⟩
        rcases (hv c).mp hc 17 (by omega) h17 with z | z <;> omega)
